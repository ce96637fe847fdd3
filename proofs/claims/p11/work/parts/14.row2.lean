/-! what is asked of rows -/
def seqB (c v : Nat → Nat) (n : Nat) : Bool := decide (∀ q, q < n - 1 → c (v q) ≤ c (v (q + 1)))
def firstB (c v : Nat → Nat) (k : Nat) : Bool := decide (∀ q, q < k → c (v q) ≠ c (v k))
theorem seq_s {f : Nat → Nat} {k : Nat} (h1 : 1 ≤ k) (h : ∀ q, q + 1 < k → f q ≤ f (q + 1)) (hk : f (k - 1) ≤ f k) : ∀ q, q + 1 < k + 1 → f q ≤ f (q + 1) := by
  intro q hq
  by_cases e : q + 1 = k
  · subst e
    rw [Nat.add_sub_cancel] at hk
    exact hk
  · exact h q (by omega)
def sideB (h a b : Nat) : Bool := match h with
  | 0 => decide (a < b)
  | 1 => decide (a ≤ b)
  | 2 => decide (b ≤ a)
  | _ => decide (b < a)
def nearB (h a b : Nat) : Bool := if h ≤ 1 then decide (b < a) else decide (a < b)
theorem near_lot {h a b : Nat} (hh : h ≤ 1) (h2 : b < a) : bI true = bI (nearB h a b) := by rw [nearB, if_pos hh, decide_eq_true h2]
theorem near_lof {h a b : Nat} (hh : h ≤ 1) (h2 : ¬ b < a) : bI false = bI (nearB h a b) := by rw [nearB, if_pos hh, decide_eq_false h2]
theorem near_hit {h a b : Nat} (hh : 1 < h) (h2 : a < b) : bI true = bI (nearB h a b) := by rw [nearB, if_neg (by omega), decide_eq_true h2]
theorem near_hif {h a b : Nat} (hh : 1 < h) (h2 : ¬ a < b) : bI false = bI (nearB h a b) := by rw [nearB, if_neg (by omega), decide_eq_false h2]
def rev (f : Nat → Nat) (n a : Nat) : Nat → Nat := fun k => if k < n ∧ (k < a ∨ n - 1 - k < a) then f (n - 1 - k) else f k
theorem rev_a0 (f : Nat → Nat) (n : Nat) : rev f n 0 = f := by
  funext k
  unfold rev
  rw [if_neg (by omega)]
theorem rev_z (f : Nat → Nat) {n : Nat} (h : n = 0) : rev f n n = f := by
  funext k
  unfold rev
  rw [if_neg (by omega)]
theorem rev_end (f : Nat → Nat) {n a : Nat} (h : n - 1 - a ≤ a) : rev f n a = rev f n n := by
  funext k
  unfold rev
  by_cases hk : k < n
  · rw [if_pos (show k < n ∧ (k < n ∨ n - 1 - k < n) by omega)]
    by_cases h2 : k < n ∧ (k < a ∨ n - 1 - k < a)
    · rw [if_pos h2]
    · rw [if_neg h2, show n - 1 - k = k by omega]
  · rw [if_neg (by omega), if_neg (by omega)]
theorem rev_up (f : Nat → Nat) {n a : Nat} (h : a < n - 1 - a) : xch (rev f n a) a (n - 1 - a) = rev f n (a + 1) := by
  funext k
  unfold xch va_up
  by_cases h1 : k = n - 1 - a
  · subst h1
    rw [if_pos rfl]
    unfold rev
    rw [if_neg (by omega), if_pos (by omega), show n - 1 - (n - 1 - a) = a by omega]
  · rw [if_neg h1]
    by_cases h2 : k = a
    · subst h2
      rw [if_pos rfl]
      unfold rev
      rw [if_neg (by omega), if_pos (by omega)]
    · rw [if_neg h2]
      unfold rev
      by_cases h3 : k < n ∧ (k < a ∨ n - 1 - k < a)
      · rw [if_pos h3, if_pos (by omega)]
      · rw [if_neg h3, if_neg (by omega)]
theorem nI_nm1 {k : Nat} (h : k < 2 ^ 31) : ¬ nI k = (-1) := fun e => absurd (show nI k < 0 by rw [e]; decide) (nI_pos h)
set_option maxHeartbeats 4000000 in
set_option maxRecDepth 100000 in
theorem m_X2_placesUnlike (l : Launch) (dC : Nat → ClassId) (dI : Nat → Nat → Nat) (ad : Nat → Nat) (S : XS) (i t : Nat) (hi : i < 8) (ht : t < 8) (hro : rowOK (S.1 i)) (hro2 : rowOK (S.1 t)) : Met l yX2_placesUnlike wsX2_placesUnlike ({ frames := 1, cells := 0, slots := 0, locals := 21 } : Room) (va_Pc [.ref (ad (3 * i)), .ref (ad (3 * t))] (PX dC dI ad S)) (vp_Si (fun r => r = nI (cntB (fun k => decide ((S.1 i).2.1 k ≠ (S.1 t).2.1 k)) (S.1 i).2.2))) 0 0 (fun _ => False) := by
  refine Met.ofW (cc := cX2_placesUnlike) (maxL := 4) (ret := (some .int)) pl_X2 rfl ?_
  intro p e s m args below meth c s₁ B hml hv
  obtain ⟨rfl, hPX⟩ := hv
  have hx := B.exec
  have hb := B.bytes
  have hr := B.returns
  have hts := atoms_spec (ws := wsX2_placesUnlike) B.pre
  have hown : s.vm.findClass RX2 = some m.cls := findClass_of_methodNamed B.named
  have hlocks := B.notSynchronized
  have hin2 : ∀ w ∈ u_ws RX2 TX2 3, w ∈ wsX2_placesUnlike := tu 1322 (by decide +kernel) rfl
  have hX := WX.of hPX
  have hl := lv_entry ([.ref (ad (3 * i)), .ref (ad (3 * t))]) (n := 4) (Nat.le_of_ble_eq_true rfl)
  rw [lg_entry_eq]
  generalize (lg_sl ([.ref (ad (3 * i)), .ref (ad (3 * t))]) ++ List.replicate (4 - (lg_sl ([.ref (ad (3 * i)), .ref (ad (3 * t))])).length) Slot.unset).toArray = ls at hl ⊢
  have hl : lv_has ls 4 [(0, .ref (ad (3 * i))), (1, .ref (ad (3 * t)))] := hl
  show W p l e ({ frames := 1, cells := 0, slots := 0, locals := 21 } : Room) s m ([.ref (ad (3 * i)), .ref (ad (3 * t))]).toArray below meth c s.heap [] 0 0 (MQ below (vp_Si (fun r => r = nI (cntB (fun k => decide ((S.1 i).2.1 k ≠ (S.1 t).2.1 k)) (S.1 i).2.2))) ([.ref (ad (3 * i)), .ref (ad (3 * t))]).toArray s 0 0 (fun _ => False)) (F0 m 0 ls [])
  have hn := hro.1
  have hm := fun k hk => (hro.2 k hk).2
  have hm2 := fun k hk => (hro2.2 k hk).2
  refine lv_iconst (v := nI 0) hx hb dX2_placesUnlike_0 (by decide) ?_
  refine lv_istore_n (lv' := [(2, .int (nI 0)), (0, .ref (ad (3 * i))), (1, .ref (ad (3 * t)))]) hx hb dX2_placesUnlike_1 rfl hl (by decide) rfl (fun ls hl => ?_)
  refine lv_iconst (v := nI 0) hx hb dX2_placesUnlike_2 (by decide) ?_
  refine lv_istore_n (lv' := [(3, .int (nI 0)), (2, .int (nI 0)), (0, .ref (ad (3 * i))), (1, .ref (ad (3 * t)))]) hx hb dX2_placesUnlike_3 rfl hl (by decide) rfl (fun ls hl => ?_)
  have loop4 : ∀ (fuel : Nat) (q k : Nat) (hk : k ≤ (S.1 i).2.2) (hq : q = cntB (fun k => decide ((S.1 i).2.1 k ≠ (S.1 t).2.1 k)) k), (S.1 i).2.2 - k < fuel → ∀ ls : Array Slot, lv_has ls 4 [(0, .ref (ad (3 * i))), (1, .ref (ad (3 * t))), (2, .int (nI q)), (3, .int (nI k))] → W p l e ({ frames := 1, cells := 0, slots := 0, locals := 21 } : Room) s m ([.ref (ad (3 * i)), .ref (ad (3 * t))]).toArray below meth c s.heap [] 0 0 (MQ below (vp_Si (fun r => r = nI (cntB (fun k => decide ((S.1 i).2.1 k ≠ (S.1 t).2.1 k)) (S.1 i).2.2))) ([.ref (ad (3 * i)), .ref (ad (3 * t))]).toArray s 0 0 (fun _ => False)) (F0 m 4 ls []) := by
    intro fuel
    induction fuel with
    | zero => intro q k hk hq hf; exact absurd hf (Nat.not_lt_zero _)
    | succ fuel ih4 =>
      intro q k hk hq hf ls hl
      refine lv_iload_n hx hb dX2_placesUnlike_4 rfl (lv_at hl 3 rfl) ?_
      refine lv_aload_n hx hb dX2_placesUnlike_5 rfl (lv_at hl 0 rfl) ?_
      refine kr_gn (n := (S.1 i).2.2) hx hb hts hin2 hown hX hi rfl (hts (.fieldLink RX2 18 "Orderlattice$Row" "many" "I") (tm 27 (by decide +kernel) rfl)) dX2_placesUnlike_6 ?_
      refine kn_icmp_ge (tgt := 34) hx hb (by omega) (by omega) dX2_placesUnlike_9 (by decide) (fun c1 => ?_) (fun c1 => ?_)
      · skip
        refine lv_iload_n hx hb dX2_placesUnlike_34 rfl (lv_at hl 2 rfl) ?_
        exact W.iret (v := nI q) hx hb hr (fun t9 ht9 hW9 => ⟨_, rfl, (by rw [hq, show k = (S.1 i).2.2 by omega]), ht9⟩) (fun _ h => nomatch h) dX2_placesUnlike_35
      · skip
        refine lv_aload_n hx hb dX2_placesUnlike_12 rfl (lv_at hl 0 rfl) ?_
        refine lv_iload_n hx hb dX2_placesUnlike_13 rfl (lv_at hl 3 rfl) ?_
        refine kx_cr (v := nI (((S.1 i).2.1) k)) (va_runV (As := [.int (nI k)]) (rest := []) ⟨hx, hb, hml, hown, hts⟩ (m_X2_markOn l dC dI ad S i k hi (by omega)) (cwV 1 hts gX2_placesUnlike_X2_markOn rfl rfl rfl hdX2_markOn_1 ⟨Nat.le_of_ble_eq_true rfl, Nat.le_of_ble_eq_true rfl⟩) (hX.preRow hi) rfl rfl hl.1 rfl (lv_room (Nat.le_of_ble_eq_true rfl)) dX2_placesUnlike_14 ⟨Nat.le_of_ble_eq_true rfl, Nat.le_of_ble_eq_true rfl⟩) (fun _ h => h) ?_
        refine lv_aload_n hx hb dX2_placesUnlike_17 rfl (lv_at hl 1 rfl) ?_
        refine lv_iload_n hx hb dX2_placesUnlike_18 rfl (lv_at hl 3 rfl) ?_
        refine kx_cr (v := nI (((S.1 t).2.1) k)) (va_runV (As := [.int (nI k)]) (rest := [.int (nI (((S.1 i).2.1) k))]) ⟨hx, hb, hml, hown, hts⟩ (m_X2_markOn l dC dI ad S t k ht (by omega)) (cwV 1 hts gX2_placesUnlike_X2_markOn rfl rfl rfl hdX2_markOn_1 ⟨Nat.le_of_ble_eq_true rfl, Nat.le_of_ble_eq_true rfl⟩) (hX.preRow ht) rfl rfl hl.1 rfl (lv_room (Nat.le_of_ble_eq_true rfl)) dX2_placesUnlike_19 ⟨Nat.le_of_ble_eq_true rfl, Nat.le_of_ble_eq_true rfl⟩) (fun _ h => h) ?_
        have h1 := hm k (by omega)
        have h2 := hm2 k (by omega)
        refine kn_icmp_eq (tgt := 28) hx hb (by omega) (by omega) dX2_placesUnlike_22 (by decide) (fun c2 => ?_) (fun c2 => ?_)
        · skip
          have hc := c2
          refine lv_iinc (v := nI (k + 1)) (lv' := [(3, .int (nI (k + 1))), (0, .ref (ad (3 * i))), (1, .ref (ad (3 * t))), (2, .int (nI q))]) hx hb dX2_placesUnlike_28 hl (k := 3) rfl (nI_1 k) (by decide) rfl (fun ls hl => ?_)
          refine lv_goto (tgt := 4) hx hb dX2_placesUnlike_31 (by decide) ?_
          exact ih4  q (k + 1) (by omega) (by rw [cntB_f (decide_eq_false (fun z => z hc)), hq]) (by omega) _ (lv_sub hl [1, 2, 3, 0] rfl)
        · skip
          have hc := c2
          refine lv_iinc (v := nI (q + 1)) (lv' := [(2, .int (nI (q + 1))), (0, .ref (ad (3 * i))), (1, .ref (ad (3 * t))), (3, .int (nI k))]) hx hb dX2_placesUnlike_25 hl (k := 2) rfl (nI_1 q) (by decide) rfl (fun ls hl => ?_)
          refine lv_iinc (v := nI (k + 1)) (lv' := [(3, .int (nI (k + 1))), (2, .int (nI (q + 1))), (0, .ref (ad (3 * i))), (1, .ref (ad (3 * t)))]) hx hb dX2_placesUnlike_28 hl (k := 3) rfl (nI_1 k) (by decide) rfl (fun ls hl => ?_)
          refine lv_goto (tgt := 4) hx hb dX2_placesUnlike_31 (by decide) ?_
          exact ih4  (q + 1) (k + 1) (by omega) (by rw [cntB_t (decide_eq_true hc), hq]) (by omega) _ (lv_sub hl [2, 3, 1, 0] rfl)
  exact loop4 ((S.1 i).2.2 - 0 + 1) 0 0 (by omega) rfl (by omega) _ (lv_sub hl [2, 3, 1, 0] rfl)
set_option maxHeartbeats 4000000 in
set_option maxRecDepth 100000 in
theorem m_X2_isLike (l : Launch) (dC : Nat → ClassId) (dI : Nat → Nat → Nat) (ad : Nat → Nat) (S : XS) (i t : Nat) (hi : i < 8) (ht : t < 8) (hro : rowOK (S.1 i)) (hro2 : rowOK (S.1 t)) : Met l yX2_isLike wsX2_isLike ({ frames := 1, cells := 0, slots := 0, locals := 21 } : Room) (va_Pc [.ref (ad (3 * i)), .ref (ad (3 * t))] (PX dC dI ad S)) (vp_Si (fun r => r = bI (decide ((S.1 i).2.2 = (S.1 t).2.2 ∧ ∀ k, k < (S.1 i).2.2 → (S.1 i).2.1 k = (S.1 t).2.1 k ∧ (S.1 i).1 k = (S.1 t).1 k)))) 0 0 (fun _ => False) := by
  refine Met.ofW (cc := cX2_isLike) (maxL := 3) (ret := (some .boolean)) pl_X2 rfl ?_
  intro p e s m args below meth c s₁ B hml hv
  obtain ⟨rfl, hPX⟩ := hv
  have hx := B.exec
  have hb := B.bytes
  have hr := B.returns
  have hts := atoms_spec (ws := wsX2_isLike) B.pre
  have hown : s.vm.findClass RX2 = some m.cls := findClass_of_methodNamed B.named
  have hlocks := B.notSynchronized
  have hin2 : ∀ w ∈ u_ws RX2 TX2 3, w ∈ wsX2_isLike := tu 1322 (by decide +kernel) rfl
  have hX := WX.of hPX
  have hl := lv_entry ([.ref (ad (3 * i)), .ref (ad (3 * t))]) (n := 3) (Nat.le_of_ble_eq_true rfl)
  rw [lg_entry_eq]
  generalize (lg_sl ([.ref (ad (3 * i)), .ref (ad (3 * t))]) ++ List.replicate (3 - (lg_sl ([.ref (ad (3 * i)), .ref (ad (3 * t))])).length) Slot.unset).toArray = ls at hl ⊢
  have hl : lv_has ls 3 [(0, .ref (ad (3 * i))), (1, .ref (ad (3 * t)))] := hl
  show W p l e ({ frames := 1, cells := 0, slots := 0, locals := 21 } : Room) s m ([.ref (ad (3 * i)), .ref (ad (3 * t))]).toArray below meth c s.heap [] 0 0 (MQ below (vp_Si (fun r => r = bI (decide ((S.1 i).2.2 = (S.1 t).2.2 ∧ ∀ k, k < (S.1 i).2.2 → (S.1 i).2.1 k = (S.1 t).2.1 k ∧ (S.1 i).1 k = (S.1 t).1 k)))) ([.ref (ad (3 * i)), .ref (ad (3 * t))]).toArray s 0 0 (fun _ => False)) (F0 m 0 ls [])
  have hn := hro.1
  have hn2 := hro2.1
  have hm := fun k hk => (hro.2 k hk)
  have hm2 := fun k hk => (hro2.2 k hk)
  refine lv_aload_n hx hb dX2_isLike_0 rfl (lv_at hl 0 rfl) ?_
  refine kr_gn (n := (S.1 i).2.2) hx hb hts hin2 hown hX hi rfl (hts (.fieldLink RX2 18 "Orderlattice$Row" "many" "I") (tm 27 (by decide +kernel) rfl)) dX2_isLike_1 ?_
  refine lv_aload_n hx hb dX2_isLike_4 rfl (lv_at hl 1 rfl) ?_
  refine kx_cr (v := nI ((S.1 t).2.2)) (va_runV (As := []) (rest := [.int (nI ((S.1 i).2.2))]) ⟨hx, hb, hml, hown, hts⟩ (m_X2_length l dC dI ad S t ht) (cwV 0 hts gX2_isLike_X2_length rfl rfl rfl hdX2_length_0 ⟨Nat.le_of_ble_eq_true rfl, Nat.le_of_ble_eq_true rfl⟩) (hX.preRow ht) rfl rfl hl.1 rfl (lv_room (Nat.le_of_ble_eq_true rfl)) dX2_isLike_5 ⟨Nat.le_of_ble_eq_true rfl, Nat.le_of_ble_eq_true rfl⟩) (fun _ h => h) ?_
  refine kn_icmp_eq (tgt := 13) hx hb (by omega) (by omega) dX2_isLike_8 (by decide) (fun c1 => ?_) (fun c1 => ?_)
  · skip
    have he := c1
    refine lv_iconst (v := nI 0) hx hb dX2_isLike_13 (by decide) ?_
    refine lv_istore_n (lv' := [(2, .int (nI 0)), (0, .ref (ad (3 * i))), (1, .ref (ad (3 * t)))]) hx hb dX2_isLike_14 rfl hl (by decide) rfl (fun ls hl => ?_)
    have loop15 : ∀ (fuel : Nat) (k : Nat) (hk : k ≤ (S.1 i).2.2) (hq : ∀ q, q < k → (S.1 i).2.1 q = (S.1 t).2.1 q ∧ (S.1 i).1 q = (S.1 t).1 q), (S.1 i).2.2 - k < fuel → ∀ ls : Array Slot, lv_has ls 3 [(0, .ref (ad (3 * i))), (1, .ref (ad (3 * t))), (2, .int (nI k))] → W p l e ({ frames := 1, cells := 0, slots := 0, locals := 21 } : Room) s m ([.ref (ad (3 * i)), .ref (ad (3 * t))]).toArray below meth c s.heap [] 0 0 (MQ below (vp_Si (fun r => r = bI (decide ((S.1 i).2.2 = (S.1 t).2.2 ∧ ∀ k, k < (S.1 i).2.2 → (S.1 i).2.1 k = (S.1 t).2.1 k ∧ (S.1 i).1 k = (S.1 t).1 k)))) ([.ref (ad (3 * i)), .ref (ad (3 * t))]).toArray s 0 0 (fun _ => False)) (F0 m 15 ls []) := by
      intro fuel
      induction fuel with
      | zero => intro k hk hq hf; exact absurd hf (Nat.not_lt_zero _)
      | succ fuel ih15 =>
        intro k hk hq hf ls hl
        refine lv_iload_n hx hb dX2_isLike_15 rfl (lv_at hl 2 rfl) ?_
        refine lv_aload_n hx hb dX2_isLike_16 rfl (lv_at hl 0 rfl) ?_
        refine kr_gn (n := (S.1 i).2.2) hx hb hts hin2 hown hX hi rfl (hts (.fieldLink RX2 18 "Orderlattice$Row" "many" "I") (tm 27 (by decide +kernel) rfl)) dX2_isLike_17 ?_
        refine kn_icmp_ge (tgt := 57) hx hb (by omega) (by omega) dX2_isLike_20 (by decide) (fun c2 => ?_) (fun c2 => ?_)
        · skip
          refine lv_iconst (v := nI 1) hx hb dX2_isLike_57 (by decide) ?_
          exact W.zret (v := bI true) hx hb hr (bI_narrow _) (fun t9 ht9 hW9 => ⟨_, rfl, (kd_t ⟨he, fun q h => hq q (by omega)⟩), ht9⟩) (fun _ h => nomatch h) dX2_isLike_58
        · skip
          refine lv_aload_n hx hb dX2_isLike_23 rfl (lv_at hl 0 rfl) ?_
          refine lv_iload_n hx hb dX2_isLike_24 rfl (lv_at hl 2 rfl) ?_
          refine kx_cr (v := nI (((S.1 i).2.1) k)) (va_runV (As := [.int (nI k)]) (rest := []) ⟨hx, hb, hml, hown, hts⟩ (m_X2_markOn l dC dI ad S i k hi (by omega)) (cwV 1 hts gX2_isLike_X2_markOn rfl rfl rfl hdX2_markOn_1 ⟨Nat.le_of_ble_eq_true rfl, Nat.le_of_ble_eq_true rfl⟩) (hX.preRow hi) rfl rfl hl.1 rfl (lv_room (Nat.le_of_ble_eq_true rfl)) dX2_isLike_25 ⟨Nat.le_of_ble_eq_true rfl, Nat.le_of_ble_eq_true rfl⟩) (fun _ h => h) ?_
          refine lv_aload_n hx hb dX2_isLike_28 rfl (lv_at hl 1 rfl) ?_
          refine lv_iload_n hx hb dX2_isLike_29 rfl (lv_at hl 2 rfl) ?_
          refine kx_cr (v := nI (((S.1 t).2.1) k)) (va_runV (As := [.int (nI k)]) (rest := [.int (nI (((S.1 i).2.1) k))]) ⟨hx, hb, hml, hown, hts⟩ (m_X2_markOn l dC dI ad S t k ht (by omega)) (cwV 1 hts gX2_isLike_X2_markOn rfl rfl rfl hdX2_markOn_1 ⟨Nat.le_of_ble_eq_true rfl, Nat.le_of_ble_eq_true rfl⟩) (hX.preRow ht) rfl rfl hl.1 rfl (lv_room (Nat.le_of_ble_eq_true rfl)) dX2_isLike_30 ⟨Nat.le_of_ble_eq_true rfl, Nat.le_of_ble_eq_true rfl⟩) (fun _ h => h) ?_
          have h1 := hm k (by omega)
          have h2 := hm2 k (by omega)
          refine kn_icmp_ne (tgt := 49) hx hb (by omega) (by omega) dX2_isLike_33 (by decide) (fun c3 => ?_) (fun c3 => ?_)
          · skip
            have hc := c3
            refine lv_iconst (v := nI 0) hx hb dX2_isLike_49 (by decide) ?_
            exact W.zret (v := bI false) hx hb hr (bI_narrow _) (fun t9 ht9 hW9 => ⟨_, rfl, (kd_f (fun z => hc (z.2 k (by omega)).1)), ht9⟩) (fun _ h => nomatch h) dX2_isLike_50
          · skip
            have hc := c3
            refine lv_aload_n hx hb dX2_isLike_36 rfl (lv_at hl 0 rfl) ?_
            refine lv_iload_n hx hb dX2_isLike_37 rfl (lv_at hl 2 rfl) ?_
            refine kx_cr (v := nI (((S.1 i).1) k)) (va_runV (As := [.int (nI k)]) (rest := []) ⟨hx, hb, hml, hown, hts⟩ (m_X2_valueOn l dC dI ad S i k hi (by omega)) (cwV 1 hts gX2_isLike_X2_valueOn rfl rfl rfl hdX2_valueOn_1 ⟨Nat.le_of_ble_eq_true rfl, Nat.le_of_ble_eq_true rfl⟩) (hX.preRow hi) rfl rfl hl.1 rfl (lv_room (Nat.le_of_ble_eq_true rfl)) dX2_isLike_38 ⟨Nat.le_of_ble_eq_true rfl, Nat.le_of_ble_eq_true rfl⟩) (fun _ h => h) ?_
            refine lv_aload_n hx hb dX2_isLike_41 rfl (lv_at hl 1 rfl) ?_
            refine lv_iload_n hx hb dX2_isLike_42 rfl (lv_at hl 2 rfl) ?_
            refine kx_cr (v := nI (((S.1 t).1) k)) (va_runV (As := [.int (nI k)]) (rest := [.int (nI (((S.1 i).1) k))]) ⟨hx, hb, hml, hown, hts⟩ (m_X2_valueOn l dC dI ad S t k ht (by omega)) (cwV 1 hts gX2_isLike_X2_valueOn rfl rfl rfl hdX2_valueOn_1 ⟨Nat.le_of_ble_eq_true rfl, Nat.le_of_ble_eq_true rfl⟩) (hX.preRow ht) rfl rfl hl.1 rfl (lv_room (Nat.le_of_ble_eq_true rfl)) dX2_isLike_43 ⟨Nat.le_of_ble_eq_true rfl, Nat.le_of_ble_eq_true rfl⟩) (fun _ h => h) ?_
            refine kn_icmp_eq (tgt := 51) hx hb (by omega) (by omega) dX2_isLike_46 (by decide) (fun c4 => ?_) (fun c4 => ?_)
            · skip
              have hd := c4
              refine lv_iinc (v := nI (k + 1)) (lv' := [(2, .int (nI (k + 1))), (0, .ref (ad (3 * i))), (1, .ref (ad (3 * t)))]) hx hb dX2_isLike_51 hl (k := 2) rfl (nI_1 k) (by decide) rfl (fun ls hl => ?_)
              refine lv_goto (tgt := 15) hx hb dX2_isLike_54 (by decide) ?_
              exact ih15  (k + 1) (by omega) (lt_s hq ⟨hc, hd⟩) (by omega) _ (lv_sub hl [1, 2, 0] rfl)
            · skip
              have hd := c4
              refine lv_iconst (v := nI 0) hx hb dX2_isLike_49 (by decide) ?_
              exact W.zret (v := bI false) hx hb hr (bI_narrow _) (fun t9 ht9 hW9 => ⟨_, rfl, (kd_f (fun z => hd (z.2 k (by omega)).2)), ht9⟩) (fun _ h => nomatch h) dX2_isLike_50
    exact loop15 ((S.1 i).2.2 - 0 + 1) 0 (by omega) (fun q h => absurd h (Nat.not_lt_zero q)) (by omega) _ (lv_sub hl [1, 2, 0] rfl)
  · skip
    have he := c1
    refine lv_iconst (v := nI 0) hx hb dX2_isLike_11 (by decide) ?_
    exact W.zret (v := bI false) hx hb hr (bI_narrow _) (fun t9 ht9 hW9 => ⟨_, rfl, (kd_f (fun z => he z.1)), ht9⟩) (fun _ h => nomatch h) dX2_isLike_12
set_option maxHeartbeats 4000000 in
set_option maxRecDepth 100000 in
theorem m_X2_isInSequenceBy (l : Launch) (dC : Nat → ClassId) (dI : Nat → Nat → Nat) (ad : Nat → Nat) (S : XS) (i j : Nat) (hi : i < 8) (hj : j < 6) (hro : rowOK (S.1 i)) (ho : ordOK (S.2.1 j)) : Met l yX2_isInSequenceBy wsX2_isInSequenceBy ({ frames := 1, cells := 0, slots := 0, locals := 26 } : Room) (va_Pc [.ref (ad (3 * i)), .ref (ad (24 + 5 * j))] (PX dC dI ad S)) (vp_Si (fun r => r = bI (seqB (S.2.1 j).2.2.1 (S.1 i).1 (S.1 i).2.2))) 0 0 (fun _ => False) := by
  refine Met.ofW (cc := cX2_isInSequenceBy) (maxL := 3) (ret := (some .boolean)) pl_X2 rfl ?_
  intro p e s m args below meth c s₁ B hml hv
  obtain ⟨rfl, hPX⟩ := hv
  have hx := B.exec
  have hb := B.bytes
  have hr := B.returns
  have hts := atoms_spec (ws := wsX2_isInSequenceBy) B.pre
  have hown : s.vm.findClass RX2 = some m.cls := findClass_of_methodNamed B.named
  have hlocks := B.notSynchronized
  have hin2 : ∀ w ∈ u_ws RX2 TX2 3, w ∈ wsX2_isInSequenceBy := tu 1322 (by decide +kernel) rfl
  have hX := WX.of hPX
  have hl := lv_entry ([.ref (ad (3 * i)), .ref (ad (24 + 5 * j))]) (n := 3) (Nat.le_of_ble_eq_true rfl)
  rw [lg_entry_eq]
  generalize (lg_sl ([.ref (ad (3 * i)), .ref (ad (24 + 5 * j))]) ++ List.replicate (3 - (lg_sl ([.ref (ad (3 * i)), .ref (ad (24 + 5 * j))])).length) Slot.unset).toArray = ls at hl ⊢
  have hl : lv_has ls 3 [(0, .ref (ad (3 * i))), (1, .ref (ad (24 + 5 * j)))] := hl
  show W p l e ({ frames := 1, cells := 0, slots := 0, locals := 26 } : Room) s m ([.ref (ad (3 * i)), .ref (ad (24 + 5 * j))]).toArray below meth c s.heap [] 0 0 (MQ below (vp_Si (fun r => r = bI (seqB (S.2.1 j).2.2.1 (S.1 i).1 (S.1 i).2.2))) ([.ref (ad (3 * i)), .ref (ad (24 + 5 * j))]).toArray s 0 0 (fun _ => False)) (F0 m 0 ls [])
  have hn := hro.1
  refine lv_iconst (v := nI 1) hx hb dX2_isInSequenceBy_0 (by decide) ?_
  refine lv_istore_n (lv' := [(2, .int (nI 1)), (0, .ref (ad (3 * i))), (1, .ref (ad (24 + 5 * j)))]) hx hb dX2_isInSequenceBy_1 rfl hl (by decide) rfl (fun ls hl => ?_)
  have loop2 : ∀ (fuel : Nat) (k : Nat) (hk : 1 ≤ k ∧ (k ≤ (S.1 i).2.2 ∨ k = 1)) (hq : ∀ q, q + 1 < k → (S.2.1 j).2.2.1 ((S.1 i).1 q) ≤ (S.2.1 j).2.2.1 ((S.1 i).1 (q + 1))), 17 - k < fuel → ∀ ls : Array Slot, lv_has ls 3 [(0, .ref (ad (3 * i))), (1, .ref (ad (24 + 5 * j))), (2, .int (nI k))] → W p l e ({ frames := 1, cells := 0, slots := 0, locals := 26 } : Room) s m ([.ref (ad (3 * i)), .ref (ad (24 + 5 * j))]).toArray below meth c s.heap [] 0 0 (MQ below (vp_Si (fun r => r = bI (seqB (S.2.1 j).2.2.1 (S.1 i).1 (S.1 i).2.2))) ([.ref (ad (3 * i)), .ref (ad (24 + 5 * j))]).toArray s 0 0 (fun _ => False)) (F0 m 2 ls []) := by
    intro fuel
    induction fuel with
    | zero => intro k hk hq hf; exact absurd hf (Nat.not_lt_zero _)
    | succ fuel ih2 =>
      intro k hk hq hf ls hl
      refine lv_iload_n hx hb dX2_isInSequenceBy_2 rfl (lv_at hl 2 rfl) ?_
      refine lv_aload_n hx hb dX2_isInSequenceBy_3 rfl (lv_at hl 0 rfl) ?_
      refine kr_gn (n := (S.1 i).2.2) hx hb hts hin2 hown hX hi rfl (hts (.fieldLink RX2 18 "Orderlattice$Row" "many" "I") (tm 27 (by decide +kernel) rfl)) dX2_isInSequenceBy_4 ?_
      refine kn_icmp_ge (tgt := 37) hx hb (by omega) (by omega) dX2_isInSequenceBy_7 (by decide) (fun c1 => ?_) (fun c1 => ?_)
      · skip
        refine lv_iconst (v := nI 1) hx hb dX2_isInSequenceBy_37 (by decide) ?_
        exact W.zret (v := bI true) hx hb hr (bI_narrow _) (fun t9 ht9 hW9 => ⟨_, rfl, (kd_t (fun q h => hq q (by omega))), ht9⟩) (fun _ h => nomatch h) dX2_isInSequenceBy_38
      · skip
        refine lv_aload_n hx hb dX2_isInSequenceBy_10 rfl (lv_at hl 1 rfl) ?_
        refine lv_aload_n hx hb dX2_isInSequenceBy_11 rfl (lv_at hl 0 rfl) ?_
        refine lv_iload_n hx hb dX2_isInSequenceBy_12 rfl (lv_at hl 2 rfl) ?_
        refine kx_cr (v := nI (((S.1 i).1) k)) (va_runV (As := [.int (nI k)]) (rest := [.ref (ad (24 + 5 * j))]) ⟨hx, hb, hml, hown, hts⟩ (m_X2_valueOn l dC dI ad S i k hi (by omega)) (cwV 1 hts gX2_isInSequenceBy_X2_valueOn rfl rfl rfl hdX2_valueOn_1 ⟨Nat.le_of_ble_eq_true rfl, Nat.le_of_ble_eq_true rfl⟩) (hX.preRow hi) rfl rfl hl.1 rfl (lv_room (Nat.le_of_ble_eq_true rfl)) dX2_isInSequenceBy_13 ⟨Nat.le_of_ble_eq_true rfl, Nat.le_of_ble_eq_true rfl⟩) (fun _ h => h) ?_
        refine lv_aload_n hx hb dX2_isInSequenceBy_16 rfl (lv_at hl 0 rfl) ?_
        refine lv_iload_n hx hb dX2_isInSequenceBy_17 rfl (lv_at hl 2 rfl) ?_
        refine lv_iconst (v := nI 1) hx hb dX2_isInSequenceBy_18 (by decide) ?_
        refine kn_isub hx hb (by omega) dX2_isInSequenceBy_19 ?_
        refine kx_cr (v := nI (((S.1 i).1) (k - 1))) (va_runV (As := [.int (nI (k - 1))]) (rest := [.int (nI (((S.1 i).1) k)), .ref (ad (24 + 5 * j))]) ⟨hx, hb, hml, hown, hts⟩ (m_X2_valueOn l dC dI ad S i (k - 1) hi (by omega)) (cwV 1 hts gX2_isInSequenceBy_X2_valueOn rfl rfl rfl hdX2_valueOn_1 ⟨Nat.le_of_ble_eq_true rfl, Nat.le_of_ble_eq_true rfl⟩) (hX.preRow hi) rfl rfl hl.1 rfl (lv_room (Nat.le_of_ble_eq_true rfl)) dX2_isInSequenceBy_20 ⟨Nat.le_of_ble_eq_true rfl, Nat.le_of_ble_eq_true rfl⟩) (fun _ h => h) ?_
        refine kx_cr (v := cmpI (((S.2.1 j).2.2.1) (((S.1 i).1) k)) (((S.2.1 j).2.2.1) (((S.1 i).1) (k - 1)))) (va_runV (As := [.int (nI (((S.1 i).1) k)), .int (nI (((S.1 i).1) (k - 1)))]) (rest := []) ⟨hx, hb, hml, hown, hts⟩ (m_X1_compared l dC dI ad S j (((S.1 i).1) k) (((S.1 i).1) (k - 1)) hj ho (hro.2 _ (by omega)).1 (hro.2 _ (by omega)).1) (cwV 2 hts gX2_isInSequenceBy_X1_compared rfl rfl rfl hdX1_compared_2 ⟨Nat.le_of_ble_eq_true rfl, Nat.le_of_ble_eq_true rfl⟩) (hX.preOrd hj) rfl rfl hl.1 rfl (lv_room (Nat.le_of_ble_eq_true rfl)) dX2_isInSequenceBy_23 ⟨Nat.le_of_ble_eq_true rfl, Nat.le_of_ble_eq_true rfl⟩) (fun _ h => h) ?_
        refine kc_if_ge (tgt := 31) hx hb dX2_isInSequenceBy_26 (by decide) (fun c2 => ?_) (fun c2 => ?_)
        · skip
          have hc := c2
          refine lv_iinc (v := nI (k + 1)) (lv' := [(2, .int (nI (k + 1))), (0, .ref (ad (3 * i))), (1, .ref (ad (24 + 5 * j)))]) hx hb dX2_isInSequenceBy_31 hl (k := 2) rfl (nI_1 k) (by decide) rfl (fun ls hl => ?_)
          refine lv_goto (tgt := 2) hx hb dX2_isInSequenceBy_34 (by decide) ?_
          exact ih2  (k + 1) (by omega) (seq_s (by omega) hq hc) (by omega) _ (lv_sub hl [1, 2, 0] rfl)
        · skip
          have hc := c2
          refine lv_iconst (v := nI 0) hx hb dX2_isInSequenceBy_29 (by decide) ?_
          exact W.zret (v := bI false) hx hb hr (bI_narrow _) (fun t9 ht9 hW9 => ⟨_, rfl, (kd_f (fun z => absurd (z (k - 1) (by omega)) (by rw [show k - 1 + 1 = k by omega]; omega))), ht9⟩) (fun _ h => nomatch h) dX2_isInSequenceBy_30
  exact loop2 (17 + 1) 1 (by omega) (fun q h => absurd h (by omega)) (by omega) _ (lv_sub hl [1, 2, 0] rfl)
set_option maxHeartbeats 4000000 in
set_option maxRecDepth 100000 in
theorem m_X2_hasAlike (l : Launch) (dC : Nat → ClassId) (dI : Nat → Nat → Nat) (ad : Nat → Nat) (S : XS) (i j x : Nat) (hi : i < 8) (hj : j < 6) (hro : rowOK (S.1 i)) (ho : ordOK (S.2.1 j)) (hx9 : x < 16) : Met l yX2_hasAlike wsX2_hasAlike ({ frames := 1, cells := 0, slots := 0, locals := 26 } : Room) (va_Pc [.ref (ad (3 * i)), .ref (ad (24 + 5 * j)), .int (nI x)] (PX dC dI ad S)) (vp_Si (fun r => r = bI (decide (∃ k, k < (S.1 i).2.2 ∧ (S.2.1 j).2.2.1 ((S.1 i).1 k) = (S.2.1 j).2.2.1 x)))) 0 0 (fun _ => False) := by
  refine Met.ofW (cc := cX2_hasAlike) (maxL := 4) (ret := (some .boolean)) pl_X2 rfl ?_
  intro p e s m args below meth c s₁ B hml hv
  obtain ⟨rfl, hPX⟩ := hv
  have hx := B.exec
  have hb := B.bytes
  have hr := B.returns
  have hts := atoms_spec (ws := wsX2_hasAlike) B.pre
  have hown : s.vm.findClass RX2 = some m.cls := findClass_of_methodNamed B.named
  have hlocks := B.notSynchronized
  have hin2 : ∀ w ∈ u_ws RX2 TX2 3, w ∈ wsX2_hasAlike := tu 1322 (by decide +kernel) rfl
  have hX := WX.of hPX
  have hl := lv_entry ([.ref (ad (3 * i)), .ref (ad (24 + 5 * j)), .int (nI x)]) (n := 4) (Nat.le_of_ble_eq_true rfl)
  rw [lg_entry_eq]
  generalize (lg_sl ([.ref (ad (3 * i)), .ref (ad (24 + 5 * j)), .int (nI x)]) ++ List.replicate (4 - (lg_sl ([.ref (ad (3 * i)), .ref (ad (24 + 5 * j)), .int (nI x)])).length) Slot.unset).toArray = ls at hl ⊢
  have hl : lv_has ls 4 [(0, .ref (ad (3 * i))), (1, .ref (ad (24 + 5 * j))), (2, .int (nI x))] := hl
  show W p l e ({ frames := 1, cells := 0, slots := 0, locals := 26 } : Room) s m ([.ref (ad (3 * i)), .ref (ad (24 + 5 * j)), .int (nI x)]).toArray below meth c s.heap [] 0 0 (MQ below (vp_Si (fun r => r = bI (decide (∃ k, k < (S.1 i).2.2 ∧ (S.2.1 j).2.2.1 ((S.1 i).1 k) = (S.2.1 j).2.2.1 x)))) ([.ref (ad (3 * i)), .ref (ad (24 + 5 * j)), .int (nI x)]).toArray s 0 0 (fun _ => False)) (F0 m 0 ls [])
  have hn := hro.1
  refine lv_iconst (v := nI 0) hx hb dX2_hasAlike_0 (by decide) ?_
  refine lv_istore_n (lv' := [(3, .int (nI 0)), (0, .ref (ad (3 * i))), (1, .ref (ad (24 + 5 * j))), (2, .int (nI x))]) hx hb dX2_hasAlike_1 rfl hl (by decide) rfl (fun ls hl => ?_)
  have loop2 : ∀ (fuel : Nat) (k : Nat) (hk : k ≤ (S.1 i).2.2) (hq : ∀ q, q < k → (S.2.1 j).2.2.1 ((S.1 i).1 q) ≠ (S.2.1 j).2.2.1 x), (S.1 i).2.2 - k < fuel → ∀ ls : Array Slot, lv_has ls 4 [(0, .ref (ad (3 * i))), (1, .ref (ad (24 + 5 * j))), (2, .int (nI x)), (3, .int (nI k))] → W p l e ({ frames := 1, cells := 0, slots := 0, locals := 26 } : Room) s m ([.ref (ad (3 * i)), .ref (ad (24 + 5 * j)), .int (nI x)]).toArray below meth c s.heap [] 0 0 (MQ below (vp_Si (fun r => r = bI (decide (∃ k, k < (S.1 i).2.2 ∧ (S.2.1 j).2.2.1 ((S.1 i).1 k) = (S.2.1 j).2.2.1 x)))) ([.ref (ad (3 * i)), .ref (ad (24 + 5 * j)), .int (nI x)]).toArray s 0 0 (fun _ => False)) (F0 m 2 ls []) := by
    intro fuel
    induction fuel with
    | zero => intro k hk hq hf; exact absurd hf (Nat.not_lt_zero _)
    | succ fuel ih2 =>
      intro k hk hq hf ls hl
      refine lv_iload_n hx hb dX2_hasAlike_2 rfl (lv_at hl 3 rfl) ?_
      refine lv_aload_n hx hb dX2_hasAlike_3 rfl (lv_at hl 0 rfl) ?_
      refine kr_gn (n := (S.1 i).2.2) hx hb hts hin2 hown hX hi rfl (hts (.fieldLink RX2 18 "Orderlattice$Row" "many" "I") (tm 27 (by decide +kernel) rfl)) dX2_hasAlike_4 ?_
      refine kn_icmp_ge (tgt := 31) hx hb (by omega) (by omega) dX2_hasAlike_7 (by decide) (fun c1 => ?_) (fun c1 => ?_)
      · skip
        refine lv_iconst (v := nI 0) hx hb dX2_hasAlike_31 (by decide) ?_
        exact W.zret (v := bI false) hx hb hr (bI_narrow _) (fun t9 ht9 hW9 => ⟨_, rfl, (kd_f (fun ⟨q, h1, h2⟩ => hq q (by omega) h2)), ht9⟩) (fun _ h => nomatch h) dX2_hasAlike_32
      · skip
        refine lv_aload_n hx hb dX2_hasAlike_10 rfl (lv_at hl 1 rfl) ?_
        refine lv_aload_n hx hb dX2_hasAlike_11 rfl (lv_at hl 0 rfl) ?_
        refine lv_iload_n hx hb dX2_hasAlike_12 rfl (lv_at hl 3 rfl) ?_
        refine kx_cr (v := nI (((S.1 i).1) k)) (va_runV (As := [.int (nI k)]) (rest := [.ref (ad (24 + 5 * j))]) ⟨hx, hb, hml, hown, hts⟩ (m_X2_valueOn l dC dI ad S i k hi (by omega)) (cwV 1 hts gX2_hasAlike_X2_valueOn rfl rfl rfl hdX2_valueOn_1 ⟨Nat.le_of_ble_eq_true rfl, Nat.le_of_ble_eq_true rfl⟩) (hX.preRow hi) rfl rfl hl.1 rfl (lv_room (Nat.le_of_ble_eq_true rfl)) dX2_hasAlike_13 ⟨Nat.le_of_ble_eq_true rfl, Nat.le_of_ble_eq_true rfl⟩) (fun _ h => h) ?_
        refine lv_iload_n hx hb dX2_hasAlike_16 rfl (lv_at hl 2 rfl) ?_
        refine kx_cr (v := cmpI (((S.2.1 j).2.2.1) (((S.1 i).1) k)) (((S.2.1 j).2.2.1) x)) (va_runV (As := [.int (nI (((S.1 i).1) k)), .int (nI x)]) (rest := []) ⟨hx, hb, hml, hown, hts⟩ (m_X1_compared l dC dI ad S j (((S.1 i).1) k) x hj ho (hro.2 _ (by omega)).1 (by omega)) (cwV 2 hts gX2_hasAlike_X1_compared rfl rfl rfl hdX1_compared_2 ⟨Nat.le_of_ble_eq_true rfl, Nat.le_of_ble_eq_true rfl⟩) (hX.preOrd hj) rfl rfl hl.1 rfl (lv_room (Nat.le_of_ble_eq_true rfl)) dX2_hasAlike_17 ⟨Nat.le_of_ble_eq_true rfl, Nat.le_of_ble_eq_true rfl⟩) (fun _ h => h) ?_
        refine kc_if_ne (tgt := 25) hx hb dX2_hasAlike_20 (by decide) (fun c2 => ?_) (fun c2 => ?_)
        · skip
          have hc := c2
          refine lv_iinc (v := nI (k + 1)) (lv' := [(3, .int (nI (k + 1))), (0, .ref (ad (3 * i))), (1, .ref (ad (24 + 5 * j))), (2, .int (nI x))]) hx hb dX2_hasAlike_25 hl (k := 3) rfl (nI_1 k) (by decide) rfl (fun ls hl => ?_)
          refine lv_goto (tgt := 2) hx hb dX2_hasAlike_28 (by decide) ?_
          exact ih2  (k + 1) (by omega) (lt_s hq hc) (by omega) _ (lv_sub hl [1, 2, 3, 0] rfl)
        · skip
          have hc := c2
          refine lv_iconst (v := nI 1) hx hb dX2_hasAlike_23 (by decide) ?_
          exact W.zret (v := bI true) hx hb hr (bI_narrow _) (fun t9 ht9 hW9 => ⟨_, rfl, (kd_t ⟨k, by omega, hc⟩), ht9⟩) (fun _ h => nomatch h) dX2_hasAlike_24
  exact loop2 ((S.1 i).2.2 - 0 + 1) 0 (by omega) (fun q h => absurd h (Nat.not_lt_zero q)) (by omega) _ (lv_sub hl [1, 2, 3, 0] rfl)
set_option maxHeartbeats 4000000 in
set_option maxRecDepth 100000 in
theorem m_X2_thingsAhead (l : Launch) (dC : Nat → ClassId) (dI : Nat → Nat → Nat) (ad : Nat → Nat) (S : XS) (i j x : Nat) (hi : i < 8) (hj : j < 6) (hro : rowOK (S.1 i)) (ho : ordOK (S.2.1 j)) (hx9 : x < 16) : Met l yX2_thingsAhead wsX2_thingsAhead ({ frames := 1, cells := 0, slots := 0, locals := 26 } : Room) (va_Pc [.ref (ad (3 * i)), .ref (ad (24 + 5 * j)), .int (nI x)] (PX dC dI ad S)) (vp_Si (fun r => r = nI (cntB (fun k => decide ((S.2.1 j).2.2.1 ((S.1 i).1 k) < (S.2.1 j).2.2.1 x)) (S.1 i).2.2))) 0 0 (fun _ => False) := by
  refine Met.ofW (cc := cX2_thingsAhead) (maxL := 5) (ret := (some .int)) pl_X2 rfl ?_
  intro p e s m args below meth c s₁ B hml hv
  obtain ⟨rfl, hPX⟩ := hv
  have hx := B.exec
  have hb := B.bytes
  have hr := B.returns
  have hts := atoms_spec (ws := wsX2_thingsAhead) B.pre
  have hown : s.vm.findClass RX2 = some m.cls := findClass_of_methodNamed B.named
  have hlocks := B.notSynchronized
  have hin2 : ∀ w ∈ u_ws RX2 TX2 3, w ∈ wsX2_thingsAhead := tu 1322 (by decide +kernel) rfl
  have hX := WX.of hPX
  have hl := lv_entry ([.ref (ad (3 * i)), .ref (ad (24 + 5 * j)), .int (nI x)]) (n := 5) (Nat.le_of_ble_eq_true rfl)
  rw [lg_entry_eq]
  generalize (lg_sl ([.ref (ad (3 * i)), .ref (ad (24 + 5 * j)), .int (nI x)]) ++ List.replicate (5 - (lg_sl ([.ref (ad (3 * i)), .ref (ad (24 + 5 * j)), .int (nI x)])).length) Slot.unset).toArray = ls at hl ⊢
  have hl : lv_has ls 5 [(0, .ref (ad (3 * i))), (1, .ref (ad (24 + 5 * j))), (2, .int (nI x))] := hl
  show W p l e ({ frames := 1, cells := 0, slots := 0, locals := 26 } : Room) s m ([.ref (ad (3 * i)), .ref (ad (24 + 5 * j)), .int (nI x)]).toArray below meth c s.heap [] 0 0 (MQ below (vp_Si (fun r => r = nI (cntB (fun k => decide ((S.2.1 j).2.2.1 ((S.1 i).1 k) < (S.2.1 j).2.2.1 x)) (S.1 i).2.2))) ([.ref (ad (3 * i)), .ref (ad (24 + 5 * j)), .int (nI x)]).toArray s 0 0 (fun _ => False)) (F0 m 0 ls [])
  have hn := hro.1
  refine lv_iconst (v := nI 0) hx hb dX2_thingsAhead_0 (by decide) ?_
  refine lv_istore_n (lv' := [(3, .int (nI 0)), (0, .ref (ad (3 * i))), (1, .ref (ad (24 + 5 * j))), (2, .int (nI x))]) hx hb dX2_thingsAhead_1 rfl hl (by decide) rfl (fun ls hl => ?_)
  refine lv_iconst (v := nI 0) hx hb dX2_thingsAhead_2 (by decide) ?_
  refine lv_istore (lv' := [(4, .int (nI 0)), (3, .int (nI 0)), (0, .ref (ad (3 * i))), (1, .ref (ad (24 + 5 * j))), (2, .int (nI x))]) hx hb dX2_thingsAhead_3 hl (by decide) rfl (fun ls hl => ?_)
  have loop5 : ∀ (fuel : Nat) (q k : Nat) (hk : k ≤ (S.1 i).2.2) (hq : q = cntB (fun k => decide ((S.2.1 j).2.2.1 ((S.1 i).1 k) < (S.2.1 j).2.2.1 x)) k), (S.1 i).2.2 - k < fuel → ∀ ls : Array Slot, lv_has ls 5 [(0, .ref (ad (3 * i))), (1, .ref (ad (24 + 5 * j))), (2, .int (nI x)), (3, .int (nI q)), (4, .int (nI k))] → W p l e ({ frames := 1, cells := 0, slots := 0, locals := 26 } : Room) s m ([.ref (ad (3 * i)), .ref (ad (24 + 5 * j)), .int (nI x)]).toArray below meth c s.heap [] 0 0 (MQ below (vp_Si (fun r => r = nI (cntB (fun k => decide ((S.2.1 j).2.2.1 ((S.1 i).1 k) < (S.2.1 j).2.2.1 x)) (S.1 i).2.2))) ([.ref (ad (3 * i)), .ref (ad (24 + 5 * j)), .int (nI x)]).toArray s 0 0 (fun _ => False)) (F0 m 5 ls []) := by
    intro fuel
    induction fuel with
    | zero => intro q k hk hq hf; exact absurd hf (Nat.not_lt_zero _)
    | succ fuel ih5 =>
      intro q k hk hq hf ls hl
      refine lv_iload hx hb dX2_thingsAhead_5 (lv_at hl 4 rfl) ?_
      refine lv_aload_n hx hb dX2_thingsAhead_7 rfl (lv_at hl 0 rfl) ?_
      refine kr_gn (n := (S.1 i).2.2) hx hb hts hin2 hown hX hi rfl (hts (.fieldLink RX2 18 "Orderlattice$Row" "many" "I") (tm 27 (by decide +kernel) rfl)) dX2_thingsAhead_8 ?_
      refine kn_icmp_ge (tgt := 37) hx hb (by omega) (by omega) dX2_thingsAhead_11 (by decide) (fun c1 => ?_) (fun c1 => ?_)
      · skip
        refine lv_iload_n hx hb dX2_thingsAhead_37 rfl (lv_at hl 3 rfl) ?_
        exact W.iret (v := nI q) hx hb hr (fun t9 ht9 hW9 => ⟨_, rfl, (by rw [hq, show k = (S.1 i).2.2 by omega]), ht9⟩) (fun _ h => nomatch h) dX2_thingsAhead_38
      · skip
        refine lv_aload_n hx hb dX2_thingsAhead_14 rfl (lv_at hl 1 rfl) ?_
        refine lv_aload_n hx hb dX2_thingsAhead_15 rfl (lv_at hl 0 rfl) ?_
        refine lv_iload hx hb dX2_thingsAhead_16 (lv_at hl 4 rfl) ?_
        refine kx_cr (v := nI (((S.1 i).1) k)) (va_runV (As := [.int (nI k)]) (rest := [.ref (ad (24 + 5 * j))]) ⟨hx, hb, hml, hown, hts⟩ (m_X2_valueOn l dC dI ad S i k hi (by omega)) (cwV 1 hts gX2_thingsAhead_X2_valueOn rfl rfl rfl hdX2_valueOn_1 ⟨Nat.le_of_ble_eq_true rfl, Nat.le_of_ble_eq_true rfl⟩) (hX.preRow hi) rfl rfl hl.1 rfl (lv_room (Nat.le_of_ble_eq_true rfl)) dX2_thingsAhead_18 ⟨Nat.le_of_ble_eq_true rfl, Nat.le_of_ble_eq_true rfl⟩) (fun _ h => h) ?_
        refine lv_iload_n hx hb dX2_thingsAhead_21 rfl (lv_at hl 2 rfl) ?_
        refine kx_cr (v := cmpI (((S.2.1 j).2.2.1) (((S.1 i).1) k)) (((S.2.1 j).2.2.1) x)) (va_runV (As := [.int (nI (((S.1 i).1) k)), .int (nI x)]) (rest := []) ⟨hx, hb, hml, hown, hts⟩ (m_X1_compared l dC dI ad S j (((S.1 i).1) k) x hj ho (hro.2 _ (by omega)).1 (by omega)) (cwV 2 hts gX2_thingsAhead_X1_compared rfl rfl rfl hdX1_compared_2 ⟨Nat.le_of_ble_eq_true rfl, Nat.le_of_ble_eq_true rfl⟩) (hX.preOrd hj) rfl rfl hl.1 rfl (lv_room (Nat.le_of_ble_eq_true rfl)) dX2_thingsAhead_22 ⟨Nat.le_of_ble_eq_true rfl, Nat.le_of_ble_eq_true rfl⟩) (fun _ h => h) ?_
        refine kc_if_ge (tgt := 31) hx hb dX2_thingsAhead_25 (by decide) (fun c2 => ?_) (fun c2 => ?_)
        · skip
          have hc := c2
          refine lv_iinc (v := nI (k + 1)) (lv' := [(4, .int (nI (k + 1))), (0, .ref (ad (3 * i))), (1, .ref (ad (24 + 5 * j))), (2, .int (nI x)), (3, .int (nI q))]) hx hb dX2_thingsAhead_31 hl (k := 4) rfl (nI_1 k) (by decide) rfl (fun ls hl => ?_)
          refine lv_goto (tgt := 5) hx hb dX2_thingsAhead_34 (by decide) ?_
          exact ih5  q (k + 1) (by omega) (by rw [cntB_f (decide_eq_false (by omega)), hq]) (by omega) _ (lv_sub hl [1, 2, 3, 4, 0] rfl)
        · skip
          have hc := c2
          refine lv_iinc (v := nI (q + 1)) (lv' := [(3, .int (nI (q + 1))), (0, .ref (ad (3 * i))), (1, .ref (ad (24 + 5 * j))), (2, .int (nI x)), (4, .int (nI k))]) hx hb dX2_thingsAhead_28 hl (k := 3) rfl (nI_1 q) (by decide) rfl (fun ls hl => ?_)
          refine lv_iinc (v := nI (k + 1)) (lv' := [(4, .int (nI (k + 1))), (3, .int (nI (q + 1))), (0, .ref (ad (3 * i))), (1, .ref (ad (24 + 5 * j))), (2, .int (nI x))]) hx hb dX2_thingsAhead_31 hl (k := 4) rfl (nI_1 k) (by decide) rfl (fun ls hl => ?_)
          refine lv_goto (tgt := 5) hx hb dX2_thingsAhead_34 (by decide) ?_
          exact ih5  (q + 1) (k + 1) (by omega) (by rw [cntB_t (decide_eq_true hc), hq]) (by omega) _ (lv_sub hl [2, 3, 4, 1, 0] rfl)
  exact loop5 ((S.1 i).2.2 - 0 + 1) 0 0 (by omega) rfl (by omega) _ (lv_sub hl [2, 3, 4, 1, 0] rfl)
set_option maxHeartbeats 4000000 in
set_option maxRecDepth 100000 in
theorem m_X2_isFirstOfLot (l : Launch) (dC : Nat → ClassId) (dI : Nat → Nat → Nat) (ad : Nat → Nat) (S : XS) (i j x : Nat) (hi : i < 8) (hj : j < 6) (hro : rowOK (S.1 i)) (ho : ordOK (S.2.1 j)) (hx9 : x < 16) : Met l yX2_isFirstOfLot wsX2_isFirstOfLot ({ frames := 1, cells := 0, slots := 0, locals := 26 } : Room) (va_Pc [.ref (ad (3 * i)), .ref (ad (24 + 5 * j)), .int (nI x)] (PX dC dI ad S)) (vp_Si (fun r => r = bI (firstB (S.2.1 j).2.2.1 (S.1 i).1 x))) 0 0 (fun _ => False) := by
  refine Met.ofW (cc := cX2_isFirstOfLot) (maxL := 4) (ret := (some .boolean)) pl_X2 rfl ?_
  intro p e s m args below meth c s₁ B hml hv
  obtain ⟨rfl, hPX⟩ := hv
  have hx := B.exec
  have hb := B.bytes
  have hr := B.returns
  have hts := atoms_spec (ws := wsX2_isFirstOfLot) B.pre
  have hown : s.vm.findClass RX2 = some m.cls := findClass_of_methodNamed B.named
  have hlocks := B.notSynchronized
  have hX := WX.of hPX
  have hl := lv_entry ([.ref (ad (3 * i)), .ref (ad (24 + 5 * j)), .int (nI x)]) (n := 4) (Nat.le_of_ble_eq_true rfl)
  rw [lg_entry_eq]
  generalize (lg_sl ([.ref (ad (3 * i)), .ref (ad (24 + 5 * j)), .int (nI x)]) ++ List.replicate (4 - (lg_sl ([.ref (ad (3 * i)), .ref (ad (24 + 5 * j)), .int (nI x)])).length) Slot.unset).toArray = ls at hl ⊢
  have hl : lv_has ls 4 [(0, .ref (ad (3 * i))), (1, .ref (ad (24 + 5 * j))), (2, .int (nI x))] := hl
  show W p l e ({ frames := 1, cells := 0, slots := 0, locals := 26 } : Room) s m ([.ref (ad (3 * i)), .ref (ad (24 + 5 * j)), .int (nI x)]).toArray below meth c s.heap [] 0 0 (MQ below (vp_Si (fun r => r = bI (firstB (S.2.1 j).2.2.1 (S.1 i).1 x))) ([.ref (ad (3 * i)), .ref (ad (24 + 5 * j)), .int (nI x)]).toArray s 0 0 (fun _ => False)) (F0 m 0 ls [])
  have hn := hro.1
  refine lv_iconst (v := nI 0) hx hb dX2_isFirstOfLot_0 (by decide) ?_
  refine lv_istore_n (lv' := [(3, .int (nI 0)), (0, .ref (ad (3 * i))), (1, .ref (ad (24 + 5 * j))), (2, .int (nI x))]) hx hb dX2_isFirstOfLot_1 rfl hl (by decide) rfl (fun ls hl => ?_)
  have loop2 : ∀ (fuel : Nat) (k : Nat) (hk : k ≤ x) (hq : ∀ q, q < k → (S.2.1 j).2.2.1 ((S.1 i).1 q) ≠ (S.2.1 j).2.2.1 ((S.1 i).1 x)), x - k < fuel → ∀ ls : Array Slot, lv_has ls 4 [(0, .ref (ad (3 * i))), (1, .ref (ad (24 + 5 * j))), (2, .int (nI x)), (3, .int (nI k))] → W p l e ({ frames := 1, cells := 0, slots := 0, locals := 26 } : Room) s m ([.ref (ad (3 * i)), .ref (ad (24 + 5 * j)), .int (nI x)]).toArray below meth c s.heap [] 0 0 (MQ below (vp_Si (fun r => r = bI (firstB (S.2.1 j).2.2.1 (S.1 i).1 x))) ([.ref (ad (3 * i)), .ref (ad (24 + 5 * j)), .int (nI x)]).toArray s 0 0 (fun _ => False)) (F0 m 2 ls []) := by
    intro fuel
    induction fuel with
    | zero => intro k hk hq hf; exact absurd hf (Nat.not_lt_zero _)
    | succ fuel ih2 =>
      intro k hk hq hf ls hl
      refine lv_iload_n hx hb dX2_isFirstOfLot_2 rfl (lv_at hl 3 rfl) ?_
      refine lv_iload_n hx hb dX2_isFirstOfLot_3 rfl (lv_at hl 2 rfl) ?_
      refine kn_icmp_ge (tgt := 32) hx hb (by omega) (by omega) dX2_isFirstOfLot_4 (by decide) (fun c1 => ?_) (fun c1 => ?_)
      · skip
        refine lv_iconst (v := nI 1) hx hb dX2_isFirstOfLot_32 (by decide) ?_
        exact W.zret (v := bI true) hx hb hr (bI_narrow _) (fun t9 ht9 hW9 => ⟨_, rfl, (kd_t (fun q h => hq q (by omega))), ht9⟩) (fun _ h => nomatch h) dX2_isFirstOfLot_33
      · skip
        refine lv_aload_n hx hb dX2_isFirstOfLot_7 rfl (lv_at hl 1 rfl) ?_
        refine lv_aload_n hx hb dX2_isFirstOfLot_8 rfl (lv_at hl 0 rfl) ?_
        refine lv_iload_n hx hb dX2_isFirstOfLot_9 rfl (lv_at hl 3 rfl) ?_
        refine kx_cr (v := nI (((S.1 i).1) k)) (va_runV (As := [.int (nI k)]) (rest := [.ref (ad (24 + 5 * j))]) ⟨hx, hb, hml, hown, hts⟩ (m_X2_valueOn l dC dI ad S i k hi (by omega)) (cwV 1 hts gX2_isFirstOfLot_X2_valueOn rfl rfl rfl hdX2_valueOn_1 ⟨Nat.le_of_ble_eq_true rfl, Nat.le_of_ble_eq_true rfl⟩) (hX.preRow hi) rfl rfl hl.1 rfl (lv_room (Nat.le_of_ble_eq_true rfl)) dX2_isFirstOfLot_10 ⟨Nat.le_of_ble_eq_true rfl, Nat.le_of_ble_eq_true rfl⟩) (fun _ h => h) ?_
        refine lv_aload_n hx hb dX2_isFirstOfLot_13 rfl (lv_at hl 0 rfl) ?_
        refine lv_iload_n hx hb dX2_isFirstOfLot_14 rfl (lv_at hl 2 rfl) ?_
        refine kx_cr (v := nI (((S.1 i).1) x)) (va_runV (As := [.int (nI x)]) (rest := [.int (nI (((S.1 i).1) k)), .ref (ad (24 + 5 * j))]) ⟨hx, hb, hml, hown, hts⟩ (m_X2_valueOn l dC dI ad S i x hi (by omega)) (cwV 1 hts gX2_isFirstOfLot_X2_valueOn rfl rfl rfl hdX2_valueOn_1 ⟨Nat.le_of_ble_eq_true rfl, Nat.le_of_ble_eq_true rfl⟩) (hX.preRow hi) rfl rfl hl.1 rfl (lv_room (Nat.le_of_ble_eq_true rfl)) dX2_isFirstOfLot_15 ⟨Nat.le_of_ble_eq_true rfl, Nat.le_of_ble_eq_true rfl⟩) (fun _ h => h) ?_
        refine kx_cr (v := cmpI (((S.2.1 j).2.2.1) (((S.1 i).1) k)) (((S.2.1 j).2.2.1) (((S.1 i).1) x))) (va_runV (As := [.int (nI (((S.1 i).1) k)), .int (nI (((S.1 i).1) x))]) (rest := []) ⟨hx, hb, hml, hown, hts⟩ (m_X1_compared l dC dI ad S j (((S.1 i).1) k) (((S.1 i).1) x) hj ho (hro.2 _ (by omega)).1 (hro.2 _ (by omega)).1) (cwV 2 hts gX2_isFirstOfLot_X1_compared rfl rfl rfl hdX1_compared_2 ⟨Nat.le_of_ble_eq_true rfl, Nat.le_of_ble_eq_true rfl⟩) (hX.preOrd hj) rfl rfl hl.1 rfl (lv_room (Nat.le_of_ble_eq_true rfl)) dX2_isFirstOfLot_18 ⟨Nat.le_of_ble_eq_true rfl, Nat.le_of_ble_eq_true rfl⟩) (fun _ h => h) ?_
        refine kc_if_ne (tgt := 26) hx hb dX2_isFirstOfLot_21 (by decide) (fun c2 => ?_) (fun c2 => ?_)
        · skip
          have hc := c2
          refine lv_iinc (v := nI (k + 1)) (lv' := [(3, .int (nI (k + 1))), (0, .ref (ad (3 * i))), (1, .ref (ad (24 + 5 * j))), (2, .int (nI x))]) hx hb dX2_isFirstOfLot_26 hl (k := 3) rfl (nI_1 k) (by decide) rfl (fun ls hl => ?_)
          refine lv_goto (tgt := 2) hx hb dX2_isFirstOfLot_29 (by decide) ?_
          exact ih2  (k + 1) (by omega) (lt_s hq hc) (by omega) _ (lv_sub hl [1, 2, 3, 0] rfl)
        · skip
          have hc := c2
          refine lv_iconst (v := nI 0) hx hb dX2_isFirstOfLot_24 (by decide) ?_
          exact W.zret (v := bI false) hx hb hr (bI_narrow _) (fun t9 ht9 hW9 => ⟨_, rfl, (kd_f (fun z => z k (by omega) hc)), ht9⟩) (fun _ h => nomatch h) dX2_isFirstOfLot_25
  exact loop2 (x - 0 + 1) 0 (by omega) (fun q h => absurd h (Nat.not_lt_zero q)) (by omega) _ (lv_sub hl [1, 2, 3, 0] rfl)
set_option maxHeartbeats 4000000 in
set_option maxRecDepth 100000 in
theorem m_X2_lots (l : Launch) (dC : Nat → ClassId) (dI : Nat → Nat → Nat) (ad : Nat → Nat) (S : XS) (i j : Nat) (hi : i < 8) (hj : j < 6) (hro : rowOK (S.1 i)) (ho : ordOK (S.2.1 j)) : Met l yX2_lots wsX2_lots ({ frames := 2, cells := 0, slots := 0, locals := 49 } : Room) (va_Pc [.ref (ad (3 * i)), .ref (ad (24 + 5 * j))] (PX dC dI ad S)) (vp_Si (fun r => r = nI (cntB (firstB (S.2.1 j).2.2.1 (S.1 i).1) (S.1 i).2.2))) 0 0 (fun _ => False) := by
  refine Met.ofW (cc := cX2_lots) (maxL := 4) (ret := (some .int)) pl_X2 rfl ?_
  intro p e s m args below meth c s₁ B hml hv
  obtain ⟨rfl, hPX⟩ := hv
  have hx := B.exec
  have hb := B.bytes
  have hr := B.returns
  have hts := atoms_spec (ws := wsX2_lots) B.pre
  have hown : s.vm.findClass RX2 = some m.cls := findClass_of_methodNamed B.named
  have hlocks := B.notSynchronized
  have hin2 : ∀ w ∈ u_ws RX2 TX2 3, w ∈ wsX2_lots := tu 1322 (by decide +kernel) rfl
  have hX := WX.of hPX
  have hl := lv_entry ([.ref (ad (3 * i)), .ref (ad (24 + 5 * j))]) (n := 4) (Nat.le_of_ble_eq_true rfl)
  rw [lg_entry_eq]
  generalize (lg_sl ([.ref (ad (3 * i)), .ref (ad (24 + 5 * j))]) ++ List.replicate (4 - (lg_sl ([.ref (ad (3 * i)), .ref (ad (24 + 5 * j))])).length) Slot.unset).toArray = ls at hl ⊢
  have hl : lv_has ls 4 [(0, .ref (ad (3 * i))), (1, .ref (ad (24 + 5 * j)))] := hl
  show W p l e ({ frames := 2, cells := 0, slots := 0, locals := 49 } : Room) s m ([.ref (ad (3 * i)), .ref (ad (24 + 5 * j))]).toArray below meth c s.heap [] 0 0 (MQ below (vp_Si (fun r => r = nI (cntB (firstB (S.2.1 j).2.2.1 (S.1 i).1) (S.1 i).2.2))) ([.ref (ad (3 * i)), .ref (ad (24 + 5 * j))]).toArray s 0 0 (fun _ => False)) (F0 m 0 ls [])
  have hn := hro.1
  refine lv_iconst (v := nI 0) hx hb dX2_lots_0 (by decide) ?_
  refine lv_istore_n (lv' := [(2, .int (nI 0)), (0, .ref (ad (3 * i))), (1, .ref (ad (24 + 5 * j)))]) hx hb dX2_lots_1 rfl hl (by decide) rfl (fun ls hl => ?_)
  refine lv_iconst (v := nI 0) hx hb dX2_lots_2 (by decide) ?_
  refine lv_istore_n (lv' := [(3, .int (nI 0)), (2, .int (nI 0)), (0, .ref (ad (3 * i))), (1, .ref (ad (24 + 5 * j)))]) hx hb dX2_lots_3 rfl hl (by decide) rfl (fun ls hl => ?_)
  have loop4 : ∀ (fuel : Nat) (q k : Nat) (hk : k ≤ (S.1 i).2.2) (hq : q = cntB (firstB (S.2.1 j).2.2.1 (S.1 i).1) k), (S.1 i).2.2 - k < fuel → ∀ ls : Array Slot, lv_has ls 4 [(0, .ref (ad (3 * i))), (1, .ref (ad (24 + 5 * j))), (2, .int (nI q)), (3, .int (nI k))] → W p l e ({ frames := 2, cells := 0, slots := 0, locals := 49 } : Room) s m ([.ref (ad (3 * i)), .ref (ad (24 + 5 * j))]).toArray below meth c s.heap [] 0 0 (MQ below (vp_Si (fun r => r = nI (cntB (firstB (S.2.1 j).2.2.1 (S.1 i).1) (S.1 i).2.2))) ([.ref (ad (3 * i)), .ref (ad (24 + 5 * j))]).toArray s 0 0 (fun _ => False)) (F0 m 4 ls []) := by
    intro fuel
    induction fuel with
    | zero => intro q k hk hq hf; exact absurd hf (Nat.not_lt_zero _)
    | succ fuel ih4 =>
      intro q k hk hq hf ls hl
      refine lv_iload_n hx hb dX2_lots_4 rfl (lv_at hl 3 rfl) ?_
      refine lv_aload_n hx hb dX2_lots_5 rfl (lv_at hl 0 rfl) ?_
      refine kr_gn (n := (S.1 i).2.2) hx hb hts hin2 hown hX hi rfl (hts (.fieldLink RX2 18 "Orderlattice$Row" "many" "I") (tm 27 (by decide +kernel) rfl)) dX2_lots_6 ?_
      refine kn_icmp_ge (tgt := 30) hx hb (by omega) (by omega) dX2_lots_9 (by decide) (fun c1 => ?_) (fun c1 => ?_)
      · skip
        refine lv_iload_n hx hb dX2_lots_30 rfl (lv_at hl 2 rfl) ?_
        exact W.iret (v := nI q) hx hb hr (fun t9 ht9 hW9 => ⟨_, rfl, (by rw [hq, show k = (S.1 i).2.2 by omega]), ht9⟩) (fun _ h => nomatch h) dX2_lots_31
      · skip
        refine lv_aload_n hx hb dX2_lots_12 rfl (lv_at hl 0 rfl) ?_
        refine lv_aload_n hx hb dX2_lots_13 rfl (lv_at hl 1 rfl) ?_
        refine lv_iload_n hx hb dX2_lots_14 rfl (lv_at hl 3 rfl) ?_
        refine kx_cr (v := bI (firstB (S.2.1 j).2.2.1 (S.1 i).1 k)) (va_runV (As := [.ref (ad (24 + 5 * j)), .int (nI k)]) (rest := []) ⟨hx, hb, hml, hown, hts⟩ (m_X2_isFirstOfLot l dC dI ad S i j k hi hj hro ho (by omega)) (cwV 2 hts gX2_lots_X2_isFirstOfLot rfl rfl rfl hdX2_isFirstOfLot_2 ⟨Nat.le_of_ble_eq_true rfl, Nat.le_of_ble_eq_true rfl⟩) (hX.preRow hi) rfl rfl hl.1 rfl (lv_room (Nat.le_of_ble_eq_true rfl)) dX2_lots_15 ⟨Nat.le_of_ble_eq_true rfl, Nat.le_of_ble_eq_true rfl⟩) (fun _ h => h) ?_
        refine kb_if_eq (tgt := 24) hx hb dX2_lots_18 (by decide) (fun c2 => ?_) (fun c2 => ?_)
        · skip
          have hc := c2
          refine lv_iinc (v := nI (k + 1)) (lv' := [(3, .int (nI (k + 1))), (0, .ref (ad (3 * i))), (1, .ref (ad (24 + 5 * j))), (2, .int (nI q))]) hx hb dX2_lots_24 hl (k := 3) rfl (nI_1 k) (by decide) rfl (fun ls hl => ?_)
          refine lv_goto (tgt := 4) hx hb dX2_lots_27 (by decide) ?_
          exact ih4  q (k + 1) (by omega) (by rw [cntB_f hc, hq]) (by omega) _ (lv_sub hl [1, 2, 3, 0] rfl)
        · skip
          have hc := c2
          refine lv_iinc (v := nI (q + 1)) (lv' := [(2, .int (nI (q + 1))), (0, .ref (ad (3 * i))), (1, .ref (ad (24 + 5 * j))), (3, .int (nI k))]) hx hb dX2_lots_21 hl (k := 2) rfl (nI_1 q) (by decide) rfl (fun ls hl => ?_)
          refine lv_iinc (v := nI (k + 1)) (lv' := [(3, .int (nI (k + 1))), (2, .int (nI (q + 1))), (0, .ref (ad (3 * i))), (1, .ref (ad (24 + 5 * j)))]) hx hb dX2_lots_24 hl (k := 3) rfl (nI_1 k) (by decide) rfl (fun ls hl => ?_)
          refine lv_goto (tgt := 4) hx hb dX2_lots_27 (by decide) ?_
          exact ih4  (q + 1) (k + 1) (by omega) (by rw [cntB_t hc, hq]) (by omega) _ (lv_sub hl [2, 3, 1, 0] rfl)
  exact loop4 ((S.1 i).2.2 - 0 + 1) 0 0 (by omega) rfl (by omega) _ (lv_sub hl [2, 3, 1, 0] rfl)
set_option maxHeartbeats 4000000 in
set_option maxRecDepth 100000 in
theorem m_X2_lotsAhead (l : Launch) (dC : Nat → ClassId) (dI : Nat → Nat → Nat) (ad : Nat → Nat) (S : XS) (i j x : Nat) (hi : i < 8) (hj : j < 6) (hro : rowOK (S.1 i)) (ho : ordOK (S.2.1 j)) (hx9 : x < 16) : Met l yX2_lotsAhead wsX2_lotsAhead ({ frames := 2, cells := 0, slots := 0, locals := 49 } : Room) (va_Pc [.ref (ad (3 * i)), .ref (ad (24 + 5 * j)), .int (nI x)] (PX dC dI ad S)) (vp_Si (fun r => r = nI (cntB (fun k => firstB (S.2.1 j).2.2.1 (S.1 i).1 k && decide ((S.2.1 j).2.2.1 ((S.1 i).1 k) < (S.2.1 j).2.2.1 x)) (S.1 i).2.2))) 0 0 (fun _ => False) := by
  refine Met.ofW (cc := cX2_lotsAhead) (maxL := 5) (ret := (some .int)) pl_X2 rfl ?_
  intro p e s m args below meth c s₁ B hml hv
  obtain ⟨rfl, hPX⟩ := hv
  have hx := B.exec
  have hb := B.bytes
  have hr := B.returns
  have hts := atoms_spec (ws := wsX2_lotsAhead) B.pre
  have hown : s.vm.findClass RX2 = some m.cls := findClass_of_methodNamed B.named
  have hlocks := B.notSynchronized
  have hin2 : ∀ w ∈ u_ws RX2 TX2 3, w ∈ wsX2_lotsAhead := tu 1322 (by decide +kernel) rfl
  have hX := WX.of hPX
  have hl := lv_entry ([.ref (ad (3 * i)), .ref (ad (24 + 5 * j)), .int (nI x)]) (n := 5) (Nat.le_of_ble_eq_true rfl)
  rw [lg_entry_eq]
  generalize (lg_sl ([.ref (ad (3 * i)), .ref (ad (24 + 5 * j)), .int (nI x)]) ++ List.replicate (5 - (lg_sl ([.ref (ad (3 * i)), .ref (ad (24 + 5 * j)), .int (nI x)])).length) Slot.unset).toArray = ls at hl ⊢
  have hl : lv_has ls 5 [(0, .ref (ad (3 * i))), (1, .ref (ad (24 + 5 * j))), (2, .int (nI x))] := hl
  show W p l e ({ frames := 2, cells := 0, slots := 0, locals := 49 } : Room) s m ([.ref (ad (3 * i)), .ref (ad (24 + 5 * j)), .int (nI x)]).toArray below meth c s.heap [] 0 0 (MQ below (vp_Si (fun r => r = nI (cntB (fun k => firstB (S.2.1 j).2.2.1 (S.1 i).1 k && decide ((S.2.1 j).2.2.1 ((S.1 i).1 k) < (S.2.1 j).2.2.1 x)) (S.1 i).2.2))) ([.ref (ad (3 * i)), .ref (ad (24 + 5 * j)), .int (nI x)]).toArray s 0 0 (fun _ => False)) (F0 m 0 ls [])
  have hn := hro.1
  refine lv_iconst (v := nI 0) hx hb dX2_lotsAhead_0 (by decide) ?_
  refine lv_istore_n (lv' := [(3, .int (nI 0)), (0, .ref (ad (3 * i))), (1, .ref (ad (24 + 5 * j))), (2, .int (nI x))]) hx hb dX2_lotsAhead_1 rfl hl (by decide) rfl (fun ls hl => ?_)
  refine lv_iconst (v := nI 0) hx hb dX2_lotsAhead_2 (by decide) ?_
  refine lv_istore (lv' := [(4, .int (nI 0)), (3, .int (nI 0)), (0, .ref (ad (3 * i))), (1, .ref (ad (24 + 5 * j))), (2, .int (nI x))]) hx hb dX2_lotsAhead_3 hl (by decide) rfl (fun ls hl => ?_)
  have loop5 : ∀ (fuel : Nat) (q k : Nat) (hk : k ≤ (S.1 i).2.2) (hq : q = cntB (fun k => firstB (S.2.1 j).2.2.1 (S.1 i).1 k && decide ((S.2.1 j).2.2.1 ((S.1 i).1 k) < (S.2.1 j).2.2.1 x)) k), (S.1 i).2.2 - k < fuel → ∀ ls : Array Slot, lv_has ls 5 [(0, .ref (ad (3 * i))), (1, .ref (ad (24 + 5 * j))), (2, .int (nI x)), (3, .int (nI q)), (4, .int (nI k))] → W p l e ({ frames := 2, cells := 0, slots := 0, locals := 49 } : Room) s m ([.ref (ad (3 * i)), .ref (ad (24 + 5 * j)), .int (nI x)]).toArray below meth c s.heap [] 0 0 (MQ below (vp_Si (fun r => r = nI (cntB (fun k => firstB (S.2.1 j).2.2.1 (S.1 i).1 k && decide ((S.2.1 j).2.2.1 ((S.1 i).1 k) < (S.2.1 j).2.2.1 x)) (S.1 i).2.2))) ([.ref (ad (3 * i)), .ref (ad (24 + 5 * j)), .int (nI x)]).toArray s 0 0 (fun _ => False)) (F0 m 5 ls []) := by
    intro fuel
    induction fuel with
    | zero => intro q k hk hq hf; exact absurd hf (Nat.not_lt_zero _)
    | succ fuel ih5 =>
      intro q k hk hq hf ls hl
      refine lv_iload hx hb dX2_lotsAhead_5 (lv_at hl 4 rfl) ?_
      refine lv_aload_n hx hb dX2_lotsAhead_7 rfl (lv_at hl 0 rfl) ?_
      refine kr_gn (n := (S.1 i).2.2) hx hb hts hin2 hown hX hi rfl (hts (.fieldLink RX2 18 "Orderlattice$Row" "many" "I") (tm 27 (by decide +kernel) rfl)) dX2_lotsAhead_8 ?_
      refine kn_icmp_ge (tgt := 47) hx hb (by omega) (by omega) dX2_lotsAhead_11 (by decide) (fun c1 => ?_) (fun c1 => ?_)
      · skip
        refine lv_iload_n hx hb dX2_lotsAhead_47 rfl (lv_at hl 3 rfl) ?_
        exact W.iret (v := nI q) hx hb hr (fun t9 ht9 hW9 => ⟨_, rfl, (by rw [hq, show k = (S.1 i).2.2 by omega]), ht9⟩) (fun _ h => nomatch h) dX2_lotsAhead_48
      · skip
        refine lv_aload_n hx hb dX2_lotsAhead_14 rfl (lv_at hl 1 rfl) ?_
        refine lv_aload_n hx hb dX2_lotsAhead_15 rfl (lv_at hl 0 rfl) ?_
        refine lv_iload hx hb dX2_lotsAhead_16 (lv_at hl 4 rfl) ?_
        refine kx_cr (v := nI (((S.1 i).1) k)) (va_runV (As := [.int (nI k)]) (rest := [.ref (ad (24 + 5 * j))]) ⟨hx, hb, hml, hown, hts⟩ (m_X2_valueOn l dC dI ad S i k hi (by omega)) (cwV 1 hts gX2_lotsAhead_X2_valueOn rfl rfl rfl hdX2_valueOn_1 ⟨Nat.le_of_ble_eq_true rfl, Nat.le_of_ble_eq_true rfl⟩) (hX.preRow hi) rfl rfl hl.1 rfl (lv_room (Nat.le_of_ble_eq_true rfl)) dX2_lotsAhead_18 ⟨Nat.le_of_ble_eq_true rfl, Nat.le_of_ble_eq_true rfl⟩) (fun _ h => h) ?_
        refine lv_iload_n hx hb dX2_lotsAhead_21 rfl (lv_at hl 2 rfl) ?_
        refine kx_cr (v := cmpI (((S.2.1 j).2.2.1) (((S.1 i).1) k)) (((S.2.1 j).2.2.1) x)) (va_runV (As := [.int (nI (((S.1 i).1) k)), .int (nI x)]) (rest := []) ⟨hx, hb, hml, hown, hts⟩ (m_X1_compared l dC dI ad S j (((S.1 i).1) k) x hj ho (hro.2 _ (by omega)).1 (by omega)) (cwV 2 hts gX2_lotsAhead_X1_compared rfl rfl rfl hdX1_compared_2 ⟨Nat.le_of_ble_eq_true rfl, Nat.le_of_ble_eq_true rfl⟩) (hX.preOrd hj) rfl rfl hl.1 rfl (lv_room (Nat.le_of_ble_eq_true rfl)) dX2_lotsAhead_22 ⟨Nat.le_of_ble_eq_true rfl, Nat.le_of_ble_eq_true rfl⟩) (fun _ h => h) ?_
        refine kc_if_ge (tgt := 41) hx hb dX2_lotsAhead_25 (by decide) (fun c2 => ?_) (fun c2 => ?_)
        · skip
          have hc := c2
          refine lv_iinc (v := nI (k + 1)) (lv' := [(4, .int (nI (k + 1))), (0, .ref (ad (3 * i))), (1, .ref (ad (24 + 5 * j))), (2, .int (nI x)), (3, .int (nI q))]) hx hb dX2_lotsAhead_41 hl (k := 4) rfl (nI_1 k) (by decide) rfl (fun ls hl => ?_)
          refine lv_goto (tgt := 5) hx hb dX2_lotsAhead_44 (by decide) ?_
          exact ih5  q (k + 1) (by omega) (by rw [cntB_f (by rw [decide_eq_false (by omega), Bool.and_false]), hq]) (by omega) _ (lv_sub hl [1, 2, 3, 4, 0] rfl)
        · skip
          have hc := c2
          refine lv_aload_n hx hb dX2_lotsAhead_28 rfl (lv_at hl 0 rfl) ?_
          refine lv_aload_n hx hb dX2_lotsAhead_29 rfl (lv_at hl 1 rfl) ?_
          refine lv_iload hx hb dX2_lotsAhead_30 (lv_at hl 4 rfl) ?_
          refine kx_cr (v := bI (firstB (S.2.1 j).2.2.1 (S.1 i).1 k)) (va_runV (As := [.ref (ad (24 + 5 * j)), .int (nI k)]) (rest := []) ⟨hx, hb, hml, hown, hts⟩ (m_X2_isFirstOfLot l dC dI ad S i j k hi hj hro ho (by omega)) (cwV 2 hts gX2_lotsAhead_X2_isFirstOfLot rfl rfl rfl hdX2_isFirstOfLot_2 ⟨Nat.le_of_ble_eq_true rfl, Nat.le_of_ble_eq_true rfl⟩) (hX.preRow hi) rfl rfl hl.1 rfl (lv_room (Nat.le_of_ble_eq_true rfl)) dX2_lotsAhead_32 ⟨Nat.le_of_ble_eq_true rfl, Nat.le_of_ble_eq_true rfl⟩) (fun _ h => h) ?_
          refine kb_if_eq (tgt := 41) hx hb dX2_lotsAhead_35 (by decide) (fun c3 => ?_) (fun c3 => ?_)
          · skip
            have hd := c3
            refine lv_iinc (v := nI (k + 1)) (lv' := [(4, .int (nI (k + 1))), (0, .ref (ad (3 * i))), (1, .ref (ad (24 + 5 * j))), (2, .int (nI x)), (3, .int (nI q))]) hx hb dX2_lotsAhead_41 hl (k := 4) rfl (nI_1 k) (by decide) rfl (fun ls hl => ?_)
            refine lv_goto (tgt := 5) hx hb dX2_lotsAhead_44 (by decide) ?_
            exact ih5  q (k + 1) (by omega) (by rw [cntB_f (by rw [hd, Bool.false_and]), hq]) (by omega) _ (lv_sub hl [1, 2, 3, 4, 0] rfl)
          · skip
            have hd := c3
            refine lv_iinc (v := nI (q + 1)) (lv' := [(3, .int (nI (q + 1))), (0, .ref (ad (3 * i))), (1, .ref (ad (24 + 5 * j))), (2, .int (nI x)), (4, .int (nI k))]) hx hb dX2_lotsAhead_38 hl (k := 3) rfl (nI_1 q) (by decide) rfl (fun ls hl => ?_)
            refine lv_iinc (v := nI (k + 1)) (lv' := [(4, .int (nI (k + 1))), (3, .int (nI (q + 1))), (0, .ref (ad (3 * i))), (1, .ref (ad (24 + 5 * j))), (2, .int (nI x))]) hx hb dX2_lotsAhead_41 hl (k := 4) rfl (nI_1 k) (by decide) rfl (fun ls hl => ?_)
            refine lv_goto (tgt := 5) hx hb dX2_lotsAhead_44 (by decide) ?_
            exact ih5  (q + 1) (k + 1) (by omega) (by rw [cntB_t (by rw [hd, decide_eq_true hc, Bool.true_and]), hq]) (by omega) _ (lv_sub hl [2, 3, 4, 1, 0] rfl)
  exact loop5 ((S.1 i).2.2 - 0 + 1) 0 0 (by omega) rfl (by omega) _ (lv_sub hl [2, 3, 4, 1, 0] rfl)
set_option maxHeartbeats 4000000 in
set_option maxRecDepth 100000 in
theorem m_X2_firstPlaceBy (l : Launch) (dC : Nat → ClassId) (dI : Nat → Nat → Nat) (ad : Nat → Nat) (S : XS) (i j : Nat) (hi : i < 8) (hj : j < 6) (hro : rowOK (S.1 i)) (ho : ordOK (S.2.1 j)) : Met l yX2_firstPlaceBy wsX2_firstPlaceBy ({ frames := 1, cells := 0, slots := 0, locals := 26 } : Room) (va_Pc [.ref (ad (3 * i)), .ref (ad (24 + 5 * j))] (PX dC dI ad S)) (vp_Si (fun r => r = oI (bestB (fun _ => true) (fun a b => decide ((S.2.1 j).2.2.1 ((S.1 i).1 a) < (S.2.1 j).2.2.1 ((S.1 i).1 b))) (S.1 i).2.2))) 0 0 (fun _ => False) := by
  refine Met.ofW (cc := cX2_firstPlaceBy) (maxL := 4) (ret := (some .int)) pl_X2 rfl ?_
  intro p e s m args below meth c s₁ B hml hv
  obtain ⟨rfl, hPX⟩ := hv
  have hx := B.exec
  have hb := B.bytes
  have hr := B.returns
  have hts := atoms_spec (ws := wsX2_firstPlaceBy) B.pre
  have hown : s.vm.findClass RX2 = some m.cls := findClass_of_methodNamed B.named
  have hlocks := B.notSynchronized
  have hin2 : ∀ w ∈ u_ws RX2 TX2 3, w ∈ wsX2_firstPlaceBy := tu 1322 (by decide +kernel) rfl
  have hX := WX.of hPX
  have hl := lv_entry ([.ref (ad (3 * i)), .ref (ad (24 + 5 * j))]) (n := 4) (Nat.le_of_ble_eq_true rfl)
  rw [lg_entry_eq]
  generalize (lg_sl ([.ref (ad (3 * i)), .ref (ad (24 + 5 * j))]) ++ List.replicate (4 - (lg_sl ([.ref (ad (3 * i)), .ref (ad (24 + 5 * j))])).length) Slot.unset).toArray = ls at hl ⊢
  have hl : lv_has ls 4 [(0, .ref (ad (3 * i))), (1, .ref (ad (24 + 5 * j)))] := hl
  show W p l e ({ frames := 1, cells := 0, slots := 0, locals := 26 } : Room) s m ([.ref (ad (3 * i)), .ref (ad (24 + 5 * j))]).toArray below meth c s.heap [] 0 0 (MQ below (vp_Si (fun r => r = oI (bestB (fun _ => true) (fun a b => decide ((S.2.1 j).2.2.1 ((S.1 i).1 a) < (S.2.1 j).2.2.1 ((S.1 i).1 b))) (S.1 i).2.2))) ([.ref (ad (3 * i)), .ref (ad (24 + 5 * j))]).toArray s 0 0 (fun _ => False)) (F0 m 0 ls [])
  have hn := hro.1
  refine lv_iconst (v := (-1)) hx hb dX2_firstPlaceBy_0 (by decide) ?_
  refine lv_istore_n (lv' := [(2, .int (-1)), (0, .ref (ad (3 * i))), (1, .ref (ad (24 + 5 * j)))]) hx hb dX2_firstPlaceBy_1 rfl hl (by decide) rfl (fun ls hl => ?_)
  refine lv_iconst (v := nI 0) hx hb dX2_firstPlaceBy_2 (by decide) ?_
  refine lv_istore_n (lv' := [(3, .int (nI 0)), (2, .int (-1)), (0, .ref (ad (3 * i))), (1, .ref (ad (24 + 5 * j)))]) hx hb dX2_firstPlaceBy_3 rfl hl (by decide) rfl (fun ls hl => ?_)
  have loop4 : ∀ (fuel : Nat) (o : Option Nat) (k : Nat) (hk : k ≤ (S.1 i).2.2) (hq : o = bestB (fun _ => true) (fun a b => decide ((S.2.1 j).2.2.1 ((S.1 i).1 a) < (S.2.1 j).2.2.1 ((S.1 i).1 b))) k), (S.1 i).2.2 - k < fuel → ∀ ls : Array Slot, lv_has ls 4 [(0, .ref (ad (3 * i))), (1, .ref (ad (24 + 5 * j))), (2, .int (oI o)), (3, .int (nI k))] → W p l e ({ frames := 1, cells := 0, slots := 0, locals := 26 } : Room) s m ([.ref (ad (3 * i)), .ref (ad (24 + 5 * j))]).toArray below meth c s.heap [] 0 0 (MQ below (vp_Si (fun r => r = oI (bestB (fun _ => true) (fun a b => decide ((S.2.1 j).2.2.1 ((S.1 i).1 a) < (S.2.1 j).2.2.1 ((S.1 i).1 b))) (S.1 i).2.2))) ([.ref (ad (3 * i)), .ref (ad (24 + 5 * j))]).toArray s 0 0 (fun _ => False)) (F0 m 4 ls []) := by
    intro fuel
    induction fuel with
    | zero => intro o k hk hq hf; exact absurd hf (Nat.not_lt_zero _)
    | succ fuel ih4 =>
      intro o k hk hq hf ls hl
      refine lv_iload_n hx hb dX2_firstPlaceBy_4 rfl (lv_at hl 3 rfl) ?_
      refine lv_aload_n hx hb dX2_firstPlaceBy_5 rfl (lv_at hl 0 rfl) ?_
      refine kr_gn (n := (S.1 i).2.2) hx hb hts hin2 hown hX hi rfl (hts (.fieldLink RX2 18 "Orderlattice$Row" "many" "I") (tm 27 (by decide +kernel) rfl)) dX2_firstPlaceBy_6 ?_
      refine kn_icmp_ge (tgt := 42) hx hb (by omega) (by omega) dX2_firstPlaceBy_9 (by decide) (fun c1 => ?_) (fun c1 => ?_)
      · skip
        refine lv_iload_n hx hb dX2_firstPlaceBy_42 rfl (lv_at hl 2 rfl) ?_
        exact W.iret (v := (oI o)) hx hb hr (fun t9 ht9 hW9 => ⟨_, rfl, (by rw [hq, show k = (S.1 i).2.2 by omega]), ht9⟩) (fun _ h => nomatch h) dX2_firstPlaceBy_43
      · skip
        rcases o with _ | bb
        · skip
          refine lv_iload_n hx hb dX2_firstPlaceBy_12 rfl (lv_at hl 2 rfl) ?_
          refine lv_iconst (v := (-1)) hx hb dX2_firstPlaceBy_13 (by decide) ?_
          refine lv_icmp_eq (tgt := 34) hx hb dX2_firstPlaceBy_14 (by decide) (fun c2 => ?_) (fun c2 => absurd rfl c2)
          refine lv_iload_n hx hb dX2_firstPlaceBy_34 rfl (lv_at hl 3 rfl) ?_
          refine lv_istore_n (lv' := [(2, .int (nI k)), (0, .ref (ad (3 * i))), (1, .ref (ad (24 + 5 * j))), (3, .int (nI k))]) hx hb dX2_firstPlaceBy_35 rfl hl (by decide) rfl (fun ls hl => ?_)
          refine lv_iinc (v := nI (k + 1)) (lv' := [(3, .int (nI (k + 1))), (2, .int (nI k)), (0, .ref (ad (3 * i))), (1, .ref (ad (24 + 5 * j)))]) hx hb dX2_firstPlaceBy_36 hl (k := 3) rfl (nI_1 k) (by decide) rfl (fun ls hl => ?_)
          refine lv_goto (tgt := 4) hx hb dX2_firstPlaceBy_39 (by decide) ?_
          exact ih4  (some k) (k + 1) (by omega) (bestB_first rfl hq.symm).symm (by omega) _ (lv_sub hl [2, 3, 1, 0] rfl)
        · skip
          have hbb := (bestB_lt hq.symm).1
          have hl : lv_has ls 4 [(0, .ref (ad (3 * i))), (1, .ref (ad (24 + 5 * j))), (2, .int (nI bb)), (3, .int (nI k))] := hl
          refine lv_iload_n hx hb dX2_firstPlaceBy_12 rfl (lv_at hl 2 rfl) ?_
          refine lv_iconst (v := (-1)) hx hb dX2_firstPlaceBy_13 (by decide) ?_
          refine lv_icmp_eq (tgt := 34) hx hb dX2_firstPlaceBy_14 (by decide) (fun c3 => absurd c3 (nI_nm1 (by omega))) (fun c3 => ?_)
          refine lv_aload_n hx hb dX2_firstPlaceBy_17 rfl (lv_at hl 1 rfl) ?_
          refine lv_aload_n hx hb dX2_firstPlaceBy_18 rfl (lv_at hl 0 rfl) ?_
          refine lv_iload_n hx hb dX2_firstPlaceBy_19 rfl (lv_at hl 3 rfl) ?_
          refine kx_cr (v := nI (((S.1 i).1) k)) (va_runV (As := [.int (nI k)]) (rest := [.ref (ad (24 + 5 * j))]) ⟨hx, hb, hml, hown, hts⟩ (m_X2_valueOn l dC dI ad S i k hi (by omega)) (cwV 1 hts gX2_firstPlaceBy_X2_valueOn rfl rfl rfl hdX2_valueOn_1 ⟨Nat.le_of_ble_eq_true rfl, Nat.le_of_ble_eq_true rfl⟩) (hX.preRow hi) rfl rfl hl.1 rfl (lv_room (Nat.le_of_ble_eq_true rfl)) dX2_firstPlaceBy_20 ⟨Nat.le_of_ble_eq_true rfl, Nat.le_of_ble_eq_true rfl⟩) (fun _ h => h) ?_
          refine lv_aload_n hx hb dX2_firstPlaceBy_23 rfl (lv_at hl 0 rfl) ?_
          refine lv_iload_n hx hb dX2_firstPlaceBy_24 rfl (lv_at hl 2 rfl) ?_
          refine kx_cr (v := nI (((S.1 i).1) bb)) (va_runV (As := [.int (nI bb)]) (rest := [.int (nI (((S.1 i).1) k)), .ref (ad (24 + 5 * j))]) ⟨hx, hb, hml, hown, hts⟩ (m_X2_valueOn l dC dI ad S i bb hi (by omega)) (cwV 1 hts gX2_firstPlaceBy_X2_valueOn rfl rfl rfl hdX2_valueOn_1 ⟨Nat.le_of_ble_eq_true rfl, Nat.le_of_ble_eq_true rfl⟩) (hX.preRow hi) rfl rfl hl.1 rfl (lv_room (Nat.le_of_ble_eq_true rfl)) dX2_firstPlaceBy_25 ⟨Nat.le_of_ble_eq_true rfl, Nat.le_of_ble_eq_true rfl⟩) (fun _ h => h) ?_
          refine kx_cr (v := cmpI (((S.2.1 j).2.2.1) (((S.1 i).1) k)) (((S.2.1 j).2.2.1) (((S.1 i).1) bb))) (va_runV (As := [.int (nI (((S.1 i).1) k)), .int (nI (((S.1 i).1) bb))]) (rest := []) ⟨hx, hb, hml, hown, hts⟩ (m_X1_compared l dC dI ad S j (((S.1 i).1) k) (((S.1 i).1) bb) hj ho (hro.2 _ (by omega)).1 (hro.2 _ (by omega)).1) (cwV 2 hts gX2_firstPlaceBy_X1_compared rfl rfl rfl hdX1_compared_2 ⟨Nat.le_of_ble_eq_true rfl, Nat.le_of_ble_eq_true rfl⟩) (hX.preOrd hj) rfl rfl hl.1 rfl (lv_room (Nat.le_of_ble_eq_true rfl)) dX2_firstPlaceBy_28 ⟨Nat.le_of_ble_eq_true rfl, Nat.le_of_ble_eq_true rfl⟩) (fun _ h => h) ?_
          refine kc_if_ge (tgt := 36) hx hb dX2_firstPlaceBy_31 (by decide) (fun c4 => ?_) (fun c4 => ?_)
          · skip
            have hc := c4
            refine lv_iinc (v := nI (k + 1)) (lv' := [(3, .int (nI (k + 1))), (0, .ref (ad (3 * i))), (1, .ref (ad (24 + 5 * j))), (2, .int (nI bb))]) hx hb dX2_firstPlaceBy_36 hl (k := 3) rfl (nI_1 k) (by decide) rfl (fun ls hl => ?_)
            refine lv_goto (tgt := 4) hx hb dX2_firstPlaceBy_39 (by decide) ?_
            exact ih4  (some bb) (k + 1) (by omega) (bestB_old rfl hq.symm (decide_eq_false (by omega))).symm (by omega) _ (lv_sub hl [1, 2, 3, 0] rfl)
          · skip
            have hc := c4
            refine lv_iload_n hx hb dX2_firstPlaceBy_34 rfl (lv_at hl 3 rfl) ?_
            refine lv_istore_n (lv' := [(2, .int (nI k)), (0, .ref (ad (3 * i))), (1, .ref (ad (24 + 5 * j))), (3, .int (nI k))]) hx hb dX2_firstPlaceBy_35 rfl hl (by decide) rfl (fun ls hl => ?_)
            refine lv_iinc (v := nI (k + 1)) (lv' := [(3, .int (nI (k + 1))), (2, .int (nI k)), (0, .ref (ad (3 * i))), (1, .ref (ad (24 + 5 * j)))]) hx hb dX2_firstPlaceBy_36 hl (k := 3) rfl (nI_1 k) (by decide) rfl (fun ls hl => ?_)
            refine lv_goto (tgt := 4) hx hb dX2_firstPlaceBy_39 (by decide) ?_
            exact ih4  (some k) (k + 1) (by omega) (bestB_new rfl hq.symm (decide_eq_true hc)).symm (by omega) _ (lv_sub hl [2, 3, 1, 0] rfl)
  exact loop4 ((S.1 i).2.2 - 0 + 1) none 0 (by omega) rfl (by omega) _ (lv_sub hl [2, 3, 1, 0] rfl)
set_option maxHeartbeats 4000000 in
set_option maxRecDepth 100000 in
theorem m_X2_lastPlaceBy (l : Launch) (dC : Nat → ClassId) (dI : Nat → Nat → Nat) (ad : Nat → Nat) (S : XS) (i j : Nat) (hi : i < 8) (hj : j < 6) (hro : rowOK (S.1 i)) (ho : ordOK (S.2.1 j)) : Met l yX2_lastPlaceBy wsX2_lastPlaceBy ({ frames := 1, cells := 0, slots := 0, locals := 26 } : Room) (va_Pc [.ref (ad (3 * i)), .ref (ad (24 + 5 * j))] (PX dC dI ad S)) (vp_Si (fun r => r = oI (bestB (fun _ => true) (fun a b => decide ((S.2.1 j).2.2.1 ((S.1 i).1 b) < (S.2.1 j).2.2.1 ((S.1 i).1 a))) (S.1 i).2.2))) 0 0 (fun _ => False) := by
  refine Met.ofW (cc := cX2_lastPlaceBy) (maxL := 4) (ret := (some .int)) pl_X2 rfl ?_
  intro p e s m args below meth c s₁ B hml hv
  obtain ⟨rfl, hPX⟩ := hv
  have hx := B.exec
  have hb := B.bytes
  have hr := B.returns
  have hts := atoms_spec (ws := wsX2_lastPlaceBy) B.pre
  have hown : s.vm.findClass RX2 = some m.cls := findClass_of_methodNamed B.named
  have hlocks := B.notSynchronized
  have hin2 : ∀ w ∈ u_ws RX2 TX2 3, w ∈ wsX2_lastPlaceBy := tu 1322 (by decide +kernel) rfl
  have hX := WX.of hPX
  have hl := lv_entry ([.ref (ad (3 * i)), .ref (ad (24 + 5 * j))]) (n := 4) (Nat.le_of_ble_eq_true rfl)
  rw [lg_entry_eq]
  generalize (lg_sl ([.ref (ad (3 * i)), .ref (ad (24 + 5 * j))]) ++ List.replicate (4 - (lg_sl ([.ref (ad (3 * i)), .ref (ad (24 + 5 * j))])).length) Slot.unset).toArray = ls at hl ⊢
  have hl : lv_has ls 4 [(0, .ref (ad (3 * i))), (1, .ref (ad (24 + 5 * j)))] := hl
  show W p l e ({ frames := 1, cells := 0, slots := 0, locals := 26 } : Room) s m ([.ref (ad (3 * i)), .ref (ad (24 + 5 * j))]).toArray below meth c s.heap [] 0 0 (MQ below (vp_Si (fun r => r = oI (bestB (fun _ => true) (fun a b => decide ((S.2.1 j).2.2.1 ((S.1 i).1 b) < (S.2.1 j).2.2.1 ((S.1 i).1 a))) (S.1 i).2.2))) ([.ref (ad (3 * i)), .ref (ad (24 + 5 * j))]).toArray s 0 0 (fun _ => False)) (F0 m 0 ls [])
  have hn := hro.1
  refine lv_iconst (v := (-1)) hx hb dX2_lastPlaceBy_0 (by decide) ?_
  refine lv_istore_n (lv' := [(2, .int (-1)), (0, .ref (ad (3 * i))), (1, .ref (ad (24 + 5 * j)))]) hx hb dX2_lastPlaceBy_1 rfl hl (by decide) rfl (fun ls hl => ?_)
  refine lv_iconst (v := nI 0) hx hb dX2_lastPlaceBy_2 (by decide) ?_
  refine lv_istore_n (lv' := [(3, .int (nI 0)), (2, .int (-1)), (0, .ref (ad (3 * i))), (1, .ref (ad (24 + 5 * j)))]) hx hb dX2_lastPlaceBy_3 rfl hl (by decide) rfl (fun ls hl => ?_)
  have loop4 : ∀ (fuel : Nat) (o : Option Nat) (k : Nat) (hk : k ≤ (S.1 i).2.2) (hq : o = bestB (fun _ => true) (fun a b => decide ((S.2.1 j).2.2.1 ((S.1 i).1 b) < (S.2.1 j).2.2.1 ((S.1 i).1 a))) k), (S.1 i).2.2 - k < fuel → ∀ ls : Array Slot, lv_has ls 4 [(0, .ref (ad (3 * i))), (1, .ref (ad (24 + 5 * j))), (2, .int (oI o)), (3, .int (nI k))] → W p l e ({ frames := 1, cells := 0, slots := 0, locals := 26 } : Room) s m ([.ref (ad (3 * i)), .ref (ad (24 + 5 * j))]).toArray below meth c s.heap [] 0 0 (MQ below (vp_Si (fun r => r = oI (bestB (fun _ => true) (fun a b => decide ((S.2.1 j).2.2.1 ((S.1 i).1 b) < (S.2.1 j).2.2.1 ((S.1 i).1 a))) (S.1 i).2.2))) ([.ref (ad (3 * i)), .ref (ad (24 + 5 * j))]).toArray s 0 0 (fun _ => False)) (F0 m 4 ls []) := by
    intro fuel
    induction fuel with
    | zero => intro o k hk hq hf; exact absurd hf (Nat.not_lt_zero _)
    | succ fuel ih4 =>
      intro o k hk hq hf ls hl
      refine lv_iload_n hx hb dX2_lastPlaceBy_4 rfl (lv_at hl 3 rfl) ?_
      refine lv_aload_n hx hb dX2_lastPlaceBy_5 rfl (lv_at hl 0 rfl) ?_
      refine kr_gn (n := (S.1 i).2.2) hx hb hts hin2 hown hX hi rfl (hts (.fieldLink RX2 18 "Orderlattice$Row" "many" "I") (tm 27 (by decide +kernel) rfl)) dX2_lastPlaceBy_6 ?_
      refine kn_icmp_ge (tgt := 42) hx hb (by omega) (by omega) dX2_lastPlaceBy_9 (by decide) (fun c1 => ?_) (fun c1 => ?_)
      · skip
        refine lv_iload_n hx hb dX2_lastPlaceBy_42 rfl (lv_at hl 2 rfl) ?_
        exact W.iret (v := (oI o)) hx hb hr (fun t9 ht9 hW9 => ⟨_, rfl, (by rw [hq, show k = (S.1 i).2.2 by omega]), ht9⟩) (fun _ h => nomatch h) dX2_lastPlaceBy_43
      · skip
        rcases o with _ | bb
        · skip
          refine lv_iload_n hx hb dX2_lastPlaceBy_12 rfl (lv_at hl 2 rfl) ?_
          refine lv_iconst (v := (-1)) hx hb dX2_lastPlaceBy_13 (by decide) ?_
          refine lv_icmp_eq (tgt := 34) hx hb dX2_lastPlaceBy_14 (by decide) (fun c2 => ?_) (fun c2 => absurd rfl c2)
          refine lv_iload_n hx hb dX2_lastPlaceBy_34 rfl (lv_at hl 3 rfl) ?_
          refine lv_istore_n (lv' := [(2, .int (nI k)), (0, .ref (ad (3 * i))), (1, .ref (ad (24 + 5 * j))), (3, .int (nI k))]) hx hb dX2_lastPlaceBy_35 rfl hl (by decide) rfl (fun ls hl => ?_)
          refine lv_iinc (v := nI (k + 1)) (lv' := [(3, .int (nI (k + 1))), (2, .int (nI k)), (0, .ref (ad (3 * i))), (1, .ref (ad (24 + 5 * j)))]) hx hb dX2_lastPlaceBy_36 hl (k := 3) rfl (nI_1 k) (by decide) rfl (fun ls hl => ?_)
          refine lv_goto (tgt := 4) hx hb dX2_lastPlaceBy_39 (by decide) ?_
          exact ih4  (some k) (k + 1) (by omega) (bestB_first rfl hq.symm).symm (by omega) _ (lv_sub hl [2, 3, 1, 0] rfl)
        · skip
          have hbb := (bestB_lt hq.symm).1
          have hl : lv_has ls 4 [(0, .ref (ad (3 * i))), (1, .ref (ad (24 + 5 * j))), (2, .int (nI bb)), (3, .int (nI k))] := hl
          refine lv_iload_n hx hb dX2_lastPlaceBy_12 rfl (lv_at hl 2 rfl) ?_
          refine lv_iconst (v := (-1)) hx hb dX2_lastPlaceBy_13 (by decide) ?_
          refine lv_icmp_eq (tgt := 34) hx hb dX2_lastPlaceBy_14 (by decide) (fun c3 => absurd c3 (nI_nm1 (by omega))) (fun c3 => ?_)
          refine lv_aload_n hx hb dX2_lastPlaceBy_17 rfl (lv_at hl 1 rfl) ?_
          refine lv_aload_n hx hb dX2_lastPlaceBy_18 rfl (lv_at hl 0 rfl) ?_
          refine lv_iload_n hx hb dX2_lastPlaceBy_19 rfl (lv_at hl 3 rfl) ?_
          refine kx_cr (v := nI (((S.1 i).1) k)) (va_runV (As := [.int (nI k)]) (rest := [.ref (ad (24 + 5 * j))]) ⟨hx, hb, hml, hown, hts⟩ (m_X2_valueOn l dC dI ad S i k hi (by omega)) (cwV 1 hts gX2_lastPlaceBy_X2_valueOn rfl rfl rfl hdX2_valueOn_1 ⟨Nat.le_of_ble_eq_true rfl, Nat.le_of_ble_eq_true rfl⟩) (hX.preRow hi) rfl rfl hl.1 rfl (lv_room (Nat.le_of_ble_eq_true rfl)) dX2_lastPlaceBy_20 ⟨Nat.le_of_ble_eq_true rfl, Nat.le_of_ble_eq_true rfl⟩) (fun _ h => h) ?_
          refine lv_aload_n hx hb dX2_lastPlaceBy_23 rfl (lv_at hl 0 rfl) ?_
          refine lv_iload_n hx hb dX2_lastPlaceBy_24 rfl (lv_at hl 2 rfl) ?_
          refine kx_cr (v := nI (((S.1 i).1) bb)) (va_runV (As := [.int (nI bb)]) (rest := [.int (nI (((S.1 i).1) k)), .ref (ad (24 + 5 * j))]) ⟨hx, hb, hml, hown, hts⟩ (m_X2_valueOn l dC dI ad S i bb hi (by omega)) (cwV 1 hts gX2_lastPlaceBy_X2_valueOn rfl rfl rfl hdX2_valueOn_1 ⟨Nat.le_of_ble_eq_true rfl, Nat.le_of_ble_eq_true rfl⟩) (hX.preRow hi) rfl rfl hl.1 rfl (lv_room (Nat.le_of_ble_eq_true rfl)) dX2_lastPlaceBy_25 ⟨Nat.le_of_ble_eq_true rfl, Nat.le_of_ble_eq_true rfl⟩) (fun _ h => h) ?_
          refine kx_cr (v := cmpI (((S.2.1 j).2.2.1) (((S.1 i).1) k)) (((S.2.1 j).2.2.1) (((S.1 i).1) bb))) (va_runV (As := [.int (nI (((S.1 i).1) k)), .int (nI (((S.1 i).1) bb))]) (rest := []) ⟨hx, hb, hml, hown, hts⟩ (m_X1_compared l dC dI ad S j (((S.1 i).1) k) (((S.1 i).1) bb) hj ho (hro.2 _ (by omega)).1 (hro.2 _ (by omega)).1) (cwV 2 hts gX2_lastPlaceBy_X1_compared rfl rfl rfl hdX1_compared_2 ⟨Nat.le_of_ble_eq_true rfl, Nat.le_of_ble_eq_true rfl⟩) (hX.preOrd hj) rfl rfl hl.1 rfl (lv_room (Nat.le_of_ble_eq_true rfl)) dX2_lastPlaceBy_28 ⟨Nat.le_of_ble_eq_true rfl, Nat.le_of_ble_eq_true rfl⟩) (fun _ h => h) ?_
          refine kc_if_le (tgt := 36) hx hb dX2_lastPlaceBy_31 (by decide) (fun c4 => ?_) (fun c4 => ?_)
          · skip
            have hc := c4
            refine lv_iinc (v := nI (k + 1)) (lv' := [(3, .int (nI (k + 1))), (0, .ref (ad (3 * i))), (1, .ref (ad (24 + 5 * j))), (2, .int (nI bb))]) hx hb dX2_lastPlaceBy_36 hl (k := 3) rfl (nI_1 k) (by decide) rfl (fun ls hl => ?_)
            refine lv_goto (tgt := 4) hx hb dX2_lastPlaceBy_39 (by decide) ?_
            exact ih4  (some bb) (k + 1) (by omega) (bestB_old rfl hq.symm (decide_eq_false (by omega))).symm (by omega) _ (lv_sub hl [1, 2, 3, 0] rfl)
          · skip
            have hc := c4
            refine lv_iload_n hx hb dX2_lastPlaceBy_34 rfl (lv_at hl 3 rfl) ?_
            refine lv_istore_n (lv' := [(2, .int (nI k)), (0, .ref (ad (3 * i))), (1, .ref (ad (24 + 5 * j))), (3, .int (nI k))]) hx hb dX2_lastPlaceBy_35 rfl hl (by decide) rfl (fun ls hl => ?_)
            refine lv_iinc (v := nI (k + 1)) (lv' := [(3, .int (nI (k + 1))), (2, .int (nI k)), (0, .ref (ad (3 * i))), (1, .ref (ad (24 + 5 * j)))]) hx hb dX2_lastPlaceBy_36 hl (k := 3) rfl (nI_1 k) (by decide) rfl (fun ls hl => ?_)
            refine lv_goto (tgt := 4) hx hb dX2_lastPlaceBy_39 (by decide) ?_
            exact ih4  (some k) (k + 1) (by omega) (bestB_new rfl hq.symm (decide_eq_true hc)).symm (by omega) _ (lv_sub hl [2, 3, 1, 0] rfl)
  exact loop4 ((S.1 i).2.2 - 0 + 1) none 0 (by omega) rfl (by omega) _ (lv_sub hl [2, 3, 1, 0] rfl)
set_option maxHeartbeats 4000000 in
set_option maxRecDepth 100000 in
theorem m_X2_isOnSide (l : Launch) (dC : Nat → ClassId) (dI : Nat → Nat → Nat) (ad : Nat → Nat) (S : XS) (a b h : Nat) (hh : h < 4) : Met l yX2_isOnSide wsX2_isOnSide ({ frames := 0, cells := 0, slots := 0, locals := 0 } : Room) (va_Pc [.int (cmpI a b), .int (nI h)] (PX dC dI ad S)) (vp_Si (fun r => r = bI (sideB h a b))) 0 0 (fun _ => False) := by
  refine Met.ofW (cc := cX2_isOnSide) (maxL := 2) (ret := (some .boolean)) pl_X2 rfl ?_
  intro p e s m args below meth c s₁ B hml hv
  obtain ⟨rfl, hPX⟩ := hv
  have hx := B.exec
  have hb := B.bytes
  have hr := B.returns
  have hts := atoms_spec (ws := wsX2_isOnSide) B.pre
  have hown : s.vm.findClass RX2 = some m.cls := findClass_of_methodNamed B.named
  have hlocks := B.notSynchronized
  have hX := WX.of hPX
  have hl := lv_entry ([.int (cmpI a b), .int (nI h)]) (n := 2) (Nat.le_of_ble_eq_true rfl)
  rw [lg_entry_eq]
  generalize (lg_sl ([.int (cmpI a b), .int (nI h)]) ++ List.replicate (2 - (lg_sl ([.int (cmpI a b), .int (nI h)])).length) Slot.unset).toArray = ls at hl ⊢
  have hl : lv_has ls 2 [(0, .int (cmpI a b)), (1, .int (nI h))] := hl
  show W p l e ({ frames := 0, cells := 0, slots := 0, locals := 0 } : Room) s m ([.int (cmpI a b), .int (nI h)]).toArray below meth c s.heap [] 0 0 (MQ below (vp_Si (fun r => r = bI (sideB h a b))) ([.int (cmpI a b), .int (nI h)]).toArray s 0 0 (fun _ => False)) (F0 m 0 ls [])
  rcases (show h = 0 ∨ h = 1 ∨ h = 2 ∨ h = 3 by omega) with rfl | rfl | rfl | rfl
  · skip
    have hl : lv_has ls 2 [(0, .int (cmpI a b)), (1, .int (nI 0))] := hl
    refine lv_iload_n hx hb dX2_isOnSide_0 rfl (lv_at hl 1 rfl) ?_
    refine lv_tableIn (x := nI 0) (off := 27) (tgt := 28) hx hb dX2_isOnSide_1 (by decide) (by decide) (by decide) (by decide) ?_
    refine lv_iload_n hx hb dX2_isOnSide_28 rfl (lv_at hl 0 rfl) ?_
    refine kc_if_ge (tgt := 36) hx hb dX2_isOnSide_29 (by decide) (fun c1 => ?_) (fun c1 => ?_)
    · skip
      refine lv_iconst (v := nI 0) hx hb dX2_isOnSide_36 (by decide) ?_
      exact W.zret (v := bI false) hx hb hr (bI_narrow _) (fun t9 ht9 hW9 => ⟨_, rfl, (kd_f (by omega)), ht9⟩) (fun _ h => nomatch h) dX2_isOnSide_37
    · skip
      refine lv_iconst (v := nI 1) hx hb dX2_isOnSide_32 (by decide) ?_
      refine lv_goto (tgt := 37) hx hb dX2_isOnSide_33 (by decide) ?_
      exact W.zret (v := bI true) hx hb hr (bI_narrow _) (fun t9 ht9 hW9 => ⟨_, rfl, (kd_t (by omega)), ht9⟩) (fun _ h => nomatch h) dX2_isOnSide_37
  · skip
    have hl : lv_has ls 2 [(0, .int (cmpI a b)), (1, .int (nI 1))] := hl
    refine lv_iload_n hx hb dX2_isOnSide_0 rfl (lv_at hl 1 rfl) ?_
    refine lv_tableIn (x := nI 1) (off := 37) (tgt := 38) hx hb dX2_isOnSide_1 (by decide) (by decide) (by decide) (by decide) ?_
    refine lv_iload_n hx hb dX2_isOnSide_38 rfl (lv_at hl 0 rfl) ?_
    refine kc_if_gt (tgt := 46) hx hb dX2_isOnSide_39 (by decide) (fun c2 => ?_) (fun c2 => ?_)
    · skip
      refine lv_iconst (v := nI 0) hx hb dX2_isOnSide_46 (by decide) ?_
      exact W.zret (v := bI false) hx hb hr (bI_narrow _) (fun t9 ht9 hW9 => ⟨_, rfl, (kd_f (by omega)), ht9⟩) (fun _ h => nomatch h) dX2_isOnSide_47
    · skip
      refine lv_iconst (v := nI 1) hx hb dX2_isOnSide_42 (by decide) ?_
      refine lv_goto (tgt := 47) hx hb dX2_isOnSide_43 (by decide) ?_
      exact W.zret (v := bI true) hx hb hr (bI_narrow _) (fun t9 ht9 hW9 => ⟨_, rfl, (kd_t (by omega)), ht9⟩) (fun _ h => nomatch h) dX2_isOnSide_47
  · skip
    have hl : lv_has ls 2 [(0, .int (cmpI a b)), (1, .int (nI 2))] := hl
    refine lv_iload_n hx hb dX2_isOnSide_0 rfl (lv_at hl 1 rfl) ?_
    refine lv_tableIn (x := nI 2) (off := 47) (tgt := 48) hx hb dX2_isOnSide_1 (by decide) (by decide) (by decide) (by decide) ?_
    refine lv_iload_n hx hb dX2_isOnSide_48 rfl (lv_at hl 0 rfl) ?_
    refine kc_if_lt (tgt := 56) hx hb dX2_isOnSide_49 (by decide) (fun c3 => ?_) (fun c3 => ?_)
    · skip
      refine lv_iconst (v := nI 0) hx hb dX2_isOnSide_56 (by decide) ?_
      exact W.zret (v := bI false) hx hb hr (bI_narrow _) (fun t9 ht9 hW9 => ⟨_, rfl, (kd_f (by omega)), ht9⟩) (fun _ h => nomatch h) dX2_isOnSide_57
    · skip
      refine lv_iconst (v := nI 1) hx hb dX2_isOnSide_52 (by decide) ?_
      refine lv_goto (tgt := 57) hx hb dX2_isOnSide_53 (by decide) ?_
      exact W.zret (v := bI true) hx hb hr (bI_narrow _) (fun t9 ht9 hW9 => ⟨_, rfl, (kd_t (by omega)), ht9⟩) (fun _ h => nomatch h) dX2_isOnSide_57
  · skip
    have hl : lv_has ls 2 [(0, .int (cmpI a b)), (1, .int (nI 3))] := hl
    refine lv_iload_n hx hb dX2_isOnSide_0 rfl (lv_at hl 1 rfl) ?_
    refine lv_tableOut (x := nI 3) (tgt := 58) hx hb dX2_isOnSide_1 (by decide) (by decide) ?_
    refine lv_iload_n hx hb dX2_isOnSide_58 rfl (lv_at hl 0 rfl) ?_
    refine kc_if_le (tgt := 66) hx hb dX2_isOnSide_59 (by decide) (fun c4 => ?_) (fun c4 => ?_)
    · skip
      refine lv_iconst (v := nI 0) hx hb dX2_isOnSide_66 (by decide) ?_
      exact W.zret (v := bI false) hx hb hr (bI_narrow _) (fun t9 ht9 hW9 => ⟨_, rfl, (kd_f (by omega)), ht9⟩) (fun _ h => nomatch h) dX2_isOnSide_67
    · skip
      refine lv_iconst (v := nI 1) hx hb dX2_isOnSide_62 (by decide) ?_
      refine lv_goto (tgt := 67) hx hb dX2_isOnSide_63 (by decide) ?_
      exact W.zret (v := bI true) hx hb hr (bI_narrow _) (fun t9 ht9 hW9 => ⟨_, rfl, (kd_t (by omega)), ht9⟩) (fun _ h => nomatch h) dX2_isOnSide_67
set_option maxHeartbeats 4000000 in
set_option maxRecDepth 100000 in
theorem m_X2_isNearer (l : Launch) (dC : Nat → ClassId) (dI : Nat → Nat → Nat) (ad : Nat → Nat) (S : XS) (i j p9 b9 h : Nat) (hi : i < 8) (hj : j < 6) (hro : rowOK (S.1 i)) (ho : ordOK (S.2.1 j)) (hp9 : p9 < 16) (hb9 : b9 < 16) (hh : h < 4) : Met l yX2_isNearer wsX2_isNearer ({ frames := 1, cells := 0, slots := 0, locals := 26 } : Room) (va_Pc [.ref (ad (3 * i)), .ref (ad (24 + 5 * j)), .int (nI p9), .int (nI b9), .int (nI h)] (PX dC dI ad S)) (vp_Si (fun r => r = bI (nearB h ((S.2.1 j).2.2.1 ((S.1 i).1 p9)) ((S.2.1 j).2.2.1 ((S.1 i).1 b9))))) 0 0 (fun _ => False) := by
  refine Met.ofW (cc := cX2_isNearer) (maxL := 6) (ret := (some .boolean)) pl_X2 rfl ?_
  intro p e s m args below meth c s₁ B hml hv
  obtain ⟨rfl, hPX⟩ := hv
  have hx := B.exec
  have hb := B.bytes
  have hr := B.returns
  have hts := atoms_spec (ws := wsX2_isNearer) B.pre
  have hown : s.vm.findClass RX2 = some m.cls := findClass_of_methodNamed B.named
  have hlocks := B.notSynchronized
  have hX := WX.of hPX
  have hl := lv_entry ([.ref (ad (3 * i)), .ref (ad (24 + 5 * j)), .int (nI p9), .int (nI b9), .int (nI h)]) (n := 6) (Nat.le_of_ble_eq_true rfl)
  rw [lg_entry_eq]
  generalize (lg_sl ([.ref (ad (3 * i)), .ref (ad (24 + 5 * j)), .int (nI p9), .int (nI b9), .int (nI h)]) ++ List.replicate (6 - (lg_sl ([.ref (ad (3 * i)), .ref (ad (24 + 5 * j)), .int (nI p9), .int (nI b9), .int (nI h)])).length) Slot.unset).toArray = ls at hl ⊢
  have hl : lv_has ls 6 [(0, .ref (ad (3 * i))), (1, .ref (ad (24 + 5 * j))), (2, .int (nI p9)), (3, .int (nI b9)), (4, .int (nI h))] := hl
  show W p l e ({ frames := 1, cells := 0, slots := 0, locals := 26 } : Room) s m ([.ref (ad (3 * i)), .ref (ad (24 + 5 * j)), .int (nI p9), .int (nI b9), .int (nI h)]).toArray below meth c s.heap [] 0 0 (MQ below (vp_Si (fun r => r = bI (nearB h ((S.2.1 j).2.2.1 ((S.1 i).1 p9)) ((S.2.1 j).2.2.1 ((S.1 i).1 b9))))) ([.ref (ad (3 * i)), .ref (ad (24 + 5 * j)), .int (nI p9), .int (nI b9), .int (nI h)]).toArray s 0 0 (fun _ => False)) (F0 m 0 ls [])
  have hn := hro.1
  refine lv_aload_n hx hb dX2_isNearer_0 rfl (lv_at hl 1 rfl) ?_
  refine lv_aload_n hx hb dX2_isNearer_1 rfl (lv_at hl 0 rfl) ?_
  refine lv_iload_n hx hb dX2_isNearer_2 rfl (lv_at hl 2 rfl) ?_
  refine kx_cr (v := nI (((S.1 i).1) p9)) (va_runV (As := [.int (nI p9)]) (rest := [.ref (ad (24 + 5 * j))]) ⟨hx, hb, hml, hown, hts⟩ (m_X2_valueOn l dC dI ad S i p9 hi (by omega)) (cwV 1 hts gX2_isNearer_X2_valueOn rfl rfl rfl hdX2_valueOn_1 ⟨Nat.le_of_ble_eq_true rfl, Nat.le_of_ble_eq_true rfl⟩) (hX.preRow hi) rfl rfl hl.1 rfl (lv_room (Nat.le_of_ble_eq_true rfl)) dX2_isNearer_3 ⟨Nat.le_of_ble_eq_true rfl, Nat.le_of_ble_eq_true rfl⟩) (fun _ h => h) ?_
  refine lv_aload_n hx hb dX2_isNearer_6 rfl (lv_at hl 0 rfl) ?_
  refine lv_iload_n hx hb dX2_isNearer_7 rfl (lv_at hl 3 rfl) ?_
  refine kx_cr (v := nI (((S.1 i).1) b9)) (va_runV (As := [.int (nI b9)]) (rest := [.int (nI (((S.1 i).1) p9)), .ref (ad (24 + 5 * j))]) ⟨hx, hb, hml, hown, hts⟩ (m_X2_valueOn l dC dI ad S i b9 hi (by omega)) (cwV 1 hts gX2_isNearer_X2_valueOn rfl rfl rfl hdX2_valueOn_1 ⟨Nat.le_of_ble_eq_true rfl, Nat.le_of_ble_eq_true rfl⟩) (hX.preRow hi) rfl rfl hl.1 rfl (lv_room (Nat.le_of_ble_eq_true rfl)) dX2_isNearer_8 ⟨Nat.le_of_ble_eq_true rfl, Nat.le_of_ble_eq_true rfl⟩) (fun _ h => h) ?_
  refine kx_cr (v := cmpI (((S.2.1 j).2.2.1) (((S.1 i).1) p9)) (((S.2.1 j).2.2.1) (((S.1 i).1) b9))) (va_runV (As := [.int (nI (((S.1 i).1) p9)), .int (nI (((S.1 i).1) b9))]) (rest := []) ⟨hx, hb, hml, hown, hts⟩ (m_X1_compared l dC dI ad S j (((S.1 i).1) p9) (((S.1 i).1) b9) hj ho (hro.2 _ (by omega)).1 (hro.2 _ (by omega)).1) (cwV 2 hts gX2_isNearer_X1_compared rfl rfl rfl hdX1_compared_2 ⟨Nat.le_of_ble_eq_true rfl, Nat.le_of_ble_eq_true rfl⟩) (hX.preOrd hj) rfl rfl hl.1 rfl (lv_room (Nat.le_of_ble_eq_true rfl)) dX2_isNearer_11 ⟨Nat.le_of_ble_eq_true rfl, Nat.le_of_ble_eq_true rfl⟩) (fun _ h => h) ?_
  refine lv_istore (lv' := [(5, .int (cmpI (((S.2.1 j).2.2.1) (((S.1 i).1) p9)) (((S.2.1 j).2.2.1) (((S.1 i).1) b9)))), (0, .ref (ad (3 * i))), (1, .ref (ad (24 + 5 * j))), (2, .int (nI p9)), (3, .int (nI b9)), (4, .int (nI h))]) hx hb dX2_isNearer_14 hl (by decide) rfl (fun ls hl => ?_)
  refine lv_iload hx hb dX2_isNearer_16 (lv_at hl 5 rfl) ?_
  refine lv_iconst (v := nI 1) hx hb dX2_isNearer_18 (by decide) ?_
  refine kn_icmp_gt (tgt := 35) hx hb (by omega) (by omega) dX2_isNearer_19 (by decide) (fun c1 => ?_) (fun c1 => ?_)
  · skip
    have hh1 := c1
    refine lv_iload hx hb dX2_isNearer_35 (lv_at hl 0 rfl) ?_
    refine kc_if_ge (tgt := 44) hx hb dX2_isNearer_37 (by decide) (fun c2 => ?_) (fun c2 => ?_)
    · skip
      refine lv_iconst (v := bI false) hx hb dX2_isNearer_44 (by decide) ?_
      exact W.zret (v := bI false) hx hb hr (bI_narrow _) (fun t9 ht9 hW9 => ⟨_, rfl, (near_hif (by omega) (by omega)), ht9⟩) (fun _ h => nomatch h) dX2_isNearer_45
    · skip
      refine lv_iconst (v := bI true) hx hb dX2_isNearer_40 (by decide) ?_
      refine lv_goto (tgt := 45) hx hb dX2_isNearer_41 (by decide) ?_
      exact W.zret (v := bI true) hx hb hr (bI_narrow _) (fun t9 ht9 hW9 => ⟨_, rfl, (near_hit (by omega) (by omega)), ht9⟩) (fun _ h => nomatch h) dX2_isNearer_45
  · skip
    have hh1 := c1
    refine lv_iload hx hb dX2_isNearer_22 (lv_at hl 0 rfl) ?_
    refine kc_if_le (tgt := 31) hx hb dX2_isNearer_24 (by decide) (fun c3 => ?_) (fun c3 => ?_)
    · skip
      refine lv_iconst (v := bI false) hx hb dX2_isNearer_31 (by decide) ?_
      refine lv_goto (tgt := 45) hx hb dX2_isNearer_32 (by decide) ?_
      exact W.zret (v := bI false) hx hb hr (bI_narrow _) (fun t9 ht9 hW9 => ⟨_, rfl, (near_lof (by omega) (by omega)), ht9⟩) (fun _ h => nomatch h) dX2_isNearer_45
    · skip
      refine lv_iconst (v := bI true) hx hb dX2_isNearer_27 (by decide) ?_
      refine lv_goto (tgt := 45) hx hb dX2_isNearer_28 (by decide) ?_
      exact W.zret (v := bI true) hx hb hr (bI_narrow _) (fun t9 ht9 hW9 => ⟨_, rfl, (near_lot (by omega) (by omega)), ht9⟩) (fun _ h => nomatch h) dX2_isNearer_45
set_option maxHeartbeats 4000000 in
set_option maxRecDepth 100000 in
theorem m_X2_nearestPlace (l : Launch) (dC : Nat → ClassId) (dI : Nat → Nat → Nat) (ad : Nat → Nat) (S : XS) (i j x h : Nat) (hi : i < 8) (hj : j < 6) (hro : rowOK (S.1 i)) (ho : ordOK (S.2.1 j)) (hx9 : x < 16) (hh : h < 4) : Met l yX2_nearestPlace wsX2_nearestPlace ({ frames := 2, cells := 0, slots := 0, locals := 51 } : Room) (va_Pc [.ref (ad (3 * i)), .ref (ad (24 + 5 * j)), .int (nI x), .int (nI h)] (PX dC dI ad S)) (vp_Si (fun r => r = oI (bestB (fun k => sideB h ((S.2.1 j).2.2.1 ((S.1 i).1 k)) ((S.2.1 j).2.2.1 x)) (fun a b => nearB h ((S.2.1 j).2.2.1 ((S.1 i).1 a)) ((S.2.1 j).2.2.1 ((S.1 i).1 b))) (S.1 i).2.2))) 0 0 (fun _ => False) := by
  refine Met.ofW (cc := cX2_nearestPlace) (maxL := 6) (ret := (some .int)) pl_X2 rfl ?_
  intro p e s m args below meth c s₁ B hml hv
  obtain ⟨rfl, hPX⟩ := hv
  have hx := B.exec
  have hb := B.bytes
  have hr := B.returns
  have hts := atoms_spec (ws := wsX2_nearestPlace) B.pre
  have hown : s.vm.findClass RX2 = some m.cls := findClass_of_methodNamed B.named
  have hlocks := B.notSynchronized
  have hin2 : ∀ w ∈ u_ws RX2 TX2 3, w ∈ wsX2_nearestPlace := tu 1322 (by decide +kernel) rfl
  have hX := WX.of hPX
  have hl := lv_entry ([.ref (ad (3 * i)), .ref (ad (24 + 5 * j)), .int (nI x), .int (nI h)]) (n := 6) (Nat.le_of_ble_eq_true rfl)
  rw [lg_entry_eq]
  generalize (lg_sl ([.ref (ad (3 * i)), .ref (ad (24 + 5 * j)), .int (nI x), .int (nI h)]) ++ List.replicate (6 - (lg_sl ([.ref (ad (3 * i)), .ref (ad (24 + 5 * j)), .int (nI x), .int (nI h)])).length) Slot.unset).toArray = ls at hl ⊢
  have hl : lv_has ls 6 [(0, .ref (ad (3 * i))), (1, .ref (ad (24 + 5 * j))), (2, .int (nI x)), (3, .int (nI h))] := hl
  show W p l e ({ frames := 2, cells := 0, slots := 0, locals := 51 } : Room) s m ([.ref (ad (3 * i)), .ref (ad (24 + 5 * j)), .int (nI x), .int (nI h)]).toArray below meth c s.heap [] 0 0 (MQ below (vp_Si (fun r => r = oI (bestB (fun k => sideB h ((S.2.1 j).2.2.1 ((S.1 i).1 k)) ((S.2.1 j).2.2.1 x)) (fun a b => nearB h ((S.2.1 j).2.2.1 ((S.1 i).1 a)) ((S.2.1 j).2.2.1 ((S.1 i).1 b))) (S.1 i).2.2))) ([.ref (ad (3 * i)), .ref (ad (24 + 5 * j)), .int (nI x), .int (nI h)]).toArray s 0 0 (fun _ => False)) (F0 m 0 ls [])
  have hn := hro.1
  refine lv_iconst (v := (-1)) hx hb dX2_nearestPlace_0 (by decide) ?_
  refine lv_istore (lv' := [(4, .int (-1)), (0, .ref (ad (3 * i))), (1, .ref (ad (24 + 5 * j))), (2, .int (nI x)), (3, .int (nI h))]) hx hb dX2_nearestPlace_1 hl (by decide) rfl (fun ls hl => ?_)
  refine lv_iconst (v := nI 0) hx hb dX2_nearestPlace_3 (by decide) ?_
  refine lv_istore (lv' := [(5, .int (nI 0)), (4, .int (-1)), (0, .ref (ad (3 * i))), (1, .ref (ad (24 + 5 * j))), (2, .int (nI x)), (3, .int (nI h))]) hx hb dX2_nearestPlace_4 hl (by decide) rfl (fun ls hl => ?_)
  have loop6 : ∀ (fuel : Nat) (o : Option Nat) (k : Nat) (hk : k ≤ (S.1 i).2.2) (hq : o = bestB (fun k => sideB h ((S.2.1 j).2.2.1 ((S.1 i).1 k)) ((S.2.1 j).2.2.1 x)) (fun a b => nearB h ((S.2.1 j).2.2.1 ((S.1 i).1 a)) ((S.2.1 j).2.2.1 ((S.1 i).1 b))) k), (S.1 i).2.2 - k < fuel → ∀ ls : Array Slot, lv_has ls 6 [(0, .ref (ad (3 * i))), (1, .ref (ad (24 + 5 * j))), (2, .int (nI x)), (3, .int (nI h)), (4, .int (oI o)), (5, .int (nI k))] → W p l e ({ frames := 2, cells := 0, slots := 0, locals := 51 } : Room) s m ([.ref (ad (3 * i)), .ref (ad (24 + 5 * j)), .int (nI x), .int (nI h)]).toArray below meth c s.heap [] 0 0 (MQ below (vp_Si (fun r => r = oI (bestB (fun k => sideB h ((S.2.1 j).2.2.1 ((S.1 i).1 k)) ((S.2.1 j).2.2.1 x)) (fun a b => nearB h ((S.2.1 j).2.2.1 ((S.1 i).1 a)) ((S.2.1 j).2.2.1 ((S.1 i).1 b))) (S.1 i).2.2))) ([.ref (ad (3 * i)), .ref (ad (24 + 5 * j)), .int (nI x), .int (nI h)]).toArray s 0 0 (fun _ => False)) (F0 m 6 ls []) := by
    intro fuel
    induction fuel with
    | zero => intro o k hk hq hf; exact absurd hf (Nat.not_lt_zero _)
    | succ fuel ih6 =>
      intro o k hk hq hf ls hl
      refine lv_iload hx hb dX2_nearestPlace_6 (lv_at hl 5 rfl) ?_
      refine lv_aload_n hx hb dX2_nearestPlace_8 rfl (lv_at hl 0 rfl) ?_
      refine kr_gn (n := (S.1 i).2.2) hx hb hts hin2 hown hX hi rfl (hts (.fieldLink RX2 18 "Orderlattice$Row" "many" "I") (tm 27 (by decide +kernel) rfl)) dX2_nearestPlace_9 ?_
      refine kn_icmp_ge (tgt := 62) hx hb (by omega) (by omega) dX2_nearestPlace_12 (by decide) (fun c1 => ?_) (fun c1 => ?_)
      · skip
        refine lv_iload hx hb dX2_nearestPlace_62 (lv_at hl 4 rfl) ?_
        exact W.iret (v := (oI o)) hx hb hr (fun t9 ht9 hW9 => ⟨_, rfl, (by rw [hq, show k = (S.1 i).2.2 by omega]), ht9⟩) (fun _ h => nomatch h) dX2_nearestPlace_64
      · skip
        refine lv_aload_n hx hb dX2_nearestPlace_15 rfl (lv_at hl 1 rfl) ?_
        refine lv_aload_n hx hb dX2_nearestPlace_16 rfl (lv_at hl 0 rfl) ?_
        refine lv_iload hx hb dX2_nearestPlace_17 (lv_at hl 5 rfl) ?_
        refine kx_cr (v := nI (((S.1 i).1) k)) (va_runV (As := [.int (nI k)]) (rest := [.ref (ad (24 + 5 * j))]) ⟨hx, hb, hml, hown, hts⟩ (m_X2_valueOn l dC dI ad S i k hi (by omega)) (cwV 1 hts gX2_nearestPlace_X2_valueOn rfl rfl rfl hdX2_valueOn_1 ⟨Nat.le_of_ble_eq_true rfl, Nat.le_of_ble_eq_true rfl⟩) (hX.preRow hi) rfl rfl hl.1 rfl (lv_room (Nat.le_of_ble_eq_true rfl)) dX2_nearestPlace_19 ⟨Nat.le_of_ble_eq_true rfl, Nat.le_of_ble_eq_true rfl⟩) (fun _ h => h) ?_
        refine lv_iload_n hx hb dX2_nearestPlace_22 rfl (lv_at hl 2 rfl) ?_
        refine kx_cr (v := cmpI (((S.2.1 j).2.2.1) (((S.1 i).1) k)) (((S.2.1 j).2.2.1) x)) (va_runV (As := [.int (nI (((S.1 i).1) k)), .int (nI x)]) (rest := []) ⟨hx, hb, hml, hown, hts⟩ (m_X1_compared l dC dI ad S j (((S.1 i).1) k) x hj ho (hro.2 _ (by omega)).1 (by omega)) (cwV 2 hts gX2_nearestPlace_X1_compared rfl rfl rfl hdX1_compared_2 ⟨Nat.le_of_ble_eq_true rfl, Nat.le_of_ble_eq_true rfl⟩) (hX.preOrd hj) rfl rfl hl.1 rfl (lv_room (Nat.le_of_ble_eq_true rfl)) dX2_nearestPlace_23 ⟨Nat.le_of_ble_eq_true rfl, Nat.le_of_ble_eq_true rfl⟩) (fun _ h => h) ?_
        refine lv_iload_n hx hb dX2_nearestPlace_26 rfl (lv_at hl 3 rfl) ?_
        refine kx_cr (v := bI (sideB h (((S.2.1 j).2.2.1) (((S.1 i).1) k)) (((S.2.1 j).2.2.1) x))) (va_runS (As := [.int (cmpI (((S.2.1 j).2.2.1) (((S.1 i).1) k)) (((S.2.1 j).2.2.1) x)), .int (nI h)]) (rest := []) ⟨hx, hb, hml, hown, hts⟩ (m_X2_isOnSide l dC dI ad S (((S.2.1 j).2.2.1) (((S.1 i).1) k)) (((S.2.1 j).2.2.1) x) h (by omega)) (va_cwS 2 hts gX2_nearestPlace_X2_isOnSide rfl rfl rfl hdX2_isOnSide_2.2 ⟨Nat.le_of_ble_eq_true rfl, Nat.le_of_ble_eq_true rfl⟩) hX.preS rfl rfl hl.1 rfl (lv_room (Nat.le_of_ble_eq_true rfl)) dX2_nearestPlace_27 ⟨Nat.le_of_ble_eq_true rfl, Nat.le_of_ble_eq_true rfl⟩) (fun _ h => h) ?_
        refine kb_if_eq (tgt := 56) hx hb dX2_nearestPlace_30 (by decide) (fun c2 => ?_) (fun c2 => ?_)
        · skip
          have hs := c2
          refine lv_iinc (v := nI (k + 1)) (lv' := [(5, .int (nI (k + 1))), (0, .ref (ad (3 * i))), (1, .ref (ad (24 + 5 * j))), (2, .int (nI x)), (3, .int (nI h)), (4, .int (oI o))]) hx hb dX2_nearestPlace_56 hl (k := 5) rfl (nI_1 k) (by decide) rfl (fun ls hl => ?_)
          refine lv_goto (tgt := 6) hx hb dX2_nearestPlace_59 (by decide) ?_
          exact ih6  o (k + 1) (by omega) (hq.trans (bestB_no (p := (fun k => sideB h ((S.2.1 j).2.2.1 ((S.1 i).1 k)) ((S.2.1 j).2.2.1 x))) (lt := (fun a b => nearB h ((S.2.1 j).2.2.1 ((S.1 i).1 a)) ((S.2.1 j).2.2.1 ((S.1 i).1 b)))) hs).symm) (by omega) _ (lv_sub hl [1, 2, 3, 4, 5, 0] rfl)
        · skip
          have hs := c2
          rcases o with _ | bb
          · skip
            refine lv_iload hx hb dX2_nearestPlace_33 (lv_at hl 4 rfl) ?_
            refine lv_iconst (v := (-1)) hx hb dX2_nearestPlace_35 (by decide) ?_
            refine lv_icmp_eq (tgt := 52) hx hb dX2_nearestPlace_36 (by decide) (fun c3 => ?_) (fun c3 => absurd rfl c3)
            refine lv_iload hx hb dX2_nearestPlace_52 (lv_at hl 5 rfl) ?_
            refine lv_istore (lv' := [(4, .int (nI k)), (0, .ref (ad (3 * i))), (1, .ref (ad (24 + 5 * j))), (2, .int (nI x)), (3, .int (nI h)), (5, .int (nI k))]) hx hb dX2_nearestPlace_54 hl (by decide) rfl (fun ls hl => ?_)
            refine lv_iinc (v := nI (k + 1)) (lv' := [(5, .int (nI (k + 1))), (4, .int (nI k)), (0, .ref (ad (3 * i))), (1, .ref (ad (24 + 5 * j))), (2, .int (nI x)), (3, .int (nI h))]) hx hb dX2_nearestPlace_56 hl (k := 5) rfl (nI_1 k) (by decide) rfl (fun ls hl => ?_)
            refine lv_goto (tgt := 6) hx hb dX2_nearestPlace_59 (by decide) ?_
            exact ih6  (some k) (k + 1) (by omega) (bestB_first (p := (fun k => sideB h ((S.2.1 j).2.2.1 ((S.1 i).1 k)) ((S.2.1 j).2.2.1 x))) (lt := (fun a b => nearB h ((S.2.1 j).2.2.1 ((S.1 i).1 a)) ((S.2.1 j).2.2.1 ((S.1 i).1 b)))) hs hq.symm).symm (by omega) _ (lv_sub hl [2, 3, 4, 5, 1, 0] rfl)
          · skip
            have hbb := (bestB_lt hq.symm).1
            have hl : lv_has ls 6 [(0, .ref (ad (3 * i))), (1, .ref (ad (24 + 5 * j))), (2, .int (nI x)), (3, .int (nI h)), (4, .int (nI bb)), (5, .int (nI k))] := hl
            refine lv_iload hx hb dX2_nearestPlace_33 (lv_at hl 4 rfl) ?_
            refine lv_iconst (v := (-1)) hx hb dX2_nearestPlace_35 (by decide) ?_
            refine lv_icmp_eq (tgt := 52) hx hb dX2_nearestPlace_36 (by decide) (fun c4 => absurd c4 (nI_nm1 (by omega))) (fun c4 => ?_)
            refine lv_aload_n hx hb dX2_nearestPlace_39 rfl (lv_at hl 0 rfl) ?_
            refine lv_aload_n hx hb dX2_nearestPlace_40 rfl (lv_at hl 1 rfl) ?_
            refine lv_iload hx hb dX2_nearestPlace_41 (lv_at hl 5 rfl) ?_
            refine lv_iload hx hb dX2_nearestPlace_43 (lv_at hl 4 rfl) ?_
            refine lv_iload_n hx hb dX2_nearestPlace_45 rfl (lv_at hl 3 rfl) ?_
            refine kx_cr (v := bI (nearB h ((S.2.1 j).2.2.1 ((S.1 i).1 k)) ((S.2.1 j).2.2.1 ((S.1 i).1 bb)))) (va_runV (As := [.ref (ad (24 + 5 * j)), .int (nI k), .int (nI bb), .int (nI h)]) (rest := []) ⟨hx, hb, hml, hown, hts⟩ (m_X2_isNearer l dC dI ad S i j k bb h hi hj hro ho (by omega) (by omega) (by omega)) (cwV 4 hts gX2_nearestPlace_X2_isNearer rfl rfl rfl hdX2_isNearer_4 ⟨Nat.le_of_ble_eq_true rfl, Nat.le_of_ble_eq_true rfl⟩) (hX.preRow hi) rfl rfl hl.1 rfl (lv_room (Nat.le_of_ble_eq_true rfl)) dX2_nearestPlace_46 ⟨Nat.le_of_ble_eq_true rfl, Nat.le_of_ble_eq_true rfl⟩) (fun _ h => h) ?_
            refine kb_if_eq (tgt := 56) hx hb dX2_nearestPlace_49 (by decide) (fun c5 => ?_) (fun c5 => ?_)
            · skip
              have hc := c5
              refine lv_iinc (v := nI (k + 1)) (lv' := [(5, .int (nI (k + 1))), (0, .ref (ad (3 * i))), (1, .ref (ad (24 + 5 * j))), (2, .int (nI x)), (3, .int (nI h)), (4, .int (nI bb))]) hx hb dX2_nearestPlace_56 hl (k := 5) rfl (nI_1 k) (by decide) rfl (fun ls hl => ?_)
              refine lv_goto (tgt := 6) hx hb dX2_nearestPlace_59 (by decide) ?_
              exact ih6  (some bb) (k + 1) (by omega) (bestB_old (p := (fun k => sideB h ((S.2.1 j).2.2.1 ((S.1 i).1 k)) ((S.2.1 j).2.2.1 x))) (lt := (fun a b => nearB h ((S.2.1 j).2.2.1 ((S.1 i).1 a)) ((S.2.1 j).2.2.1 ((S.1 i).1 b)))) hs hq.symm hc).symm (by omega) _ (lv_sub hl [1, 2, 3, 4, 5, 0] rfl)
            · skip
              have hc := c5
              refine lv_iload hx hb dX2_nearestPlace_52 (lv_at hl 5 rfl) ?_
              refine lv_istore (lv' := [(4, .int (nI k)), (0, .ref (ad (3 * i))), (1, .ref (ad (24 + 5 * j))), (2, .int (nI x)), (3, .int (nI h)), (5, .int (nI k))]) hx hb dX2_nearestPlace_54 hl (by decide) rfl (fun ls hl => ?_)
              refine lv_iinc (v := nI (k + 1)) (lv' := [(5, .int (nI (k + 1))), (4, .int (nI k)), (0, .ref (ad (3 * i))), (1, .ref (ad (24 + 5 * j))), (2, .int (nI x)), (3, .int (nI h))]) hx hb dX2_nearestPlace_56 hl (k := 5) rfl (nI_1 k) (by decide) rfl (fun ls hl => ?_)
              refine lv_goto (tgt := 6) hx hb dX2_nearestPlace_59 (by decide) ?_
              exact ih6  (some k) (k + 1) (by omega) (bestB_new (p := (fun k => sideB h ((S.2.1 j).2.2.1 ((S.1 i).1 k)) ((S.2.1 j).2.2.1 x))) (lt := (fun a b => nearB h ((S.2.1 j).2.2.1 ((S.1 i).1 a)) ((S.2.1 j).2.2.1 ((S.1 i).1 b)))) hs hq.symm hc).symm (by omega) _ (lv_sub hl [2, 3, 4, 5, 1, 0] rfl)
  exact loop6 ((S.1 i).2.2 - 0 + 1) none 0 (by omega) rfl (by omega) _ (lv_sub hl [2, 3, 4, 5, 1, 0] rfl)
set_option maxHeartbeats 4000000 in
set_option maxRecDepth 100000 in
theorem m_X2_reverse (l : Launch) (dC : Nat → ClassId) (dI : Nat → Nat → Nat) (ad : Nat → Nat) (S : XS) (i : Nat) (hi : i < 8) (hn : (S.1 i).2.2 ≤ 16) : Met l yX2_reverse wsX2_reverse ({ frames := 2, cells := 0, slots := 0, locals := 47 } : Room) (va_Pc [.ref (ad (3 * i))] (PX dC dI ad S)) (va_Qv (fun S' => S' = xR S i (rev (S.1 i).1 (S.1 i).2.2 ((S.1 i).2.2), rev (S.1 i).2.1 (S.1 i).2.2 ((S.1 i).2.2), (S.1 i).2.2)) (PX dC dI ad) (AX ad)) 0 0 (AX ad) := by
  refine Met.ofW (cc := cX2_reverse) (maxL := 3) (ret := none) pl_X2 rfl ?_
  intro p e s m args below meth c s₁ B hml hv
  obtain ⟨rfl, hPX⟩ := hv
  have hx := B.exec
  have hb := B.bytes
  have hr := B.returns
  have hts := atoms_spec (ws := wsX2_reverse) B.pre
  have hown : s.vm.findClass RX2 = some m.cls := findClass_of_methodNamed B.named
  have hlocks := B.notSynchronized
  have hin2 : ∀ w ∈ u_ws RX2 TX2 3, w ∈ wsX2_reverse := tu 1322 (by decide +kernel) rfl
  have hX := WX.of hPX
  have hl := lv_entry ([.ref (ad (3 * i))]) (n := 3) (Nat.le_of_ble_eq_true rfl)
  rw [lg_entry_eq]
  generalize (lg_sl ([.ref (ad (3 * i))]) ++ List.replicate (3 - (lg_sl ([.ref (ad (3 * i))])).length) Slot.unset).toArray = ls at hl ⊢
  have hl : lv_has ls 3 [(0, .ref (ad (3 * i)))] := hl
  show W p l e ({ frames := 2, cells := 0, slots := 0, locals := 47 } : Room) s m ([.ref (ad (3 * i))]).toArray below meth c s.heap [] 0 0 (MQ below (va_Qv (fun S' => S' = xR S i (rev (S.1 i).1 (S.1 i).2.2 ((S.1 i).2.2), rev (S.1 i).2.1 (S.1 i).2.2 ((S.1 i).2.2), (S.1 i).2.2)) (PX dC dI ad) (AX ad)) ([.ref (ad (3 * i))]).toArray s 0 0 (AX ad)) (F0 m 0 ls [])
  rcases Nat.eq_zero_or_pos (S.1 i).2.2 with hz | hz
  · skip
    refine lv_iconst (v := nI 0) hx hb dX2_reverse_0 (by decide) ?_
    refine lv_istore_n (lv' := [(1, .int (nI 0)), (0, .ref (ad (3 * i)))]) hx hb dX2_reverse_1 rfl hl (by decide) rfl (fun ls hl => ?_)
    refine lv_aload_n hx hb dX2_reverse_2 rfl (lv_at hl 1 rfl) ?_
    refine kr_gn (n := (S.1 i).2.2) hx hb hts hin2 hown hX hi rfl (hts (.fieldLink RX2 18 "Orderlattice$Row" "many" "I") (tm 27 (by decide +kernel) rfl)) dX2_reverse_3 ?_
    refine lv_iconst (v := nI 1) hx hb dX2_reverse_6 (by decide) ?_
    refine lv_isub hx hb dX2_reverse_7 ?_
    refine lv_istore_n (lv' := [(2, .int (nI (S.1 i).2.2 - nI 1)), (1, .int (nI 0)), (0, .ref (ad (3 * i)))]) hx hb dX2_reverse_8 rfl hl (by decide) rfl (fun ls hl => ?_)
    refine lv_iload_n hx hb dX2_reverse_9 rfl (lv_at hl 1 rfl) ?_
    refine lv_iload_n hx hb dX2_reverse_10 rfl (lv_at hl 0 rfl) ?_
    refine lv_icmp_ge (tgt := 29) hx hb dX2_reverse_11 (by decide) (fun c1 => ?_) (fun c1 => absurd (by rw [hz]; decide) c1)
    exact W.vret hx hb hr (fun t9 ht9 hW9 => ⟨⟨S, rfl, (by rw [rev_z _ hz, rev_z _ hz]; exact (xR_self S i).symm), hX.P ht9 hW9⟩, hX.2.2.2.F ht9⟩) hX.2.2.2.2.2 dX2_reverse_29
  · skip
    refine lv_iconst (v := nI 0) hx hb dX2_reverse_0 (by decide) ?_
    refine lv_istore_n (lv' := [(1, .int (nI 0)), (0, .ref (ad (3 * i)))]) hx hb dX2_reverse_1 rfl hl (by decide) rfl (fun ls hl => ?_)
    refine lv_aload_n hx hb dX2_reverse_2 rfl (lv_at hl 1 rfl) ?_
    refine kr_gn (n := (S.1 i).2.2) hx hb hts hin2 hown hX hi rfl (hts (.fieldLink RX2 18 "Orderlattice$Row" "many" "I") (tm 27 (by decide +kernel) rfl)) dX2_reverse_3 ?_
    refine lv_iconst (v := nI 1) hx hb dX2_reverse_6 (by decide) ?_
    refine kn_isub hx hb (by omega) dX2_reverse_7 ?_
    refine lv_istore_n (lv' := [(2, .int (nI (((S.1 i).2.2) - 1))), (1, .int (nI 0)), (0, .ref (ad (3 * i)))]) hx hb dX2_reverse_8 rfl hl (by decide) rfl (fun ls hl => ?_)
    have loop9 : ∀ (fuel : Nat) (a : Nat) (ha : 2 * a ≤ (S.1 i).2.2) (H : Heap) (locs : List Loc), (S.1 i).2.2 - a < fuel → WX dC dI ad (xR S i (rev (S.1 i).1 (S.1 i).2.2 a, rev (S.1 i).2.1 (S.1 i).2.2 a, (S.1 i).2.2)) (AX ad) s H locs → ∀ ls : Array Slot, lv_has ls 3 [(0, .ref (ad (3 * i))), (1, .int (nI a)), (2, .int (nI ((S.1 i).2.2 - 1 - a)))] → W p l e ({ frames := 2, cells := 0, slots := 0, locals := 47 } : Room) s m ([.ref (ad (3 * i))]).toArray below meth c H locs 0 0 (MQ below (va_Qv (fun S' => S' = xR S i (rev (S.1 i).1 (S.1 i).2.2 ((S.1 i).2.2), rev (S.1 i).2.1 (S.1 i).2.2 ((S.1 i).2.2), (S.1 i).2.2)) (PX dC dI ad) (AX ad)) ([.ref (ad (3 * i))]).toArray s 0 0 (AX ad)) (F0 m 9 ls []) := by
      intro fuel
      induction fuel with
      | zero => intro a ha H locs hf; exact absurd hf (Nat.not_lt_zero _)
      | succ fuel ih9 =>
        intro a ha H locs hf hX ls hl
        refine lv_iload_n hx hb dX2_reverse_9 rfl (lv_at hl 1 rfl) ?_
        refine lv_iload_n hx hb dX2_reverse_10 rfl (lv_at hl 2 rfl) ?_
        refine kn_icmp_ge (tgt := 29) hx hb (by omega) (by omega) dX2_reverse_11 (by decide) (fun c2 => ?_) (fun c2 => ?_)
        · skip
          exact W.vret hx hb hr (fun t9 ht9 hW9 => ⟨⟨(xR S i (rev (S.1 i).1 (S.1 i).2.2 a, rev (S.1 i).2.1 (S.1 i).2.2 a, (S.1 i).2.2)), rfl, (by rw [rev_end (a := a) (S.1 i).1 (by omega), rev_end (a := a) (S.1 i).2.1 (by omega)]), hX.P ht9 hW9⟩, hX.2.2.2.F ht9⟩) hX.2.2.2.2.2 dX2_reverse_29
        · skip
          refine lv_aload_n hx hb dX2_reverse_14 rfl (lv_at hl 0 rfl) ?_
          refine lv_iload_n hx hb dX2_reverse_15 rfl (lv_at hl 1 rfl) ?_
          refine lv_iload_n hx hb dX2_reverse_16 rfl (lv_at hl 2 rfl) ?_
          refine kx_cv (va_runV (As := [.int (nI a), .int (nI ((S.1 i).2.2 - 1 - a))]) (rest := []) ⟨hx, hb, hml, hown, hts⟩ (m_X2_exchange l dC dI ad (xR S i (rev (S.1 i).1 (S.1 i).2.2 a, rev (S.1 i).2.1 (S.1 i).2.2 a, (S.1 i).2.2)) i a ((S.1 i).2.2 - 1 - a) hi (by omega) (by omega)) (cwV 2 hts gX2_reverse_X2_exchange rfl rfl rfl hdX2_exchange_2 ⟨Nat.le_of_ble_eq_true rfl, Nat.le_of_ble_eq_true rfl⟩) (hX.preRow hi) rfl rfl hl.1 rfl (lv_room (Nat.le_of_ble_eq_true rfl)) dX2_reverse_17 ⟨Nat.le_of_ble_eq_true rfl, Nat.le_of_ble_eq_true rfl⟩) hX (fun _ h => h) (fun S_ H locs hw hX => ?_)
          rw [xR_row, xR_xR] at hw
          dsimp only at hw
          rw [rev_up _ (by omega), rev_up _ (by omega)] at hw
          subst hw
          refine lv_iinc (v := nI (a + 1)) (lv' := [(1, .int (nI (a + 1))), (0, .ref (ad (3 * i))), (2, .int (nI ((S.1 i).2.2 - 1 - a)))]) hx hb dX2_reverse_20 hl (k := 1) rfl (nI_1 a) (by decide) rfl (fun ls hl => ?_)
          refine lv_iinc (v := nI ((S.1 i).2.2 - 1 - (a + 1))) (lv' := [(2, .int (nI ((S.1 i).2.2 - 1 - (a + 1)))), (1, .int (nI (a + 1))), (0, .ref (ad (3 * i)))]) hx hb dX2_reverse_23 hl (k := 2) rfl ((kn_dec (by omega)).trans (congrArg nI (by omega))) (by decide) rfl (fun ls hl => ?_)
          refine lv_goto (tgt := 9) hx hb dX2_reverse_26 (by decide) ?_
          exact ih9  (a + 1) (by omega) _ _ (by omega) hX _ (lv_sub hl [2, 1, 0] rfl)
    exact loop9 ((S.1 i).2.2 + 1) 0 (by omega) _ _ (by omega) (WX.eqS (by rw [rev_a0, rev_a0]; exact (xR_self S i).symm) hX) _ (lv_sub hl [2, 1, 0] rfl)
