/-- what sorting row i by way of row g leaves as it was -/
def keepR (S S1 : XS) (i g : Nat) : Prop := S1.2 = S.2 ∧ (∀ k, k ≠ i → k ≠ g → S1.1 k = S.1 k) ∧ rowOK (S1.1 g) ∧ rowOK (S1.1 i) ∧ (S1.1 i).2.2 = (S.1 i).2.2
theorem keepR_refl {S : XS} {i g : Nat} (hi : rowOK (S.1 i)) (hg : rowOK (S.1 g)) : keepR S S i g := ⟨rfl, fun _ _ _ => rfl, hg, hi, rfl⟩
theorem keepR_g {S S1 : XS} {i g : Nat} (h : keepR S S1 i g) (hig : i ≠ g) {r : RowS} (hr : rowOK r) : keepR S (xR S1 g r) i g :=
  ⟨h.1, fun k h1 h2 => by rw [xR_ne _ _ h2]; exact h.2.1 k h1 h2, by rw [xR_row]; exact hr, by rw [xR_ne _ _ hig]; exact h.2.2.2.1, by rw [xR_ne _ _ hig]; exact h.2.2.2.2⟩
theorem keepR_i {S S1 : XS} {i g : Nat} (h : keepR S S1 i g) (hig : i ≠ g) {r : RowS} (hr : rowOK r) (hn : r.2.2 = (S.1 i).2.2) : keepR S (xR S1 i r) i g :=
  ⟨h.1, fun k h1 h2 => by rw [xR_ne _ _ h1]; exact h.2.1 k h1 h2, by rw [xR_ne _ _ (Ne.symm hig)]; exact h.2.2.1, by rw [xR_row]; exact hr, by rw [xR_row]; exact hn⟩
theorem cntB_all {p : Nat → Bool} : ∀ {n : Nat}, (∀ k, k < n → p k = true) → cntB p n = n
  | 0, _ => rfl
  | n + 1, h => by rw [cntB_t (h n (by omega)), cntB_all (fun k hk => h k (by omega))]
theorem cntB_none {p : Nat → Bool} : ∀ {n : Nat}, (∀ k, k < n → p k = false) → cntB p n = 0
  | 0, _ => rfl
  | n + 1, h => by rw [cntB_f (h n (by omega)), cntB_none (fun k hk => h k (by omega))]
theorem cntB_mono {p q : Nat → Bool} : ∀ {n : Nat}, (∀ k, k < n → p k = true → q k = true) → cntB p n ≤ cntB q n
  | 0, _ => Nat.le_refl _
  | n + 1, h => by
    have ih := cntB_mono (p := p) (q := q) (n := n) (fun k hk => h k (by omega))
    rw [cntB, cntB]
    cases hp : p n with
    | false => simp; split <;> omega
    | true => rw [h n (by omega) hp]; simp; omega
theorem cntB_grow (p : Nat → Bool) {a b : Nat} (h : a ≤ b) : cntB p a ≤ cntB p b := by
  induction b with
  | zero => rw [show a = 0 by omega]; exact Nat.le_refl _
  | succ b ih =>
    by_cases e : a = b + 1
    · rw [e]; exact Nat.le_refl _
    · have := ih (by omega)
      rw [cntB]
      split <;> omega
theorem cntB_two {p p2 : Nat → Bool} (h : ∀ k, p k = true → p2 k = true → False) : ∀ n, cntB p n + cntB p2 n ≤ n
  | 0 => Nat.le_refl _
  | n + 1 => by
    have ih := cntB_two h n
    rw [cntB, cntB]
    cases h1 : p n with
    | false => cases h2 : p2 n <;> simp <;> omega
    | true =>
      cases h2 : p2 n with
      | true => exact absurd h2 (fun z => h n h1 z)
      | false => simp; omega
theorem cnt_room {p p2 : Nat → Bool} (h : ∀ k, p k = true → p2 k = true → False) {q n : Nat} (hq : q < n) (hp : p2 q = true) : cntB p n + cntB p2 q < n := by
  have h1 := cntB_two h n
  have h2 := cntB_grow p2 (show q + 1 ≤ n from hq)
  rw [cntB_t hp] at h2
  omega
theorem cnt_lt_s (f : Nat → Nat) (rk : Nat) : ∀ n, cntB (fun k => decide (f k < rk)) n + cntB (fun k => decide (f k = rk)) n = cntB (fun k => decide (f k < rk + 1)) n
  | 0 => rfl
  | n + 1 => by
    have ih := cnt_lt_s f rk n
    rw [cntB, cntB, cntB, ← ih]
    rcases Nat.lt_trichotomy (f n) rk with h | h | h
    · rw [if_pos (decide_eq_true h), if_neg (by rw [decide_eq_false (by omega)]; decide), if_pos (decide_eq_true (by omega))]; omega
    · rw [if_neg (by rw [decide_eq_false (by omega)]; decide), if_pos (decide_eq_true h), if_pos (decide_eq_true (by omega))]; omega
    · rw [if_neg (by rw [decide_eq_false (by omega)]; decide), if_neg (by rw [decide_eq_false (by omega)]; decide), if_neg (by rw [decide_eq_false (by omega)]; decide)]; omega
theorem head_ex (c : Nat → Nat) : ∀ (n v : Nat), v < n → ∃ h, h ≤ v ∧ c h = c v ∧ headB c h = true
  | 0, v, hv => absurd hv (Nat.not_lt_zero _)
  | n + 1, v, hv => by
    by_cases hh : headB c v = true
    · exact ⟨v, Nat.le_refl _, rfl, hh⟩
    · have : ¬ ∀ k, k < v → c k ≠ c v := fun q => hh (decide_eq_true q)
      have h2 : ∃ k, k < v ∧ c k = c v := Classical.byContradiction (fun z => this (fun k hk e => z ⟨k, hk, e⟩))
      obtain ⟨k, hk, e⟩ := h2
      obtain ⟨h, h3, h4, h5⟩ := head_ex c n k (by omega)
      exact ⟨h, by omega, h4.trans e, h5⟩
theorem cntB_lt {p q : Nat → Bool} {n a : Nat} (h : ∀ k, k < n → p k = true → q k = true) (ha : a < n) (h1 : p a = false) (h2 : q a = true) : cntB p n < cntB q n := by
  induction n with
  | zero => exact absurd ha (Nat.not_lt_zero _)
  | succ n ih =>
    by_cases e : a = n
    · subst e
      rw [cntB_f h1, cntB_t h2]
      exact Nat.lt_succ_of_le (cntB_mono (fun k hk => h k (by omega)))
    · have := ih (fun k hk => h k (by omega)) (by omega)
      rw [cntB, cntB]
      cases hp : p n with
      | false => simp; split <;> omega
      | true => rw [h n (by omega) hp]; simp; omega
theorem rank_class (c : Nat → Nat) {v : Nat} (hv : v < 16) : rankC c v < classC c := by
  obtain ⟨h, h1, h2, h3⟩ := head_ex c 16 v hv
  refine cntB_lt (a := h) (fun k _ hk => ?_) (by omega) ?_ h3
  · rw [Bool.and_eq_true] at hk; exact hk.1
  · rw [h3, decide_eq_false (by omega)]; rfl
set_option maxHeartbeats 4000000 in
set_option maxRecDepth 100000 in
theorem m_X3_mergeRuns (l : Launch) (dC : Nat → ClassId) (dI : Nat → Nat → Nat) (ad : Nat → Nat) (S : XS) (w i j : Nat) (hw : w < 2) (hi : i < 8) (hj : j < 6) (hro : rowOK (S.1 i)) (ho : ordOK (S.2.1 j)) (hig : i ≠ 3 + 2 * w) (hgo : rowOK (S.1 (3 + 2 * w))) : Met l yX3_mergeRuns wsX3_mergeRuns ({ frames := 2, cells := 0, slots := 0, locals := 56 } : Room) (va_Pc [.ref (ad (54 + w)), .ref (ad (3 * i)), .ref (ad (24 + 5 * j))] (PX dC dI ad S)) (va_Qv (fun S' => keepR S S' i (3 + 2 * w)) (PX dC dI ad) (AX ad)) 0 0 (AX ad) := by
  refine Met.ofW (cc := cX3_mergeRuns) (maxL := 7) (ret := none) pl_X3 rfl ?_
  intro p e s m args below meth c s₁ B hml hv
  obtain ⟨rfl, hPX⟩ := hv
  have hx := B.exec
  have hb := B.bytes
  have hr := B.returns
  have hts := atoms_spec (ws := wsX3_mergeRuns) B.pre
  have hown : s.vm.findClass RX3 = some m.cls := findClass_of_methodNamed B.named
  have hlocks := B.notSynchronized
  have hin3 : ∀ w ∈ u_ws RX3 TX3 1, w ∈ wsX3_mergeRuns := tu 1323 (by decide +kernel) rfl
  have hX := WX.of hPX
  have hl := lv_entry ([.ref (ad (54 + w)), .ref (ad (3 * i)), .ref (ad (24 + 5 * j))]) (n := 7) (Nat.le_of_ble_eq_true rfl)
  rw [lg_entry_eq]
  generalize (lg_sl ([.ref (ad (54 + w)), .ref (ad (3 * i)), .ref (ad (24 + 5 * j))]) ++ List.replicate (7 - (lg_sl ([.ref (ad (54 + w)), .ref (ad (3 * i)), .ref (ad (24 + 5 * j))])).length) Slot.unset).toArray = ls at hl ⊢
  have hl : lv_has ls 7 [(0, .ref (ad (54 + w))), (1, .ref (ad (3 * i))), (2, .ref (ad (24 + 5 * j)))] := hl
  show W p l e ({ frames := 2, cells := 0, slots := 0, locals := 56 } : Room) s m ([.ref (ad (54 + w)), .ref (ad (3 * i)), .ref (ad (24 + 5 * j))]).toArray below meth c s.heap [] 0 0 (MQ below (va_Qv (fun S' => keepR S S' i (3 + 2 * w)) (PX dC dI ad) (AX ad)) ([.ref (ad (54 + w)), .ref (ad (3 * i)), .ref (ad (24 + 5 * j))]).toArray s 0 0 (AX ad)) (F0 m 0 ls [])
  have hn := hro.1
  refine lv_aload_n hx hb dX3_mergeRuns_0 rfl (lv_at hl 1 rfl) ?_
  refine kx_cr (v := nI ((S.1 i).2.2)) (va_runV (As := []) (rest := []) ⟨hx, hb, hml, hown, hts⟩ (m_X2_length l dC dI ad S i hi) (cwV 0 hts gX3_mergeRuns_X2_length rfl rfl rfl hdX2_length_0 ⟨Nat.le_of_ble_eq_true rfl, Nat.le_of_ble_eq_true rfl⟩) (hX.preRow hi) rfl rfl hl.1 rfl (lv_room (Nat.le_of_ble_eq_true rfl)) dX3_mergeRuns_1 ⟨Nat.le_of_ble_eq_true rfl, Nat.le_of_ble_eq_true rfl⟩) (fun _ h => h) ?_
  refine lv_istore_n (lv' := [(3, .int (nI ((S.1 i).2.2))), (0, .ref (ad (54 + w))), (1, .ref (ad (3 * i))), (2, .ref (ad (24 + 5 * j)))]) hx hb dX3_mergeRuns_4 rfl hl (by decide) rfl (fun ls hl => ?_)
  refine lv_iconst (v := nI 1) hx hb dX3_mergeRuns_5 (by decide) ?_
  refine lv_istore (lv' := [(4, .int (nI 1)), (3, .int (nI ((S.1 i).2.2))), (0, .ref (ad (54 + w))), (1, .ref (ad (3 * i))), (2, .ref (ad (24 + 5 * j)))]) hx hb dX3_mergeRuns_6 hl (by decide) rfl (fun ls hl => ?_)
  have loop8 : ∀ (fuel : Nat) (S1 : XS) (w9 : Nat) (hk9 : keepR S S1 i (3 + 2 * w)) (hw9 : 1 ≤ w9 ∧ w9 ≤ 32) (H : Heap) (locs : List Loc), 33 - w9 < fuel → WX dC dI ad S1 (AX ad) s H locs → ∀ ls : Array Slot, lv_has ls 7 [(0, .ref (ad (54 + w))), (1, .ref (ad (3 * i))), (2, .ref (ad (24 + 5 * j))), (3, .int (nI ((S.1 i).2.2))), (4, .int (nI w9))] → W p l e ({ frames := 2, cells := 0, slots := 0, locals := 56 } : Room) s m ([.ref (ad (54 + w)), .ref (ad (3 * i)), .ref (ad (24 + 5 * j))]).toArray below meth c H locs 0 0 (MQ below (va_Qv (fun S' => keepR S S' i (3 + 2 * w)) (PX dC dI ad) (AX ad)) ([.ref (ad (54 + w)), .ref (ad (3 * i)), .ref (ad (24 + 5 * j))]).toArray s 0 0 (AX ad)) (F0 m 8 ls []) := by
    intro fuel
    induction fuel with
    | zero => intro S1 w9 hk9 hw9 H locs hf; exact absurd hf (Nat.not_lt_zero _)
    | succ fuel ih8 =>
      intro S1 w9 hk9 hw9 H locs hf hX ls hl
      refine lv_iload hx hb dX3_mergeRuns_8 (lv_at hl 4 rfl) ?_
      refine lv_iload_n hx hb dX3_mergeRuns_10 rfl (lv_at hl 3 rfl) ?_
      refine kn_icmp_ge (tgt := 89) hx hb (by omega) (by omega) dX3_mergeRuns_11 (by decide) (fun k_1 => ?_) (fun k_1 => ?_)
      · skip
        have hwn := k_1
        exact W.vret hx hb hr (fun t9 ht9 hW9 => ⟨⟨S1, rfl, hk9, hX.P ht9 hW9⟩, hX.2.2.2.F ht9⟩) hX.2.2.2.2.2 dX3_mergeRuns_89
      · skip
        have hwn := k_1
        refine lv_aload_n hx hb dX3_mergeRuns_14 rfl (lv_at hl 0 rfl) ?_
        refine ks_gg hx hb hts hin3 hown hX hw (hts (.fieldLink RX3 10 "Orderlattice$Sorter" "gathered" "LOrderlattice$Row;") (tm 20 (by decide +kernel) rfl)) dX3_mergeRuns_15 ?_
        refine kx_cv (va_runV (As := []) (rest := []) ⟨hx, hb, hml, hown, hts⟩ (m_X2_empty l dC dI ad S1 (3 + 2 * w)  (by omega)) (cwV 0 hts gX3_mergeRuns_X2_empty rfl rfl rfl hdX2_empty_0 ⟨Nat.le_of_ble_eq_true rfl, Nat.le_of_ble_eq_true rfl⟩) (hX.preRow (by omega)) rfl rfl hl.1 rfl (lv_room (Nat.le_of_ble_eq_true rfl)) dX3_mergeRuns_18 ⟨Nat.le_of_ble_eq_true rfl, Nat.le_of_ble_eq_true rfl⟩) hX (fun _ h => h) (fun S_ H locs hw hX => ?_)
        subst hw
        refine lv_iconst (v := nI 0) hx hb dX3_mergeRuns_21 (by decide) ?_
        refine lv_istore (lv' := [(5, .int (nI 0)), (0, .ref (ad (54 + w))), (1, .ref (ad (3 * i))), (2, .ref (ad (24 + 5 * j))), (3, .int (nI ((S.1 i).2.2))), (4, .int (nI w9))]) hx hb dX3_mergeRuns_22 hl (by decide) rfl (fun ls hl => ?_)
        have loop24 : ∀ (fuel : Nat) (r : RowS) (lo : Nat) (hr9 : rowOK r ∧ r.2.2 = min lo (S.1 i).2.2) (hlo : lo ≤ 64) (H : Heap) (locs : List Loc), (S.1 i).2.2 - lo < fuel → WX dC dI ad (xR S1 (3 + 2 * w) (r.1, r.2.1, r.2.2)) (AX ad) s H locs → ∀ ls : Array Slot, lv_has ls 7 [(0, .ref (ad (54 + w))), (1, .ref (ad (3 * i))), (2, .ref (ad (24 + 5 * j))), (3, .int (nI ((S.1 i).2.2))), (4, .int (nI w9)), (5, .int (nI lo))] → W p l e ({ frames := 2, cells := 0, slots := 0, locals := 56 } : Room) s m ([.ref (ad (54 + w)), .ref (ad (3 * i)), .ref (ad (24 + 5 * j))]).toArray below meth c H locs 0 0 (MQ below (va_Qv (fun S' => keepR S S' i (3 + 2 * w)) (PX dC dI ad) (AX ad)) ([.ref (ad (54 + w)), .ref (ad (3 * i)), .ref (ad (24 + 5 * j))]).toArray s 0 0 (AX ad)) (F0 m 24 ls []) := by
          intro fuel
          induction fuel with
          | zero => intro r lo hr9 hlo H locs hf; exact absurd hf (Nat.not_lt_zero _)
          | succ fuel ih24 =>
            intro r lo hr9 hlo H locs hf hX ls hl
            refine lv_iload hx hb dX3_mergeRuns_24 (lv_at hl 5 rfl) ?_
            refine lv_iload_n hx hb dX3_mergeRuns_26 rfl (lv_at hl 3 rfl) ?_
            refine kn_icmp_ge (tgt := 72) hx hb (by omega) (by omega) dX3_mergeRuns_27 (by decide) (fun k_2 => ?_) (fun k_2 => ?_)
            · skip
              obtain ⟨S2, e2⟩ : ∃ z, z = (xR S1 (3 + 2 * w) (r.1, r.2.1, r.2.2)) := ⟨_, rfl⟩
              replace hX := WX.eqS e2.symm hX
              have hk2 : keepR S S2 i (3 + 2 * w) := by rw [e2]; exact keepR_g hk9 hig hr9.1
              have hg2 : (S2.1 (3 + 2 * w)).2.2 = (S.1 i).2.2 := by rw [e2, xR_row]; show r.2.2 = _; first | omega | (rw [hr9.2, hrk, hall])
              refine lv_aload_n hx hb dX3_mergeRuns_72 rfl (lv_at hl 1 rfl) ?_
              refine lv_aload_n hx hb dX3_mergeRuns_73 rfl (lv_at hl 0 rfl) ?_
              refine ks_gg hx hb hts hin3 hown hX hw (hts (.fieldLink RX3 10 "Orderlattice$Sorter" "gathered" "LOrderlattice$Row;") (tm 20 (by decide +kernel) rfl)) dX3_mergeRuns_74 ?_
              refine kx_cv (va_runV (As := [.ref (ad (3 * (3 + 2 * w)))]) (rest := []) ⟨hx, hb, hml, hown, hts⟩ (m_X2_becomeCopyOf l dC dI ad S2 i (3 + 2 * w) hi (by omega) (by rw [hg2]; omega)) (cwV 1 hts gX3_mergeRuns_X2_becomeCopyOf rfl rfl rfl hdX2_becomeCopyOf_1 ⟨Nat.le_of_ble_eq_true rfl, Nat.le_of_ble_eq_true rfl⟩) (hX.preRow hi) rfl rfl hl.1 rfl (lv_room (Nat.le_of_ble_eq_true rfl)) dX3_mergeRuns_77 ⟨Nat.le_of_ble_eq_true rfl, Nat.le_of_ble_eq_true rfl⟩) hX (fun _ h => h) (fun S_ H locs hw hX => ?_)
              subst hw
              refine lv_iload hx hb dX3_mergeRuns_80 (lv_at hl 4 rfl) ?_
              refine lv_iconst (v := nI 2) hx hb dX3_mergeRuns_82 (by decide) ?_
              refine kn_imul hx hb dX3_mergeRuns_83 ?_
              refine lv_istore (lv' := [(4, .int (nI (w9 * 2))), (0, .ref (ad (54 + w))), (1, .ref (ad (3 * i))), (2, .ref (ad (24 + 5 * j))), (3, .int (nI ((S.1 i).2.2))), (5, .int (nI lo))]) hx hb dX3_mergeRuns_84 hl (by decide) rfl (fun ls hl => ?_)
              refine lv_goto (tgt := 8) hx hb dX3_mergeRuns_86 (by decide) ?_
              exact ih8  (xR S2 i (ovl ((S2.1 (3 + 2 * w)).1) ((S2.1 i).1) ((S2.1 (3 + 2 * w)).2.2), ovl ((S2.1 (3 + 2 * w)).2.1) ((S2.1 i).2.1) ((S2.1 (3 + 2 * w)).2.2), (S2.1 (3 + 2 * w)).2.2)) (w9 * 2) (keepR_i hk2 hig (rowOK_ovl hk2.2.2.2.1 hk2.2.2.1) hg2) (by omega) _ _ (by omega) hX _ (lv_sub hl [1, 2, 3, 4, 0] rfl)
            · skip
              refine lv_iload hx hb dX3_mergeRuns_30 (lv_at hl 5 rfl) ?_
              refine lv_iload hx hb dX3_mergeRuns_32 (lv_at hl 4 rfl) ?_
              refine kn_iadd hx hb dX3_mergeRuns_34 ?_
              refine lv_iload_n hx hb dX3_mergeRuns_35 rfl (lv_at hl 3 rfl) ?_
              refine kn_min hx hb (by rw [hml]; exact hl.1.symm) hown (hts (.methodLink RX3 48 Lib.Math.min.name) (tm 150 (by decide +kernel) rfl)) (hts (.static Lib.Math.min.name) (tm 151 (by decide +kernel) rfl)) (hts (.initialized "java/lang/Math") (tm 152 (by decide +kernel) rfl)) (hts (.code Lib.Math.min.name Lib.Math.min.code 2 (some .int)) (tm 153 (by decide +kernel) rfl)) (Nat.le_of_ble_eq_true rfl) (Nat.le_of_ble_eq_true rfl) (Nat.le_of_ble_eq_true rfl) (Nat.le_of_ble_eq_true rfl) (by omega) (by omega) dX3_mergeRuns_36 ?_
              refine lv_istore (lv' := [(6, .int (nI (min (lo + w9) ((S.1 i).2.2)))), (0, .ref (ad (54 + w))), (1, .ref (ad (3 * i))), (2, .ref (ad (24 + 5 * j))), (3, .int (nI ((S.1 i).2.2))), (4, .int (nI w9)), (5, .int (nI lo))]) hx hb dX3_mergeRuns_39 hl (by decide) rfl (fun ls hl => ?_)
              refine lv_aload_n hx hb dX3_mergeRuns_41 rfl (lv_at hl 1 rfl) ?_
              refine lv_aload_n hx hb dX3_mergeRuns_42 rfl (lv_at hl 2 rfl) ?_
              refine lv_aload_n hx hb dX3_mergeRuns_43 rfl (lv_at hl 3 rfl) ?_
              refine lv_iload hx hb dX3_mergeRuns_44 (lv_at hl 6 rfl) ?_
              refine lv_iload hx hb dX3_mergeRuns_46 (lv_at hl 0 rfl) ?_
              refine lv_iload hx hb dX3_mergeRuns_48 (lv_at hl 0 rfl) ?_
              refine lv_iload hx hb dX3_mergeRuns_50 (lv_at hl 5 rfl) ?_
              refine kn_iadd hx hb dX3_mergeRuns_52 ?_
              refine lv_iload_n hx hb dX3_mergeRuns_53 rfl (lv_at hl 4 rfl) ?_
              refine kn_min hx hb (by rw [hml]; exact hl.1.symm) hown (hts (.methodLink RX3 48 Lib.Math.min.name) (tm 150 (by decide +kernel) rfl)) (hts (.static Lib.Math.min.name) (tm 151 (by decide +kernel) rfl)) (hts (.initialized "java/lang/Math") (tm 152 (by decide +kernel) rfl)) (hts (.code Lib.Math.min.name Lib.Math.min.code 2 (some .int)) (tm 153 (by decide +kernel) rfl)) (Nat.le_of_ble_eq_true rfl) (Nat.le_of_ble_eq_true rfl) (Nat.le_of_ble_eq_true rfl) (Nat.le_of_ble_eq_true rfl) (by omega) (by omega) dX3_mergeRuns_54 ?_
              refine kx_cv (va_runV (As := [.ref (ad (3 * i)), .ref (ad (24 + 5 * j)), .int (nI lo), .int (nI (min (lo + w9) ((S.1 i).2.2))), .int (nI (min (min (lo + w9) ((S.1 i).2.2) + w9) ((S.1 i).2.2)))]) (rest := []) ⟨hx, hb, hml, hown, hts⟩ (m_X3_mergeTwo l dC dI ad (xR S1 (3 + 2 * w) (r.1, r.2.1, r.2.2)) w i j lo (min (lo + w9) ((S.1 i).2.2)) (min (min (lo + w9) ((S.1 i).2.2) + w9) ((S.1 i).2.2)) hw hi hj (by rw [xR_ne _ _ hig]; exact hk9.2.2.2.1) (by show ordOK (S1.2.1 j); rw [hk9.1]; exact ho) hig (by omega) (by omega) (by rw [xR_ne _ _ hig, hk9.2.2.2.2]; omega) (by rw [xR_row]; exact hr9.1) (by rw [xR_row]; show r.2.2 = lo; omega)) (cwV 5 hts gX3_mergeRuns_X3_mergeTwo rfl rfl rfl hdX3_mergeTwo_5 ⟨Nat.le_of_ble_eq_true rfl, Nat.le_of_ble_eq_true rfl⟩) (hX.preSor hw) rfl rfl hl.1 rfl (lv_room (Nat.le_of_ble_eq_true rfl)) dX3_mergeRuns_57 ⟨Nat.le_of_ble_eq_true rfl, Nat.le_of_ble_eq_true rfl⟩) hX (fun _ h => h) (fun S_ H locs hw hX => ?_)
              obtain ⟨r2, hw, hr2⟩ := hw
              rw [xR_xR] at hw
              subst hw
              refine lv_iload hx hb dX3_mergeRuns_60 (lv_at hl 6 rfl) ?_
              refine lv_iconst (v := nI 2) hx hb dX3_mergeRuns_62 (by decide) ?_
              refine lv_iload hx hb dX3_mergeRuns_63 (lv_at hl 5 rfl) ?_
              refine kn_imul hx hb dX3_mergeRuns_65 ?_
              refine kn_iadd hx hb dX3_mergeRuns_66 ?_
              refine lv_istore (lv' := [(5, .int (nI (lo + (2 * w9)))), (6, .int (nI (min (lo + w9) ((S.1 i).2.2)))), (0, .ref (ad (54 + w))), (1, .ref (ad (3 * i))), (2, .ref (ad (24 + 5 * j))), (3, .int (nI ((S.1 i).2.2))), (4, .int (nI w9))]) hx hb dX3_mergeRuns_67 hl (by decide) rfl (fun ls hl => ?_)
              refine lv_goto (tgt := 24) hx hb dX3_mergeRuns_69 (by decide) ?_
              exact ih24  (r2.1, r2.2.1, r2.2.2) (lo + (2 * w9)) ⟨hr2.1, by rw [hr2.2]; omega⟩ (by omega) _ _ (by omega) hX _ (lv_sub hl [2, 3, 4, 5, 6, 0] rfl)
        exact loop24 ((S.1 i).2.2 + 1) ((S1.1 (3 + 2 * w)).1, (S1.1 (3 + 2 * w)).2.1, 0) 0 ⟨rowOK_0 hk9.2.2.1, (Nat.zero_min _).symm⟩ (by omega) _ _ (by omega) (WX.eqS rfl hX) _ (lv_sub hl [1, 2, 3, 4, 5, 0] rfl)
  exact loop8 (33 + 1) S 1 (keepR_refl hro hgo) (by omega) _ _ (by omega) (WX.eqS rfl hX) _ (lv_sub hl [2, 3, 4, 1, 0] rfl)
set_option maxHeartbeats 4000000 in
set_option maxRecDepth 100000 in
theorem m_X3_gatherByRank (l : Launch) (dC : Nat → ClassId) (dI : Nat → Nat → Nat) (ad : Nat → Nat) (S : XS) (w i j : Nat) (hw : w < 2) (hi : i < 8) (hj : j < 6) (hro : rowOK (S.1 i)) (ho : ordOK (S.2.1 j)) (hig : i ≠ 3 + 2 * w) (hgo : rowOK (S.1 (3 + 2 * w))) : Met l yX3_gatherByRank wsX3_gatherByRank ({ frames := 2, cells := 0, slots := 0, locals := 46 } : Room) (va_Pc [.ref (ad (54 + w)), .ref (ad (3 * i)), .ref (ad (24 + 5 * j))] (PX dC dI ad S)) (va_Qv (fun S' => keepR S S' i (3 + 2 * w)) (PX dC dI ad) (AX ad)) 0 0 (AX ad) := by
  refine Met.ofW (cc := cX3_gatherByRank) (maxL := 5) (ret := none) pl_X3 rfl ?_
  intro p e s m args below meth c s₁ B hml hv
  obtain ⟨rfl, hPX⟩ := hv
  have hx := B.exec
  have hb := B.bytes
  have hr := B.returns
  have hts := atoms_spec (ws := wsX3_gatherByRank) B.pre
  have hown : s.vm.findClass RX3 = some m.cls := findClass_of_methodNamed B.named
  have hlocks := B.notSynchronized
  have hin3 : ∀ w ∈ u_ws RX3 TX3 1, w ∈ wsX3_gatherByRank := tu 1323 (by decide +kernel) rfl
  have hX := WX.of hPX
  have hl := lv_entry ([.ref (ad (54 + w)), .ref (ad (3 * i)), .ref (ad (24 + 5 * j))]) (n := 5) (Nat.le_of_ble_eq_true rfl)
  rw [lg_entry_eq]
  generalize (lg_sl ([.ref (ad (54 + w)), .ref (ad (3 * i)), .ref (ad (24 + 5 * j))]) ++ List.replicate (5 - (lg_sl ([.ref (ad (54 + w)), .ref (ad (3 * i)), .ref (ad (24 + 5 * j))])).length) Slot.unset).toArray = ls at hl ⊢
  have hl : lv_has ls 5 [(0, .ref (ad (54 + w))), (1, .ref (ad (3 * i))), (2, .ref (ad (24 + 5 * j)))] := hl
  show W p l e ({ frames := 2, cells := 0, slots := 0, locals := 46 } : Room) s m ([.ref (ad (54 + w)), .ref (ad (3 * i)), .ref (ad (24 + 5 * j))]).toArray below meth c s.heap [] 0 0 (MQ below (va_Qv (fun S' => keepR S S' i (3 + 2 * w)) (PX dC dI ad) (AX ad)) ([.ref (ad (54 + w)), .ref (ad (3 * i)), .ref (ad (24 + 5 * j))]).toArray s 0 0 (AX ad)) (F0 m 0 ls [])
  have hn := hro.1
  have hcl : (S.2.1 j).2.2.2.2.2 ≤ 16 := by rw [ho.2.2.2]; exact classC_le _
  have hrl : ∀ v, v < 16 → (S.2.1 j).2.2.2.1 v < (S.2.1 j).2.2.2.2.2 := fun v hv => by rw [ho.2.2.2, ho.2.2.1 v hv]; exact rank_class _ hv
  refine lv_aload_n hx hb dX3_gatherByRank_0 rfl (lv_at hl 0 rfl) ?_
  refine ks_gg hx hb hts hin3 hown hX hw (hts (.fieldLink RX3 10 "Orderlattice$Sorter" "gathered" "LOrderlattice$Row;") (tm 20 (by decide +kernel) rfl)) dX3_gatherByRank_1 ?_
  refine kx_cv (va_runV (As := []) (rest := []) ⟨hx, hb, hml, hown, hts⟩ (m_X2_empty l dC dI ad S (3 + 2 * w)  (by omega)) (cwV 0 hts gX3_gatherByRank_X2_empty rfl rfl rfl hdX2_empty_0 ⟨Nat.le_of_ble_eq_true rfl, Nat.le_of_ble_eq_true rfl⟩) (hX.preRow (by omega)) rfl rfl hl.1 rfl (lv_room (Nat.le_of_ble_eq_true rfl)) dX3_gatherByRank_4 ⟨Nat.le_of_ble_eq_true rfl, Nat.le_of_ble_eq_true rfl⟩) hX (fun _ h => h) (fun S_ H locs hw hX => ?_)
  subst hw
  refine lv_iconst (v := nI 0) hx hb dX3_gatherByRank_7 (by decide) ?_
  refine lv_istore_n (lv' := [(3, .int (nI 0)), (0, .ref (ad (54 + w))), (1, .ref (ad (3 * i))), (2, .ref (ad (24 + 5 * j)))]) hx hb dX3_gatherByRank_8 rfl hl (by decide) rfl (fun ls hl => ?_)
  have loop9 : ∀ (fuel : Nat) (r : RowS) (rk : Nat) (hr9 : rowOK r ∧ r.2.2 = cntB (fun k => decide ((S.2.1 j).2.2.2.1 ((S.1 i).1 k) < rk)) (S.1 i).2.2) (hrk : rk ≤ (S.2.1 j).2.2.2.2.2) (H : Heap) (locs : List Loc), (S.2.1 j).2.2.2.2.2 - rk < fuel → WX dC dI ad (xR S (3 + 2 * w) (r.1, r.2.1, r.2.2)) (AX ad) s H locs → ∀ ls : Array Slot, lv_has ls 5 [(0, .ref (ad (54 + w))), (1, .ref (ad (3 * i))), (2, .ref (ad (24 + 5 * j))), (3, .int (nI rk))] → W p l e ({ frames := 2, cells := 0, slots := 0, locals := 46 } : Room) s m ([.ref (ad (54 + w)), .ref (ad (3 * i)), .ref (ad (24 + 5 * j))]).toArray below meth c H locs 0 0 (MQ below (va_Qv (fun S' => keepR S S' i (3 + 2 * w)) (PX dC dI ad) (AX ad)) ([.ref (ad (54 + w)), .ref (ad (3 * i)), .ref (ad (24 + 5 * j))]).toArray s 0 0 (AX ad)) (F0 m 9 ls []) := by
    intro fuel
    induction fuel with
    | zero => intro r rk hr9 hrk H locs hf; exact absurd hf (Nat.not_lt_zero _)
    | succ fuel ih9 =>
      intro r rk hr9 hrk H locs hf hX ls hl
      refine lv_iload_n hx hb dX3_gatherByRank_9 rfl (lv_at hl 3 rfl) ?_
      refine lv_aload_n hx hb dX3_gatherByRank_10 rfl (lv_at hl 2 rfl) ?_
      refine kx_cr (v := nI ((S.2.1 j).2.2.2.2.2)) (va_runV (As := []) (rest := [.int (nI rk)]) ⟨hx, hb, hml, hown, hts⟩ (m_X1_classCount l dC dI ad (xR S (3 + 2 * w) (r.1, r.2.1, r.2.2)) j  hj) (cwV 0 hts gX3_gatherByRank_X1_classCount rfl rfl rfl hdX1_classCount_0 ⟨Nat.le_of_ble_eq_true rfl, Nat.le_of_ble_eq_true rfl⟩) (hX.preOrd hj) rfl rfl hl.1 rfl (lv_room (Nat.le_of_ble_eq_true rfl)) dX3_gatherByRank_11 ⟨Nat.le_of_ble_eq_true rfl, Nat.le_of_ble_eq_true rfl⟩) (fun _ h => h) ?_
      refine kn_icmp_ge (tgt := 74) hx hb (by omega) (by omega) dX3_gatherByRank_14 (by decide) (fun k_1 => ?_) (fun k_1 => ?_)
      · skip
        have hd := k_1
        have hall : cntB (fun k => decide ((S.2.1 j).2.2.2.1 ((S.1 i).1 k) < (S.2.1 j).2.2.2.2.2)) (S.1 i).2.2 = (S.1 i).2.2 := cntB_all (fun k hk => decide_eq_true (hrl _ (hro.2 k (by omega)).1))
        have hrk : rk = (S.2.1 j).2.2.2.2.2 := by omega
        subst hrk
        have hrk : True := trivial
        obtain ⟨S2, e2⟩ : ∃ z, z = (xR S (3 + 2 * w) (r.1, r.2.1, r.2.2)) := ⟨_, rfl⟩
        replace hX := WX.eqS e2.symm hX
        have hk2 : keepR S S2 i (3 + 2 * w) := by rw [e2]; exact keepR_g (keepR_refl hro hgo) hig hr9.1
        have hg2 : (S2.1 (3 + 2 * w)).2.2 = (S.1 i).2.2 := by rw [e2, xR_row]; show r.2.2 = _; first | omega | (rw [hr9.2, hrk, hall])
        refine lv_aload_n hx hb dX3_gatherByRank_74 rfl (lv_at hl 1 rfl) ?_
        refine lv_aload_n hx hb dX3_gatherByRank_75 rfl (lv_at hl 0 rfl) ?_
        refine ks_gg hx hb hts hin3 hown hX hw (hts (.fieldLink RX3 10 "Orderlattice$Sorter" "gathered" "LOrderlattice$Row;") (tm 20 (by decide +kernel) rfl)) dX3_gatherByRank_76 ?_
        refine kx_cv (va_runV (As := [.ref (ad (3 * (3 + 2 * w)))]) (rest := []) ⟨hx, hb, hml, hown, hts⟩ (m_X2_becomeCopyOf l dC dI ad S2 i (3 + 2 * w) hi (by omega) (by rw [hg2]; omega)) (cwV 1 hts gX3_gatherByRank_X2_becomeCopyOf rfl rfl rfl hdX2_becomeCopyOf_1 ⟨Nat.le_of_ble_eq_true rfl, Nat.le_of_ble_eq_true rfl⟩) (hX.preRow hi) rfl rfl hl.1 rfl (lv_room (Nat.le_of_ble_eq_true rfl)) dX3_gatherByRank_79 ⟨Nat.le_of_ble_eq_true rfl, Nat.le_of_ble_eq_true rfl⟩) hX (fun _ h => h) (fun S_ H locs hw hX => ?_)
        subst hw
        exact W.vret hx hb hr (fun t9 ht9 hW9 => ⟨⟨(xR S2 i (ovl ((S2.1 (3 + 2 * w)).1) ((S2.1 i).1) ((S2.1 (3 + 2 * w)).2.2), ovl ((S2.1 (3 + 2 * w)).2.1) ((S2.1 i).2.1) ((S2.1 (3 + 2 * w)).2.2), (S2.1 (3 + 2 * w)).2.2)), rfl, (keepR_i hk2 hig (rowOK_ovl hk2.2.2.2.1 hk2.2.2.1) hg2), hX.P ht9 hW9⟩, hX.2.2.2.F ht9⟩) hX.2.2.2.2.2 dX3_gatherByRank_82
      · skip
        have hd := k_1
        refine lv_iconst (v := nI 0) hx hb dX3_gatherByRank_17 (by decide) ?_
        refine lv_istore (lv' := [(4, .int (nI 0)), (0, .ref (ad (54 + w))), (1, .ref (ad (3 * i))), (2, .ref (ad (24 + 5 * j))), (3, .int (nI rk))]) hx hb dX3_gatherByRank_18 hl (by decide) rfl (fun ls hl => ?_)
        have loop20 : ∀ (fuel : Nat) (r : RowS) (q : Nat) (hr9 : rowOK r ∧ r.2.2 = cntB (fun k => decide ((S.2.1 j).2.2.2.1 ((S.1 i).1 k) < rk)) (S.1 i).2.2 + cntB (fun k => decide ((S.2.1 j).2.2.2.1 ((S.1 i).1 k) = rk)) q) (hq : q ≤ (S.1 i).2.2) (H : Heap) (locs : List Loc), (S.1 i).2.2 - q < fuel → WX dC dI ad (xR S (3 + 2 * w) (r.1, r.2.1, r.2.2)) (AX ad) s H locs → ∀ ls : Array Slot, lv_has ls 5 [(0, .ref (ad (54 + w))), (1, .ref (ad (3 * i))), (2, .ref (ad (24 + 5 * j))), (3, .int (nI rk)), (4, .int (nI q))] → W p l e ({ frames := 2, cells := 0, slots := 0, locals := 46 } : Room) s m ([.ref (ad (54 + w)), .ref (ad (3 * i)), .ref (ad (24 + 5 * j))]).toArray below meth c H locs 0 0 (MQ below (va_Qv (fun S' => keepR S S' i (3 + 2 * w)) (PX dC dI ad) (AX ad)) ([.ref (ad (54 + w)), .ref (ad (3 * i)), .ref (ad (24 + 5 * j))]).toArray s 0 0 (AX ad)) (F0 m 20 ls []) := by
          intro fuel
          induction fuel with
          | zero => intro r q hr9 hq H locs hf; exact absurd hf (Nat.not_lt_zero _)
          | succ fuel ih20 =>
            intro r q hr9 hq H locs hf hX ls hl
            refine lv_iload hx hb dX3_gatherByRank_20 (lv_at hl 4 rfl) ?_
            refine lv_aload_n hx hb dX3_gatherByRank_22 rfl (lv_at hl 1 rfl) ?_
            refine kx_cr (v := nI ((S.1 i).2.2)) (va_runV (As := []) (rest := [.int (nI q)]) ⟨hx, hb, hml, hown, hts⟩ (m_X2_length l dC dI ad (xR S (3 + 2 * w) (r.1, r.2.1, r.2.2)) i hi) (cwV 0 hts gX3_gatherByRank_X2_length rfl rfl rfl hdX2_length_0 ⟨Nat.le_of_ble_eq_true rfl, Nat.le_of_ble_eq_true rfl⟩) (hX.preRow hi) rfl rfl hl.1 rfl (lv_room (Nat.le_of_ble_eq_true rfl)) dX3_gatherByRank_23 ⟨Nat.le_of_ble_eq_true rfl, Nat.le_of_ble_eq_true rfl⟩) (fun _ h => by rw [h, xR_ne _ _ hig]) ?_
            refine kn_icmp_ge (tgt := 68) hx hb (by omega) (by omega) dX3_gatherByRank_26 (by decide) (fun k_2 => ?_) (fun k_2 => ?_)
            · skip
              refine lv_iinc (v := nI (rk + 1)) (lv' := [(3, .int (nI (rk + 1))), (0, .ref (ad (54 + w))), (1, .ref (ad (3 * i))), (2, .ref (ad (24 + 5 * j))), (4, .int (nI q))]) hx hb dX3_gatherByRank_68 hl (k := 3) rfl (nI_1 rk) (by decide) rfl (fun ls hl => ?_)
              refine lv_goto (tgt := 9) hx hb dX3_gatherByRank_71 (by decide) ?_
              exact ih9  r (rk + 1) ⟨hr9.1, by rw [hr9.2, show q = (S.1 i).2.2 by omega]; exact cnt_lt_s _ _ _⟩ (by omega) _ _ (by omega) hX _ (lv_sub hl [1, 2, 3, 0] rfl)
            · skip
              refine lv_aload_n hx hb dX3_gatherByRank_29 rfl (lv_at hl 2 rfl) ?_
              refine lv_aload_n hx hb dX3_gatherByRank_30 rfl (lv_at hl 1 rfl) ?_
              refine lv_iload hx hb dX3_gatherByRank_31 (lv_at hl 4 rfl) ?_
              refine kx_cr (v := nI ((S.1 i).1 q)) (va_runV (As := [.int (nI q)]) (rest := [.ref (ad (24 + 5 * j))]) ⟨hx, hb, hml, hown, hts⟩ (m_X2_valueOn l dC dI ad (xR S (3 + 2 * w) (r.1, r.2.1, r.2.2)) i q hi (by omega)) (cwV 1 hts gX3_gatherByRank_X2_valueOn rfl rfl rfl hdX2_valueOn_1 ⟨Nat.le_of_ble_eq_true rfl, Nat.le_of_ble_eq_true rfl⟩) (hX.preRow hi) rfl rfl hl.1 rfl (lv_room (Nat.le_of_ble_eq_true rfl)) dX3_gatherByRank_33 ⟨Nat.le_of_ble_eq_true rfl, Nat.le_of_ble_eq_true rfl⟩) (fun _ h => by rw [h, xR_ne _ _ hig]) ?_
              refine kx_cr (v := nI ((S.2.1 j).2.2.2.1 ((S.1 i).1 q))) (va_runV (As := [.int (nI ((S.1 i).1 q))]) (rest := []) ⟨hx, hb, hml, hown, hts⟩ (m_X1_rankOf l dC dI ad (xR S (3 + 2 * w) (r.1, r.2.1, r.2.2)) j ((S.1 i).1 q) hj (hro.2 _ (by omega)).1) (cwV 1 hts gX3_gatherByRank_X1_rankOf rfl rfl rfl hdX1_rankOf_1 ⟨Nat.le_of_ble_eq_true rfl, Nat.le_of_ble_eq_true rfl⟩) (hX.preOrd hj) rfl rfl hl.1 rfl (lv_room (Nat.le_of_ble_eq_true rfl)) dX3_gatherByRank_36 ⟨Nat.le_of_ble_eq_true rfl, Nat.le_of_ble_eq_true rfl⟩) (fun _ h => h) ?_
              refine lv_iload_n hx hb dX3_gatherByRank_39 rfl (lv_at hl 3 rfl) ?_
              have h1 := hrl ((S.1 i).1 q) (hro.2 q (by omega)).1
              refine kn_icmp_ne (tgt := 62) hx hb (by omega) (by omega) dX3_gatherByRank_40 (by decide) (fun k_3 => ?_) (fun k_3 => ?_)
              · skip
                have hc := k_3
                refine lv_iinc (v := nI (q + 1)) (lv' := [(4, .int (nI (q + 1))), (0, .ref (ad (54 + w))), (1, .ref (ad (3 * i))), (2, .ref (ad (24 + 5 * j))), (3, .int (nI rk))]) hx hb dX3_gatherByRank_62 hl (k := 4) rfl (nI_1 q) (by decide) rfl (fun ls hl => ?_)
                refine lv_goto (tgt := 20) hx hb dX3_gatherByRank_65 (by decide) ?_
                exact ih20  r (q + 1) ⟨hr9.1, by rw [hr9.2, cntB_f (p := (fun k => decide ((S.2.1 j).2.2.2.1 ((S.1 i).1 k) = rk))) (decide_eq_false hc)]⟩ (by omega) _ _ (by omega) hX _ (lv_sub hl [1, 2, 3, 4, 0] rfl)
              · skip
                have hc := k_3
                refine lv_aload_n hx hb dX3_gatherByRank_43 rfl (lv_at hl 0 rfl) ?_
                refine ks_gg hx hb hts hin3 hown hX hw (hts (.fieldLink RX3 10 "Orderlattice$Sorter" "gathered" "LOrderlattice$Row;") (tm 20 (by decide +kernel) rfl)) dX3_gatherByRank_44 ?_
                refine lv_aload_n hx hb dX3_gatherByRank_47 rfl (lv_at hl 1 rfl) ?_
                refine lv_iload hx hb dX3_gatherByRank_48 (lv_at hl 4 rfl) ?_
                refine kx_cr (v := nI ((S.1 i).1 q)) (va_runV (As := [.int (nI q)]) (rest := [.ref (ad (3 * (3 + 2 * w)))]) ⟨hx, hb, hml, hown, hts⟩ (m_X2_valueOn l dC dI ad (xR S (3 + 2 * w) (r.1, r.2.1, r.2.2)) i q hi (by omega)) (cwV 1 hts gX3_gatherByRank_X2_valueOn rfl rfl rfl hdX2_valueOn_1 ⟨Nat.le_of_ble_eq_true rfl, Nat.le_of_ble_eq_true rfl⟩) (hX.preRow hi) rfl rfl hl.1 rfl (lv_room (Nat.le_of_ble_eq_true rfl)) dX3_gatherByRank_50 ⟨Nat.le_of_ble_eq_true rfl, Nat.le_of_ble_eq_true rfl⟩) (fun _ h => by rw [h, xR_ne _ _ hig]) ?_
                refine lv_aload_n hx hb dX3_gatherByRank_53 rfl (lv_at hl 1 rfl) ?_
                refine lv_iload hx hb dX3_gatherByRank_54 (lv_at hl 4 rfl) ?_
                refine kx_cr (v := nI ((S.1 i).2.1 q)) (va_runV (As := [.int (nI q)]) (rest := [.int (nI ((S.1 i).1 q)), .ref (ad (3 * (3 + 2 * w)))]) ⟨hx, hb, hml, hown, hts⟩ (m_X2_markOn l dC dI ad (xR S (3 + 2 * w) (r.1, r.2.1, r.2.2)) i q hi (by omega)) (cwV 1 hts gX3_gatherByRank_X2_markOn rfl rfl rfl hdX2_markOn_1 ⟨Nat.le_of_ble_eq_true rfl, Nat.le_of_ble_eq_true rfl⟩) (hX.preRow hi) rfl rfl hl.1 rfl (lv_room (Nat.le_of_ble_eq_true rfl)) dX3_gatherByRank_56 ⟨Nat.le_of_ble_eq_true rfl, Nat.le_of_ble_eq_true rfl⟩) (fun _ h => by rw [h, xR_ne _ _ hig]) ?_
                refine kx_cv (va_runV (As := [.int (nI ((S.1 i).1 q)), .int (nI ((S.1 i).2.1 q))]) (rest := []) ⟨hx, hb, hml, hown, hts⟩ (m_X2_append l dC dI ad (xR S (3 + 2 * w) (r.1, r.2.1, r.2.2)) (3 + 2 * w) ((S.1 i).1 q) ((S.1 i).2.1 q) (by omega) (by rw [xR_row]; show r.2.2 < 16; have := cnt_room (p := (fun k => decide ((S.2.1 j).2.2.2.1 ((S.1 i).1 k) < rk))) (p2 := (fun k => decide ((S.2.1 j).2.2.2.1 ((S.1 i).1 k) = rk))) (fun k h1 h2 => by have := of_decide_eq_true h1; have := of_decide_eq_true h2; omega) (show q < (S.1 i).2.2 by omega) (decide_eq_true hc); omega)) (cwV 2 hts gX3_gatherByRank_X2_append rfl rfl rfl hdX2_append_2 ⟨Nat.le_of_ble_eq_true rfl, Nat.le_of_ble_eq_true rfl⟩) (hX.preRow (by omega)) rfl rfl hl.1 rfl (lv_room (Nat.le_of_ble_eq_true rfl)) dX3_gatherByRank_59 ⟨Nat.le_of_ble_eq_true rfl, Nat.le_of_ble_eq_true rfl⟩) hX (fun _ h => h) (fun S_ H locs hw hX => ?_)
                rw [xR_row, xR_xR] at hw
                subst hw
                refine lv_iinc (v := nI (q + 1)) (lv' := [(4, .int (nI (q + 1))), (0, .ref (ad (54 + w))), (1, .ref (ad (3 * i))), (2, .ref (ad (24 + 5 * j))), (3, .int (nI rk))]) hx hb dX3_gatherByRank_62 hl (k := 4) rfl (nI_1 q) (by decide) rfl (fun ls hl => ?_)
                refine lv_goto (tgt := 20) hx hb dX3_gatherByRank_65 (by decide) ?_
                exact ih20  (va_up r.1 r.2.2 ((S.1 i).1 q), va_up r.2.1 r.2.2 ((S.1 i).2.1 q), r.2.2 + 1) (q + 1) ⟨rowOK_app hr9.1 (by have := cnt_room (p := (fun k => decide ((S.2.1 j).2.2.2.1 ((S.1 i).1 k) < rk))) (p2 := (fun k => decide ((S.2.1 j).2.2.2.1 ((S.1 i).1 k) = rk))) (fun k h1 h2 => by have := of_decide_eq_true h1; have := of_decide_eq_true h2; omega) (show q < (S.1 i).2.2 by omega) (decide_eq_true hc); omega) (hro.2 _ (by omega)).1 (hro.2 _ (by omega)).2, by show r.2.2 + 1 = _; rw [hr9.2, cntB_t (p := (fun k => decide ((S.2.1 j).2.2.2.1 ((S.1 i).1 k) = rk))) (decide_eq_true hc)]; omega⟩ (by omega) _ _ (by omega) hX _ (lv_sub hl [1, 2, 3, 4, 0] rfl)
        exact loop20 ((S.1 i).2.2 + 1) r 0 ⟨hr9.1, hr9.2⟩ (by omega) _ _ (by omega) (WX.eqS rfl hX) _ (lv_sub hl [1, 2, 3, 4, 0] rfl)
  exact loop9 ((S.2.1 j).2.2.2.2.2 + 1) ((S.1 (3 + 2 * w)).1, (S.1 (3 + 2 * w)).2.1, 0) 0 ⟨rowOK_0 hgo, (cntB_none (fun k _ => decide_eq_false (by omega))).symm⟩ (by omega) _ _ (by omega) (WX.eqS rfl hX) _ (lv_sub hl [1, 2, 3, 0] rfl)
set_option maxHeartbeats 4000000 in
set_option maxRecDepth 100000 in
theorem m_X3_arrangeAll (l : Launch) (dC : Nat → ClassId) (dI : Nat → Nat → Nat) (ad : Nat → Nat) (S : XS) (w i j y9 : Nat) (hw : w < 2) (hi : i < 8) (hj : j < 6) (hro : rowOK (S.1 i)) (ho : ordOK (S.2.1 j)) (hig : i ≠ 3 + 2 * w) (hgo : rowOK (S.1 (3 + 2 * w))) (hy : y9 < 3) : Met l yX3_arrangeAll wsX3_arrangeAll ({ frames := 3, cells := 0, slots := 0, locals := 82 } : Room) (va_Pc [.ref (ad (54 + w)), .ref (ad (3 * i)), .ref (ad (24 + 5 * j)), .int (nI y9)] (PX dC dI ad S)) (va_Qv (fun S' => keepR S S' i (3 + 2 * w)) (PX dC dI ad) (AX ad)) 0 0 (AX ad) := by
  refine Met.ofW (cc := cX3_arrangeAll) (maxL := 4) (ret := none) pl_X3 rfl ?_
  intro p e s m args below meth c s₁ B hml hv
  obtain ⟨rfl, hPX⟩ := hv
  have hx := B.exec
  have hb := B.bytes
  have hr := B.returns
  have hts := atoms_spec (ws := wsX3_arrangeAll) B.pre
  have hown : s.vm.findClass RX3 = some m.cls := findClass_of_methodNamed B.named
  have hlocks := B.notSynchronized
  have hX := WX.of hPX
  have hl := lv_entry ([.ref (ad (54 + w)), .ref (ad (3 * i)), .ref (ad (24 + 5 * j)), .int (nI y9)]) (n := 4) (Nat.le_of_ble_eq_true rfl)
  rw [lg_entry_eq]
  generalize (lg_sl ([.ref (ad (54 + w)), .ref (ad (3 * i)), .ref (ad (24 + 5 * j)), .int (nI y9)]) ++ List.replicate (4 - (lg_sl ([.ref (ad (54 + w)), .ref (ad (3 * i)), .ref (ad (24 + 5 * j)), .int (nI y9)])).length) Slot.unset).toArray = ls at hl ⊢
  have hl : lv_has ls 4 [(0, .ref (ad (54 + w))), (1, .ref (ad (3 * i))), (2, .ref (ad (24 + 5 * j))), (3, .int (nI y9))] := hl
  show W p l e ({ frames := 3, cells := 0, slots := 0, locals := 82 } : Room) s m ([.ref (ad (54 + w)), .ref (ad (3 * i)), .ref (ad (24 + 5 * j)), .int (nI y9)]).toArray below meth c s.heap [] 0 0 (MQ below (va_Qv (fun S' => keepR S S' i (3 + 2 * w)) (PX dC dI ad) (AX ad)) ([.ref (ad (54 + w)), .ref (ad (3 * i)), .ref (ad (24 + 5 * j)), .int (nI y9)]).toArray s 0 0 (AX ad)) (F0 m 0 ls [])
  rcases (show y9 = 0 ∨ y9 = 1 ∨ y9 = 2 by omega) with rfl | rfl | rfl
  · skip
    have hl : lv_has ls 4 [(0, .ref (ad (54 + w))), (1, .ref (ad (3 * i))), (2, .ref (ad (24 + 5 * j))), (3, .int (nI 0))] := hl
    refine lv_iload_n hx hb dX3_arrangeAll_0 rfl (lv_at hl 3 rfl) ?_
    refine lv_lookup (x := nI 0) (off := 27) (tgt := 28) hx hb dX3_arrangeAll_1 (by decide) (by decide) (by decide) ?_
    refine lv_aload_n hx hb dX3_arrangeAll_28 rfl (lv_at hl 0 rfl) ?_
    refine lv_aload_n hx hb dX3_arrangeAll_29 rfl (lv_at hl 1 rfl) ?_
    refine lv_aload_n hx hb dX3_arrangeAll_30 rfl (lv_at hl 2 rfl) ?_
    refine lv_iconst (v := nI 0) hx hb dX3_arrangeAll_31 (by decide) ?_
    refine lv_aload_n hx hb dX3_arrangeAll_32 rfl (lv_at hl 1 rfl) ?_
    refine kx_cr (v := nI ((S.1 i).2.2)) (va_runV (As := []) (rest := [.int (nI 0), .ref (ad (24 + 5 * j)), .ref (ad (3 * i)), .ref (ad (54 + w))]) ⟨hx, hb, hml, hown, hts⟩ (m_X2_length l dC dI ad S i hi) (cwV 0 hts gX3_arrangeAll_X2_length rfl rfl rfl hdX2_length_0 ⟨Nat.le_of_ble_eq_true rfl, Nat.le_of_ble_eq_true rfl⟩) (hX.preRow hi) rfl rfl hl.1 rfl (lv_room (Nat.le_of_ble_eq_true rfl)) dX3_arrangeAll_33 ⟨Nat.le_of_ble_eq_true rfl, Nat.le_of_ble_eq_true rfl⟩) (fun _ h => h) ?_
    refine kx_cv (va_runV (As := [.ref (ad (3 * i)), .ref (ad (24 + 5 * j)), .int (nI 0), .int (nI ((S.1 i).2.2))]) (rest := []) ⟨hx, hb, hml, hown, hts⟩ (m_X3_insertEach l dC dI ad S w i j 0 ((S.1 i).2.2) hw hi hj hro ho (Nat.zero_le _) (Nat.le_refl _)) (cwV 4 hts gX3_arrangeAll_X3_insertEach rfl rfl rfl hdX3_insertEach_4 ⟨Nat.le_of_ble_eq_true rfl, Nat.le_of_ble_eq_true rfl⟩) (hX.preSor hw) rfl rfl hl.1 rfl (lv_room (Nat.le_of_ble_eq_true rfl)) dX3_arrangeAll_36 ⟨Nat.le_of_ble_eq_true rfl, Nat.le_of_ble_eq_true rfl⟩) hX (fun _ h => h) (fun S_ H locs hw hX => ?_)
    obtain ⟨r2, hw, hr2⟩ := hw
    subst hw
    refine lv_goto (tgt := 57) hx hb dX3_arrangeAll_39 (by decide) ?_
    exact W.vret hx hb hr (fun t9 ht9 hW9 => ⟨⟨(xR S i (r2.1, r2.2.1, r2.2.2)), rfl, (keepR_i (keepR_refl hro hgo) hig hr2.1 hr2.2), hX.P ht9 hW9⟩, hX.2.2.2.F ht9⟩) hX.2.2.2.2.2 dX3_arrangeAll_57
  · skip
    have hl : lv_has ls 4 [(0, .ref (ad (54 + w))), (1, .ref (ad (3 * i))), (2, .ref (ad (24 + 5 * j))), (3, .int (nI 1))] := hl
    refine lv_iload_n hx hb dX3_arrangeAll_0 rfl (lv_at hl 3 rfl) ?_
    refine lv_lookup (x := nI 1) (off := 41) (tgt := 42) hx hb dX3_arrangeAll_1 (by decide) (by decide) (by decide) ?_
    refine lv_aload_n hx hb dX3_arrangeAll_42 rfl (lv_at hl 0 rfl) ?_
    refine lv_aload_n hx hb dX3_arrangeAll_43 rfl (lv_at hl 1 rfl) ?_
    refine lv_aload_n hx hb dX3_arrangeAll_44 rfl (lv_at hl 2 rfl) ?_
    refine kx_cv (va_runV (As := [.ref (ad (3 * i)), .ref (ad (24 + 5 * j))]) (rest := []) ⟨hx, hb, hml, hown, hts⟩ (m_X3_mergeRuns l dC dI ad S w i j hw hi hj hro ho hig hgo) (cwV 2 hts gX3_arrangeAll_X3_mergeRuns rfl rfl rfl hdX3_mergeRuns_2 ⟨Nat.le_of_ble_eq_true rfl, Nat.le_of_ble_eq_true rfl⟩) (hX.preSor hw) rfl rfl hl.1 rfl (lv_room (Nat.le_of_ble_eq_true rfl)) dX3_arrangeAll_45 ⟨Nat.le_of_ble_eq_true rfl, Nat.le_of_ble_eq_true rfl⟩) hX (fun _ h => h) (fun S_ H locs hw hX => ?_)
    refine lv_goto (tgt := 57) hx hb dX3_arrangeAll_48 (by decide) ?_
    exact W.vret hx hb hr (fun t9 ht9 hW9 => ⟨⟨S_, rfl, hw, hX.P ht9 hW9⟩, hX.2.2.2.F ht9⟩) hX.2.2.2.2.2 dX3_arrangeAll_57
  · skip
    have hl : lv_has ls 4 [(0, .ref (ad (54 + w))), (1, .ref (ad (3 * i))), (2, .ref (ad (24 + 5 * j))), (3, .int (nI 2))] := hl
    refine lv_iload_n hx hb dX3_arrangeAll_0 rfl (lv_at hl 3 rfl) ?_
    refine lv_lookup (x := nI 2) (off := 50) (tgt := 51) hx hb dX3_arrangeAll_1 (by decide) (by decide) (by decide) ?_
    refine lv_aload_n hx hb dX3_arrangeAll_51 rfl (lv_at hl 0 rfl) ?_
    refine lv_aload_n hx hb dX3_arrangeAll_52 rfl (lv_at hl 1 rfl) ?_
    refine lv_aload_n hx hb dX3_arrangeAll_53 rfl (lv_at hl 2 rfl) ?_
    refine kx_cv (va_runV (As := [.ref (ad (3 * i)), .ref (ad (24 + 5 * j))]) (rest := []) ⟨hx, hb, hml, hown, hts⟩ (m_X3_gatherByRank l dC dI ad S w i j hw hi hj hro ho hig hgo) (cwV 2 hts gX3_arrangeAll_X3_gatherByRank rfl rfl rfl hdX3_gatherByRank_2 ⟨Nat.le_of_ble_eq_true rfl, Nat.le_of_ble_eq_true rfl⟩) (hX.preSor hw) rfl rfl hl.1 rfl (lv_room (Nat.le_of_ble_eq_true rfl)) dX3_arrangeAll_54 ⟨Nat.le_of_ble_eq_true rfl, Nat.le_of_ble_eq_true rfl⟩) hX (fun _ h => h) (fun S_ H locs hw hX => ?_)
    exact W.vret hx hb hr (fun t9 ht9 hW9 => ⟨⟨S_, rfl, hw, hX.P ht9 hW9⟩, hX.2.2.2.F ht9⟩) hX.2.2.2.2.2 dX3_arrangeAll_57
