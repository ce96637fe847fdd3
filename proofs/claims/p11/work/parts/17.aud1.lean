/-! two orders beside one another -/
def finerN (c d : Nat → Nat) (n : Nat) : Bool := decide (∀ a, a < n → ∀ b, b < n → d a < d b → c a < c b)
def finerB (c d : Nat → Nat) : Bool := finerN c d 16
def likeN (c d : Nat → Nat) (n : Nat) : Bool := decide (∀ a, a < n → ∀ b, b < n → a < b → cmpI (c a) (c b) = cmpI (d a) (d b))
def likeB (c d : Nat → Nat) : Bool := likeN c d 16
def alikeN (c d : Nat → Nat) (n : Nat) : Bool := decide (∀ a, a < n → ∀ b, b < n → a < b → c a = c b → d a = d b)
def alikeB (c d : Nat → Nat) : Bool := alikeN c d 16
def rankSomeN (r : Nat → Nat) (k n : Nat) : Bool := decide (∃ v, v < n ∧ r v = k)
def rankSome (r : Nat → Nat) (k : Nat) : Bool := rankSomeN r k 16
set_option maxHeartbeats 4000000 in
set_option maxRecDepth 100000 in
theorem m_X1_isFinerThan (l : Launch) (dC : Nat → ClassId) (dI : Nat → Nat → Nat) (ad : Nat → Nat) (S : XS) (j t : Nat) (hj : j < 6) (ht : t < 6) (ho : ordOK (S.2.1 j)) (ho2 : ordOK (S.2.1 t)) : Met l yX1_isFinerThan wsX1_isFinerThan ({ frames := 1, cells := 0, slots := 0, locals := 26 } : Room) (va_Pc [.ref (ad (24 + 5 * j)), .ref (ad (24 + 5 * t))] (PX dC dI ad S)) (vp_Si (fun r => r = bI (finerB (S.2.1 j).2.2.1 (S.2.1 t).2.2.1))) 0 0 (fun _ => False) := by
  refine Met.ofW (cc := cX1_isFinerThan) (maxL := 4) (ret := (some .boolean)) pl_X1 rfl ?_
  intro p e s m args below meth c s₁ B hml hv
  obtain ⟨rfl, hPX⟩ := hv
  have hx := B.exec
  have hb := B.bytes
  have hr := B.returns
  have hts := atoms_spec (ws := wsX1_isFinerThan) B.pre
  have hown : s.vm.findClass RX1 = some m.cls := findClass_of_methodNamed B.named
  have hlocks := B.notSynchronized
  have hX := WX.of hPX
  have hl := lv_entry ([.ref (ad (24 + 5 * j)), .ref (ad (24 + 5 * t))]) (n := 4) (Nat.le_of_ble_eq_true rfl)
  rw [lg_entry_eq]
  generalize (lg_sl ([.ref (ad (24 + 5 * j)), .ref (ad (24 + 5 * t))]) ++ List.replicate (4 - (lg_sl ([.ref (ad (24 + 5 * j)), .ref (ad (24 + 5 * t))])).length) Slot.unset).toArray = ls at hl ⊢
  have hl : lv_has ls 4 [(0, .ref (ad (24 + 5 * j))), (1, .ref (ad (24 + 5 * t)))] := hl
  show W p l e ({ frames := 1, cells := 0, slots := 0, locals := 26 } : Room) s m ([.ref (ad (24 + 5 * j)), .ref (ad (24 + 5 * t))]).toArray below meth c s.heap [] 0 0 (MQ below (vp_Si (fun r => r = bI (finerB (S.2.1 j).2.2.1 (S.2.1 t).2.2.1))) ([.ref (ad (24 + 5 * j)), .ref (ad (24 + 5 * t))]).toArray s 0 0 (fun _ => False)) (F0 m 0 ls [])
  refine lv_iconst (v := nI 0) hx hb dX1_isFinerThan_0 (by decide) ?_
  refine lv_istore_n (lv' := [(2, .int (nI 0)), (0, .ref (ad (24 + 5 * j))), (1, .ref (ad (24 + 5 * t)))]) hx hb dX1_isFinerThan_1 rfl hl (by decide) rfl (fun ls hl => ?_)
  have loop2 : ∀ (fuel : Nat) (a : Nat) (ha : a ≤ 16) (hq : ∀ x, x < a → ∀ y, y < 16 → (S.2.1 t).2.2.1 x < (S.2.1 t).2.2.1 y → (S.2.1 j).2.2.1 x < (S.2.1 j).2.2.1 y), 16 - a < fuel → ∀ ls : Array Slot, lv_has ls 4 [(0, .ref (ad (24 + 5 * j))), (1, .ref (ad (24 + 5 * t))), (2, .int (nI a))] → W p l e ({ frames := 1, cells := 0, slots := 0, locals := 26 } : Room) s m ([.ref (ad (24 + 5 * j)), .ref (ad (24 + 5 * t))]).toArray below meth c s.heap [] 0 0 (MQ below (vp_Si (fun r => r = bI (finerB (S.2.1 j).2.2.1 (S.2.1 t).2.2.1))) ([.ref (ad (24 + 5 * j)), .ref (ad (24 + 5 * t))]).toArray s 0 0 (fun _ => False)) (F0 m 2 ls []) := by
    intro fuel
    induction fuel with
    | zero => intro a ha hq hf; exact absurd hf (Nat.not_lt_zero _)
    | succ fuel ih2 =>
      intro a ha hq hf ls hl
      refine lv_iload_n hx hb dX1_isFinerThan_2 rfl (lv_at hl 2 rfl) ?_
      refine lv_bipush (v := nI 16) hx hb dX1_isFinerThan_3 (by decide) ?_
      refine kn_icmp_ge (tgt := 48) hx hb (by omega) (by omega) dX1_isFinerThan_5 (by decide) (fun k_1 => ?_) (fun k_1 => ?_)
      · skip
        refine lv_iconst (v := nI 1) hx hb dX1_isFinerThan_48 (by decide) ?_
        exact W.zret (v := bI true) hx hb hr (bI_narrow _) (fun t9 ht9 hW9 => ⟨_, rfl, (kd_t (fun x hx9 y hy9 => hq x (by omega) y hy9)), ht9⟩) (fun _ h => nomatch h) dX1_isFinerThan_49
      · skip
        refine lv_iconst (v := nI 0) hx hb dX1_isFinerThan_8 (by decide) ?_
        refine lv_istore_n (lv' := [(3, .int (nI 0)), (0, .ref (ad (24 + 5 * j))), (1, .ref (ad (24 + 5 * t))), (2, .int (nI a))]) hx hb dX1_isFinerThan_9 rfl hl (by decide) rfl (fun ls hl => ?_)
        have loop10 : ∀ (fuel : Nat) (b : Nat) (hb3 : b ≤ 17) (hp : ∀ y, y < b → (S.2.1 t).2.2.1 a < (S.2.1 t).2.2.1 y → (S.2.1 j).2.2.1 a < (S.2.1 j).2.2.1 y), 17 - b < fuel → ∀ ls : Array Slot, lv_has ls 4 [(0, .ref (ad (24 + 5 * j))), (1, .ref (ad (24 + 5 * t))), (2, .int (nI a)), (3, .int (nI b))] → W p l e ({ frames := 1, cells := 0, slots := 0, locals := 26 } : Room) s m ([.ref (ad (24 + 5 * j)), .ref (ad (24 + 5 * t))]).toArray below meth c s.heap [] 0 0 (MQ below (vp_Si (fun r => r = bI (finerB (S.2.1 j).2.2.1 (S.2.1 t).2.2.1))) ([.ref (ad (24 + 5 * j)), .ref (ad (24 + 5 * t))]).toArray s 0 0 (fun _ => False)) (F0 m 10 ls []) := by
          intro fuel
          induction fuel with
          | zero => intro b hb3 hp hf; exact absurd hf (Nat.not_lt_zero _)
          | succ fuel ih10 =>
            intro b hb3 hp hf ls hl
            refine lv_iload_n hx hb dX1_isFinerThan_10 rfl (lv_at hl 3 rfl) ?_
            refine lv_bipush (v := nI 16) hx hb dX1_isFinerThan_11 (by decide) ?_
            refine kn_icmp_ge (tgt := 42) hx hb (by omega) (by omega) dX1_isFinerThan_13 (by decide) (fun k_2 => ?_) (fun k_2 => ?_)
            · skip
              refine lv_iinc (v := nI (a + 1)) (lv' := [(2, .int (nI (a + 1))), (0, .ref (ad (24 + 5 * j))), (1, .ref (ad (24 + 5 * t))), (3, .int (nI b))]) hx hb dX1_isFinerThan_42 hl (k := 2) rfl (nI_1 a) (by decide) rfl (fun ls hl => ?_)
              refine lv_goto (tgt := 2) hx hb dX1_isFinerThan_45 (by decide) ?_
              exact ih2  (a + 1) (by omega) (lt_s hq (fun y hy => hp y (by omega))) (by omega) _ (lv_sub hl [1, 2, 0] rfl)
            · skip
              refine lv_aload_n hx hb dX1_isFinerThan_16 rfl (lv_at hl 1 rfl) ?_
              refine lv_iload_n hx hb dX1_isFinerThan_17 rfl (lv_at hl 2 rfl) ?_
              refine lv_iload_n hx hb dX1_isFinerThan_18 rfl (lv_at hl 3 rfl) ?_
              refine kx_cr (v := cmpI (((S.2.1 t).2.2.1) a) (((S.2.1 t).2.2.1) b)) (va_runV (As := [.int (nI a), .int (nI b)]) (rest := []) ⟨hx, hb, hml, hown, hts⟩ (m_X1_compared l dC dI ad S t a b ht ho2 (by omega) (by omega)) (cwV 2 hts gX1_isFinerThan_X1_compared rfl rfl rfl hdX1_compared_2 ⟨Nat.le_of_ble_eq_true rfl, Nat.le_of_ble_eq_true rfl⟩) (hX.preOrd ht) rfl rfl hl.1 rfl (lv_room (Nat.le_of_ble_eq_true rfl)) dX1_isFinerThan_19 ⟨Nat.le_of_ble_eq_true rfl, Nat.le_of_ble_eq_true rfl⟩) (fun _ h => h) ?_
              refine kc_if_ge (tgt := 36) hx hb dX1_isFinerThan_22 (by decide) (fun k_3 => ?_) (fun k_3 => ?_)
              · skip
                have h1 := k_3
                refine lv_iinc (v := nI (b + 1)) (lv' := [(3, .int (nI (b + 1))), (0, .ref (ad (24 + 5 * j))), (1, .ref (ad (24 + 5 * t))), (2, .int (nI a))]) hx hb dX1_isFinerThan_36 hl (k := 3) rfl (nI_1 b) (by decide) rfl (fun ls hl => ?_)
                refine lv_goto (tgt := 10) hx hb dX1_isFinerThan_39 (by decide) ?_
                exact ih10  (b + 1) (by omega) (lt_s hp (fun h => absurd h (by omega))) (by omega) _ (lv_sub hl [1, 2, 3, 0] rfl)
              · skip
                have h1 := k_3
                refine lv_aload_n hx hb dX1_isFinerThan_25 rfl (lv_at hl 0 rfl) ?_
                refine lv_iload_n hx hb dX1_isFinerThan_26 rfl (lv_at hl 2 rfl) ?_
                refine lv_iload_n hx hb dX1_isFinerThan_27 rfl (lv_at hl 3 rfl) ?_
                refine kx_cr (v := cmpI (((S.2.1 j).2.2.1) a) (((S.2.1 j).2.2.1) b)) (va_runV (As := [.int (nI a), .int (nI b)]) (rest := []) ⟨hx, hb, hml, hown, hts⟩ (m_X1_compared l dC dI ad S j a b hj ho (by omega) (by omega)) (cwV 2 hts gX1_isFinerThan_X1_compared rfl rfl rfl hdX1_compared_2 ⟨Nat.le_of_ble_eq_true rfl, Nat.le_of_ble_eq_true rfl⟩) (hX.preOrd hj) rfl rfl hl.1 rfl (lv_room (Nat.le_of_ble_eq_true rfl)) dX1_isFinerThan_28 ⟨Nat.le_of_ble_eq_true rfl, Nat.le_of_ble_eq_true rfl⟩) (fun _ h => h) ?_
                refine kc_if_lt (tgt := 36) hx hb dX1_isFinerThan_31 (by decide) (fun k_4 => ?_) (fun k_4 => ?_)
                · skip
                  have h2 := k_4
                  refine lv_iinc (v := nI (b + 1)) (lv' := [(3, .int (nI (b + 1))), (0, .ref (ad (24 + 5 * j))), (1, .ref (ad (24 + 5 * t))), (2, .int (nI a))]) hx hb dX1_isFinerThan_36 hl (k := 3) rfl (nI_1 b) (by decide) rfl (fun ls hl => ?_)
                  refine lv_goto (tgt := 10) hx hb dX1_isFinerThan_39 (by decide) ?_
                  exact ih10  (b + 1) (by omega) (lt_s hp (fun _ => h2)) (by omega) _ (lv_sub hl [1, 2, 3, 0] rfl)
                · skip
                  have h2 := k_4
                  refine lv_iconst (v := nI 0) hx hb dX1_isFinerThan_34 (by decide) ?_
                  exact W.zret (v := bI false) hx hb hr (bI_narrow _) (fun t9 ht9 hW9 => ⟨_, rfl, (kd_f (fun z => absurd (z a (by omega) b (by omega) h1) (by omega))), ht9⟩) (fun _ h => nomatch h) dX1_isFinerThan_35
        exact loop10 (17 + 1) 0 (by omega) (fun y h => absurd h (Nat.not_lt_zero y)) (by omega) _ (lv_sub hl [1, 2, 3, 0] rfl)
  exact loop2 (16 + 1) 0 (by omega) (fun x h => absurd h (Nat.not_lt_zero x)) (by omega) _ (lv_sub hl [1, 2, 0] rfl)
set_option maxHeartbeats 4000000 in
set_option maxRecDepth 100000 in
theorem m_X1_comparesLike (l : Launch) (dC : Nat → ClassId) (dI : Nat → Nat → Nat) (ad : Nat → Nat) (S : XS) (j t : Nat) (hj : j < 6) (ht : t < 6) (ho : ordOK (S.2.1 j)) (ho2 : ordOK (S.2.1 t)) : Met l yX1_comparesLike wsX1_comparesLike ({ frames := 1, cells := 0, slots := 0, locals := 26 } : Room) (va_Pc [.ref (ad (24 + 5 * j)), .ref (ad (24 + 5 * t))] (PX dC dI ad S)) (vp_Si (fun r => r = bI (likeB (S.2.1 j).2.2.1 (S.2.1 t).2.2.1))) 0 0 (fun _ => False) := by
  refine Met.ofW (cc := cX1_comparesLike) (maxL := 4) (ret := (some .boolean)) pl_X1 rfl ?_
  intro p e s m args below meth c s₁ B hml hv
  obtain ⟨rfl, hPX⟩ := hv
  have hx := B.exec
  have hb := B.bytes
  have hr := B.returns
  have hts := atoms_spec (ws := wsX1_comparesLike) B.pre
  have hown : s.vm.findClass RX1 = some m.cls := findClass_of_methodNamed B.named
  have hlocks := B.notSynchronized
  have hX := WX.of hPX
  have hl := lv_entry ([.ref (ad (24 + 5 * j)), .ref (ad (24 + 5 * t))]) (n := 4) (Nat.le_of_ble_eq_true rfl)
  rw [lg_entry_eq]
  generalize (lg_sl ([.ref (ad (24 + 5 * j)), .ref (ad (24 + 5 * t))]) ++ List.replicate (4 - (lg_sl ([.ref (ad (24 + 5 * j)), .ref (ad (24 + 5 * t))])).length) Slot.unset).toArray = ls at hl ⊢
  have hl : lv_has ls 4 [(0, .ref (ad (24 + 5 * j))), (1, .ref (ad (24 + 5 * t)))] := hl
  show W p l e ({ frames := 1, cells := 0, slots := 0, locals := 26 } : Room) s m ([.ref (ad (24 + 5 * j)), .ref (ad (24 + 5 * t))]).toArray below meth c s.heap [] 0 0 (MQ below (vp_Si (fun r => r = bI (likeB (S.2.1 j).2.2.1 (S.2.1 t).2.2.1))) ([.ref (ad (24 + 5 * j)), .ref (ad (24 + 5 * t))]).toArray s 0 0 (fun _ => False)) (F0 m 0 ls [])
  refine lv_iconst (v := nI 0) hx hb dX1_comparesLike_0 (by decide) ?_
  refine lv_istore_n (lv' := [(2, .int (nI 0)), (0, .ref (ad (24 + 5 * j))), (1, .ref (ad (24 + 5 * t)))]) hx hb dX1_comparesLike_1 rfl hl (by decide) rfl (fun ls hl => ?_)
  have loop2 : ∀ (fuel : Nat) (a : Nat) (ha : a ≤ 16) (hq : ∀ x, x < a → ∀ y, y < 16 → x < y → cmpI ((S.2.1 j).2.2.1 x) ((S.2.1 j).2.2.1 y) = cmpI ((S.2.1 t).2.2.1 x) ((S.2.1 t).2.2.1 y)), 16 - a < fuel → ∀ ls : Array Slot, lv_has ls 4 [(0, .ref (ad (24 + 5 * j))), (1, .ref (ad (24 + 5 * t))), (2, .int (nI a))] → W p l e ({ frames := 1, cells := 0, slots := 0, locals := 26 } : Room) s m ([.ref (ad (24 + 5 * j)), .ref (ad (24 + 5 * t))]).toArray below meth c s.heap [] 0 0 (MQ below (vp_Si (fun r => r = bI (likeB (S.2.1 j).2.2.1 (S.2.1 t).2.2.1))) ([.ref (ad (24 + 5 * j)), .ref (ad (24 + 5 * t))]).toArray s 0 0 (fun _ => False)) (F0 m 2 ls []) := by
    intro fuel
    induction fuel with
    | zero => intro a ha hq hf; exact absurd hf (Nat.not_lt_zero _)
    | succ fuel ih2 =>
      intro a ha hq hf ls hl
      refine lv_iload_n hx hb dX1_comparesLike_2 rfl (lv_at hl 2 rfl) ?_
      refine lv_bipush (v := nI 16) hx hb dX1_comparesLike_3 (by decide) ?_
      refine kn_icmp_ge (tgt := 47) hx hb (by omega) (by omega) dX1_comparesLike_5 (by decide) (fun k_1 => ?_) (fun k_1 => ?_)
      · skip
        refine lv_iconst (v := nI 1) hx hb dX1_comparesLike_47 (by decide) ?_
        exact W.zret (v := bI true) hx hb hr (bI_narrow _) (fun t9 ht9 hW9 => ⟨_, rfl, (kd_t (fun x hx9 y hy9 => hq x (by omega) y hy9)), ht9⟩) (fun _ h => nomatch h) dX1_comparesLike_48
      · skip
        refine lv_iload_n hx hb dX1_comparesLike_8 rfl (lv_at hl 2 rfl) ?_
        refine lv_iconst (v := nI 1) hx hb dX1_comparesLike_9 (by decide) ?_
        refine kn_iadd hx hb dX1_comparesLike_10 ?_
        refine lv_istore_n (lv' := [(3, .int (nI (a + 1))), (0, .ref (ad (24 + 5 * j))), (1, .ref (ad (24 + 5 * t))), (2, .int (nI a))]) hx hb dX1_comparesLike_11 rfl hl (by decide) rfl (fun ls hl => ?_)
        have loop12 : ∀ (fuel : Nat) (b : Nat) (hb3 : a < b ∧ b ≤ 17) (hp : ∀ y, y < b → a < y → cmpI ((S.2.1 j).2.2.1 a) ((S.2.1 j).2.2.1 y) = cmpI ((S.2.1 t).2.2.1 a) ((S.2.1 t).2.2.1 y)), 17 - b < fuel → ∀ ls : Array Slot, lv_has ls 4 [(0, .ref (ad (24 + 5 * j))), (1, .ref (ad (24 + 5 * t))), (2, .int (nI a)), (3, .int (nI b))] → W p l e ({ frames := 1, cells := 0, slots := 0, locals := 26 } : Room) s m ([.ref (ad (24 + 5 * j)), .ref (ad (24 + 5 * t))]).toArray below meth c s.heap [] 0 0 (MQ below (vp_Si (fun r => r = bI (likeB (S.2.1 j).2.2.1 (S.2.1 t).2.2.1))) ([.ref (ad (24 + 5 * j)), .ref (ad (24 + 5 * t))]).toArray s 0 0 (fun _ => False)) (F0 m 12 ls []) := by
          intro fuel
          induction fuel with
          | zero => intro b hb3 hp hf; exact absurd hf (Nat.not_lt_zero _)
          | succ fuel ih12 =>
            intro b hb3 hp hf ls hl
            refine lv_iload_n hx hb dX1_comparesLike_12 rfl (lv_at hl 3 rfl) ?_
            refine lv_bipush (v := nI 16) hx hb dX1_comparesLike_13 (by decide) ?_
            refine kn_icmp_ge (tgt := 41) hx hb (by omega) (by omega) dX1_comparesLike_15 (by decide) (fun k_2 => ?_) (fun k_2 => ?_)
            · skip
              refine lv_iinc (v := nI (a + 1)) (lv' := [(2, .int (nI (a + 1))), (0, .ref (ad (24 + 5 * j))), (1, .ref (ad (24 + 5 * t))), (3, .int (nI b))]) hx hb dX1_comparesLike_41 hl (k := 2) rfl (nI_1 a) (by decide) rfl (fun ls hl => ?_)
              refine lv_goto (tgt := 2) hx hb dX1_comparesLike_44 (by decide) ?_
              exact ih2  (a + 1) (by omega) (lt_s hq (fun y hy => hp y (by omega))) (by omega) _ (lv_sub hl [1, 2, 0] rfl)
            · skip
              refine lv_aload_n hx hb dX1_comparesLike_18 rfl (lv_at hl 0 rfl) ?_
              refine lv_iload_n hx hb dX1_comparesLike_19 rfl (lv_at hl 2 rfl) ?_
              refine lv_iload_n hx hb dX1_comparesLike_20 rfl (lv_at hl 3 rfl) ?_
              refine kx_cr (v := cmpI (((S.2.1 j).2.2.1) a) (((S.2.1 j).2.2.1) b)) (va_runV (As := [.int (nI a), .int (nI b)]) (rest := []) ⟨hx, hb, hml, hown, hts⟩ (m_X1_compared l dC dI ad S j a b hj ho (by omega) (by omega)) (cwV 2 hts gX1_comparesLike_X1_compared rfl rfl rfl hdX1_compared_2 ⟨Nat.le_of_ble_eq_true rfl, Nat.le_of_ble_eq_true rfl⟩) (hX.preOrd hj) rfl rfl hl.1 rfl (lv_room (Nat.le_of_ble_eq_true rfl)) dX1_comparesLike_21 ⟨Nat.le_of_ble_eq_true rfl, Nat.le_of_ble_eq_true rfl⟩) (fun _ h => h) ?_
              refine lv_aload_n hx hb dX1_comparesLike_24 rfl (lv_at hl 1 rfl) ?_
              refine lv_iload_n hx hb dX1_comparesLike_25 rfl (lv_at hl 2 rfl) ?_
              refine lv_iload_n hx hb dX1_comparesLike_26 rfl (lv_at hl 3 rfl) ?_
              refine kx_cr (v := cmpI (((S.2.1 t).2.2.1) a) (((S.2.1 t).2.2.1) b)) (va_runV (As := [.int (nI a), .int (nI b)]) (rest := [.int (cmpI (((S.2.1 j).2.2.1) a) (((S.2.1 j).2.2.1) b))]) ⟨hx, hb, hml, hown, hts⟩ (m_X1_compared l dC dI ad S t a b ht ho2 (by omega) (by omega)) (cwV 2 hts gX1_comparesLike_X1_compared rfl rfl rfl hdX1_compared_2 ⟨Nat.le_of_ble_eq_true rfl, Nat.le_of_ble_eq_true rfl⟩) (hX.preOrd ht) rfl rfl hl.1 rfl (lv_room (Nat.le_of_ble_eq_true rfl)) dX1_comparesLike_27 ⟨Nat.le_of_ble_eq_true rfl, Nat.le_of_ble_eq_true rfl⟩) (fun _ h => h) ?_
              refine lv_icmp_eq (tgt := 35) hx hb dX1_comparesLike_30 (by decide) (fun k_3 => ?_) (fun k_3 => ?_)
              · skip
                have h1 := k_3
                refine lv_iinc (v := nI (b + 1)) (lv' := [(3, .int (nI (b + 1))), (0, .ref (ad (24 + 5 * j))), (1, .ref (ad (24 + 5 * t))), (2, .int (nI a))]) hx hb dX1_comparesLike_35 hl (k := 3) rfl (nI_1 b) (by decide) rfl (fun ls hl => ?_)
                refine lv_goto (tgt := 12) hx hb dX1_comparesLike_38 (by decide) ?_
                exact ih12  (b + 1) (by omega) (lt_s hp (fun _ => h1)) (by omega) _ (lv_sub hl [1, 2, 3, 0] rfl)
              · skip
                have h1 := k_3
                refine lv_iconst (v := nI 0) hx hb dX1_comparesLike_33 (by decide) ?_
                exact W.zret (v := bI false) hx hb hr (bI_narrow _) (fun t9 ht9 hW9 => ⟨_, rfl, (kd_f (fun z => h1 (z a (by omega) b (by omega) (by omega)))), ht9⟩) (fun _ h => nomatch h) dX1_comparesLike_34
        exact loop12 (17 + 1) (a + 1) (by omega) (fun y h h2 => absurd h2 (by omega)) (by omega) _ (lv_sub hl [1, 2, 3, 0] rfl)
  exact loop2 (16 + 1) 0 (by omega) (fun x h => absurd h (Nat.not_lt_zero x)) (by omega) _ (lv_sub hl [1, 2, 0] rfl)
set_option maxHeartbeats 4000000 in
set_option maxRecDepth 100000 in
theorem m_X0_areAlikeAlike (l : Launch) (dC : Nat → ClassId) (dI : Nat → Nat → Nat) (ad : Nat → Nat) (S : XS) (j t : Nat) (hj : j < 6) (ht : t < 6) (ho : ordOK (S.2.1 j)) (ho2 : ordOK (S.2.1 t)) : Met l yX0_areAlikeAlike wsX0_areAlikeAlike ({ frames := 1, cells := 0, slots := 0, locals := 26 } : Room) (va_Pc [.ref (ad (24 + 5 * j)), .ref (ad (24 + 5 * t))] (PX dC dI ad S)) (vp_Si (fun r => r = bI (alikeB (S.2.1 j).2.2.1 (S.2.1 t).2.2.1))) 0 0 (fun _ => False) := by
  refine Met.ofW (cc := cX0_areAlikeAlike) (maxL := 4) (ret := (some .boolean)) pl_X0 rfl ?_
  intro p e s m args below meth c s₁ B hml hv
  obtain ⟨rfl, hPX⟩ := hv
  have hx := B.exec
  have hb := B.bytes
  have hr := B.returns
  have hts := atoms_spec (ws := wsX0_areAlikeAlike) B.pre
  have hown : s.vm.findClass RX0 = some m.cls := findClass_of_methodNamed B.named
  have hlocks := B.notSynchronized
  have hX := WX.of hPX
  have hl := lv_entry ([.ref (ad (24 + 5 * j)), .ref (ad (24 + 5 * t))]) (n := 4) (Nat.le_of_ble_eq_true rfl)
  rw [lg_entry_eq]
  generalize (lg_sl ([.ref (ad (24 + 5 * j)), .ref (ad (24 + 5 * t))]) ++ List.replicate (4 - (lg_sl ([.ref (ad (24 + 5 * j)), .ref (ad (24 + 5 * t))])).length) Slot.unset).toArray = ls at hl ⊢
  have hl : lv_has ls 4 [(0, .ref (ad (24 + 5 * j))), (1, .ref (ad (24 + 5 * t)))] := hl
  show W p l e ({ frames := 1, cells := 0, slots := 0, locals := 26 } : Room) s m ([.ref (ad (24 + 5 * j)), .ref (ad (24 + 5 * t))]).toArray below meth c s.heap [] 0 0 (MQ below (vp_Si (fun r => r = bI (alikeB (S.2.1 j).2.2.1 (S.2.1 t).2.2.1))) ([.ref (ad (24 + 5 * j)), .ref (ad (24 + 5 * t))]).toArray s 0 0 (fun _ => False)) (F0 m 0 ls [])
  refine lv_iconst (v := nI 0) hx hb dX0_areAlikeAlike_0 (by decide) ?_
  refine lv_istore_n (lv' := [(2, .int (nI 0)), (0, .ref (ad (24 + 5 * j))), (1, .ref (ad (24 + 5 * t)))]) hx hb dX0_areAlikeAlike_1 rfl hl (by decide) rfl (fun ls hl => ?_)
  have loop2 : ∀ (fuel : Nat) (a : Nat) (ha : a ≤ 16) (hq : ∀ x, x < a → ∀ y, y < 16 → x < y → (S.2.1 j).2.2.1 x = (S.2.1 j).2.2.1 y → (S.2.1 t).2.2.1 x = (S.2.1 t).2.2.1 y), 16 - a < fuel → ∀ ls : Array Slot, lv_has ls 4 [(0, .ref (ad (24 + 5 * j))), (1, .ref (ad (24 + 5 * t))), (2, .int (nI a))] → W p l e ({ frames := 1, cells := 0, slots := 0, locals := 26 } : Room) s m ([.ref (ad (24 + 5 * j)), .ref (ad (24 + 5 * t))]).toArray below meth c s.heap [] 0 0 (MQ below (vp_Si (fun r => r = bI (alikeB (S.2.1 j).2.2.1 (S.2.1 t).2.2.1))) ([.ref (ad (24 + 5 * j)), .ref (ad (24 + 5 * t))]).toArray s 0 0 (fun _ => False)) (F0 m 2 ls []) := by
    intro fuel
    induction fuel with
    | zero => intro a ha hq hf; exact absurd hf (Nat.not_lt_zero _)
    | succ fuel ih2 =>
      intro a ha hq hf ls hl
      refine lv_iload_n hx hb dX0_areAlikeAlike_2 rfl (lv_at hl 2 rfl) ?_
      refine lv_bipush (v := nI 16) hx hb dX0_areAlikeAlike_3 (by decide) ?_
      refine kn_icmp_ge (tgt := 50) hx hb (by omega) (by omega) dX0_areAlikeAlike_5 (by decide) (fun k_1 => ?_) (fun k_1 => ?_)
      · skip
        refine lv_iconst (v := nI 1) hx hb dX0_areAlikeAlike_50 (by decide) ?_
        exact W.zret (v := bI true) hx hb hr (bI_narrow _) (fun t9 ht9 hW9 => ⟨_, rfl, (kd_t (fun x hx9 y hy9 => hq x (by omega) y hy9)), ht9⟩) (fun _ h => nomatch h) dX0_areAlikeAlike_51
      · skip
        refine lv_iload_n hx hb dX0_areAlikeAlike_8 rfl (lv_at hl 2 rfl) ?_
        refine lv_iconst (v := nI 1) hx hb dX0_areAlikeAlike_9 (by decide) ?_
        refine kn_iadd hx hb dX0_areAlikeAlike_10 ?_
        refine lv_istore_n (lv' := [(3, .int (nI (a + 1))), (0, .ref (ad (24 + 5 * j))), (1, .ref (ad (24 + 5 * t))), (2, .int (nI a))]) hx hb dX0_areAlikeAlike_11 rfl hl (by decide) rfl (fun ls hl => ?_)
        have loop12 : ∀ (fuel : Nat) (b : Nat) (hb3 : a < b ∧ b ≤ 17) (hp : ∀ y, y < b → a < y → (S.2.1 j).2.2.1 a = (S.2.1 j).2.2.1 y → (S.2.1 t).2.2.1 a = (S.2.1 t).2.2.1 y), 17 - b < fuel → ∀ ls : Array Slot, lv_has ls 4 [(0, .ref (ad (24 + 5 * j))), (1, .ref (ad (24 + 5 * t))), (2, .int (nI a)), (3, .int (nI b))] → W p l e ({ frames := 1, cells := 0, slots := 0, locals := 26 } : Room) s m ([.ref (ad (24 + 5 * j)), .ref (ad (24 + 5 * t))]).toArray below meth c s.heap [] 0 0 (MQ below (vp_Si (fun r => r = bI (alikeB (S.2.1 j).2.2.1 (S.2.1 t).2.2.1))) ([.ref (ad (24 + 5 * j)), .ref (ad (24 + 5 * t))]).toArray s 0 0 (fun _ => False)) (F0 m 12 ls []) := by
          intro fuel
          induction fuel with
          | zero => intro b hb3 hp hf; exact absurd hf (Nat.not_lt_zero _)
          | succ fuel ih12 =>
            intro b hb3 hp hf ls hl
            refine lv_iload_n hx hb dX0_areAlikeAlike_12 rfl (lv_at hl 3 rfl) ?_
            refine lv_bipush (v := nI 16) hx hb dX0_areAlikeAlike_13 (by decide) ?_
            refine kn_icmp_ge (tgt := 44) hx hb (by omega) (by omega) dX0_areAlikeAlike_15 (by decide) (fun k_2 => ?_) (fun k_2 => ?_)
            · skip
              refine lv_iinc (v := nI (a + 1)) (lv' := [(2, .int (nI (a + 1))), (0, .ref (ad (24 + 5 * j))), (1, .ref (ad (24 + 5 * t))), (3, .int (nI b))]) hx hb dX0_areAlikeAlike_44 hl (k := 2) rfl (nI_1 a) (by decide) rfl (fun ls hl => ?_)
              refine lv_goto (tgt := 2) hx hb dX0_areAlikeAlike_47 (by decide) ?_
              exact ih2  (a + 1) (by omega) (lt_s hq (fun y hy => hp y (by omega))) (by omega) _ (lv_sub hl [1, 2, 0] rfl)
            · skip
              refine lv_aload_n hx hb dX0_areAlikeAlike_18 rfl (lv_at hl 0 rfl) ?_
              refine lv_iload_n hx hb dX0_areAlikeAlike_19 rfl (lv_at hl 2 rfl) ?_
              refine lv_iload_n hx hb dX0_areAlikeAlike_20 rfl (lv_at hl 3 rfl) ?_
              refine kx_cr (v := cmpI (((S.2.1 j).2.2.1) a) (((S.2.1 j).2.2.1) b)) (va_runV (As := [.int (nI a), .int (nI b)]) (rest := []) ⟨hx, hb, hml, hown, hts⟩ (m_X1_compared l dC dI ad S j a b hj ho (by omega) (by omega)) (cwV 2 hts gX0_areAlikeAlike_X1_compared rfl rfl rfl hdX1_compared_2 ⟨Nat.le_of_ble_eq_true rfl, Nat.le_of_ble_eq_true rfl⟩) (hX.preOrd hj) rfl rfl hl.1 rfl (lv_room (Nat.le_of_ble_eq_true rfl)) dX0_areAlikeAlike_21 ⟨Nat.le_of_ble_eq_true rfl, Nat.le_of_ble_eq_true rfl⟩) (fun _ h => h) ?_
              refine kc_if_ne (tgt := 38) hx hb dX0_areAlikeAlike_24 (by decide) (fun k_3 => ?_) (fun k_3 => ?_)
              · skip
                have h1 := k_3
                refine lv_iinc (v := nI (b + 1)) (lv' := [(3, .int (nI (b + 1))), (0, .ref (ad (24 + 5 * j))), (1, .ref (ad (24 + 5 * t))), (2, .int (nI a))]) hx hb dX0_areAlikeAlike_38 hl (k := 3) rfl (nI_1 b) (by decide) rfl (fun ls hl => ?_)
                refine lv_goto (tgt := 12) hx hb dX0_areAlikeAlike_41 (by decide) ?_
                exact ih12  (b + 1) (by omega) (lt_s hp (fun _ h => absurd h h1)) (by omega) _ (lv_sub hl [1, 2, 3, 0] rfl)
              · skip
                have h1 := k_3
                refine lv_aload_n hx hb dX0_areAlikeAlike_27 rfl (lv_at hl 1 rfl) ?_
                refine lv_iload_n hx hb dX0_areAlikeAlike_28 rfl (lv_at hl 2 rfl) ?_
                refine lv_iload_n hx hb dX0_areAlikeAlike_29 rfl (lv_at hl 3 rfl) ?_
                refine kx_cr (v := cmpI (((S.2.1 t).2.2.1) a) (((S.2.1 t).2.2.1) b)) (va_runV (As := [.int (nI a), .int (nI b)]) (rest := []) ⟨hx, hb, hml, hown, hts⟩ (m_X1_compared l dC dI ad S t a b ht ho2 (by omega) (by omega)) (cwV 2 hts gX0_areAlikeAlike_X1_compared rfl rfl rfl hdX1_compared_2 ⟨Nat.le_of_ble_eq_true rfl, Nat.le_of_ble_eq_true rfl⟩) (hX.preOrd ht) rfl rfl hl.1 rfl (lv_room (Nat.le_of_ble_eq_true rfl)) dX0_areAlikeAlike_30 ⟨Nat.le_of_ble_eq_true rfl, Nat.le_of_ble_eq_true rfl⟩) (fun _ h => h) ?_
                refine kc_if_eq (tgt := 38) hx hb dX0_areAlikeAlike_33 (by decide) (fun k_4 => ?_) (fun k_4 => ?_)
                · skip
                  have h2 := k_4
                  refine lv_iinc (v := nI (b + 1)) (lv' := [(3, .int (nI (b + 1))), (0, .ref (ad (24 + 5 * j))), (1, .ref (ad (24 + 5 * t))), (2, .int (nI a))]) hx hb dX0_areAlikeAlike_38 hl (k := 3) rfl (nI_1 b) (by decide) rfl (fun ls hl => ?_)
                  refine lv_goto (tgt := 12) hx hb dX0_areAlikeAlike_41 (by decide) ?_
                  exact ih12  (b + 1) (by omega) (lt_s hp (fun _ _ => h2)) (by omega) _ (lv_sub hl [1, 2, 3, 0] rfl)
                · skip
                  have h2 := k_4
                  refine lv_iconst (v := nI 0) hx hb dX0_areAlikeAlike_36 (by decide) ?_
                  exact W.zret (v := bI false) hx hb hr (bI_narrow _) (fun t9 ht9 hW9 => ⟨_, rfl, (kd_f (fun z => h2 (z a (by omega) b (by omega) (by omega) h1))), ht9⟩) (fun _ h => nomatch h) dX0_areAlikeAlike_37
        exact loop12 (17 + 1) (a + 1) (by omega) (fun y h h2 => absurd h2 (by omega)) (by omega) _ (lv_sub hl [1, 2, 3, 0] rfl)
  exact loop2 (16 + 1) 0 (by omega) (fun x h => absurd h (Nat.not_lt_zero x)) (by omega) _ (lv_sub hl [1, 2, 0] rfl)
set_option maxHeartbeats 4000000 in
set_option maxRecDepth 100000 in
theorem m_X0_isRankOfSome (l : Launch) (dC : Nat → ClassId) (dI : Nat → Nat → Nat) (ad : Nat → Nat) (S : XS) (j k : Nat) (hj : j < 6) (ho : ordOK (S.2.1 j)) (hk : k < 16) : Met l yX0_isRankOfSome wsX0_isRankOfSome ({ frames := 1, cells := 0, slots := 0, locals := 21 } : Room) (va_Pc [.ref (ad (24 + 5 * j)), .int (nI k)] (PX dC dI ad S)) (vp_Si (fun r => r = bI (rankSome (S.2.1 j).2.2.2.1 k))) 0 0 (fun _ => False) := by
  refine Met.ofW (cc := cX0_isRankOfSome) (maxL := 3) (ret := (some .boolean)) pl_X0 rfl ?_
  intro p e s m args below meth c s₁ B hml hv
  obtain ⟨rfl, hPX⟩ := hv
  have hx := B.exec
  have hb := B.bytes
  have hr := B.returns
  have hts := atoms_spec (ws := wsX0_isRankOfSome) B.pre
  have hown : s.vm.findClass RX0 = some m.cls := findClass_of_methodNamed B.named
  have hlocks := B.notSynchronized
  have hX := WX.of hPX
  have hl := lv_entry ([.ref (ad (24 + 5 * j)), .int (nI k)]) (n := 3) (Nat.le_of_ble_eq_true rfl)
  rw [lg_entry_eq]
  generalize (lg_sl ([.ref (ad (24 + 5 * j)), .int (nI k)]) ++ List.replicate (3 - (lg_sl ([.ref (ad (24 + 5 * j)), .int (nI k)])).length) Slot.unset).toArray = ls at hl ⊢
  have hl : lv_has ls 3 [(0, .ref (ad (24 + 5 * j))), (1, .int (nI k))] := hl
  show W p l e ({ frames := 1, cells := 0, slots := 0, locals := 21 } : Room) s m ([.ref (ad (24 + 5 * j)), .int (nI k)]).toArray below meth c s.heap [] 0 0 (MQ below (vp_Si (fun r => r = bI (rankSome (S.2.1 j).2.2.2.1 k))) ([.ref (ad (24 + 5 * j)), .int (nI k)]).toArray s 0 0 (fun _ => False)) (F0 m 0 ls [])
  refine lv_iconst (v := nI 0) hx hb dX0_isRankOfSome_0 (by decide) ?_
  refine lv_istore_n (lv' := [(2, .int (nI 0)), (0, .ref (ad (24 + 5 * j))), (1, .int (nI k))]) hx hb dX0_isRankOfSome_1 rfl hl (by decide) rfl (fun ls hl => ?_)
  have loop2 : ∀ (fuel : Nat) (a : Nat) (ha : a ≤ 16) (hq : ∀ v, v < a → (S.2.1 j).2.2.2.1 v ≠ k), 16 - a < fuel → ∀ ls : Array Slot, lv_has ls 3 [(0, .ref (ad (24 + 5 * j))), (1, .int (nI k)), (2, .int (nI a))] → W p l e ({ frames := 1, cells := 0, slots := 0, locals := 21 } : Room) s m ([.ref (ad (24 + 5 * j)), .int (nI k)]).toArray below meth c s.heap [] 0 0 (MQ below (vp_Si (fun r => r = bI (rankSome (S.2.1 j).2.2.2.1 k))) ([.ref (ad (24 + 5 * j)), .int (nI k)]).toArray s 0 0 (fun _ => False)) (F0 m 2 ls []) := by
    intro fuel
    induction fuel with
    | zero => intro a ha hq hf; exact absurd hf (Nat.not_lt_zero _)
    | succ fuel ih2 =>
      intro a ha hq hf ls hl
      refine lv_iload_n hx hb dX0_isRankOfSome_2 rfl (lv_at hl 2 rfl) ?_
      refine lv_bipush (v := nI 16) hx hb dX0_isRankOfSome_3 (by decide) ?_
      refine kn_icmp_ge (tgt := 25) hx hb (by omega) (by omega) dX0_isRankOfSome_5 (by decide) (fun k_1 => ?_) (fun k_1 => ?_)
      · skip
        refine lv_iconst (v := nI 0) hx hb dX0_isRankOfSome_25 (by decide) ?_
        exact W.zret (v := bI false) hx hb hr (bI_narrow _) (fun t9 ht9 hW9 => ⟨_, rfl, (kd_f (fun ⟨q, h1, h2⟩ => hq q (by omega) h2)), ht9⟩) (fun _ h => nomatch h) dX0_isRankOfSome_26
      · skip
        refine lv_aload_n hx hb dX0_isRankOfSome_8 rfl (lv_at hl 0 rfl) ?_
        refine lv_iload_n hx hb dX0_isRankOfSome_9 rfl (lv_at hl 2 rfl) ?_
        refine kx_cr (v := nI (((S.2.1 j).2.2.2.1) a)) (va_runV (As := [.int (nI a)]) (rest := []) ⟨hx, hb, hml, hown, hts⟩ (m_X1_rankOf l dC dI ad S j a hj (by omega)) (cwV 1 hts gX0_isRankOfSome_X1_rankOf rfl rfl rfl hdX1_rankOf_1 ⟨Nat.le_of_ble_eq_true rfl, Nat.le_of_ble_eq_true rfl⟩) (hX.preOrd hj) rfl rfl hl.1 rfl (lv_room (Nat.le_of_ble_eq_true rfl)) dX0_isRankOfSome_10 ⟨Nat.le_of_ble_eq_true rfl, Nat.le_of_ble_eq_true rfl⟩) (fun _ h => h) ?_
        refine lv_iload_n hx hb dX0_isRankOfSome_13 rfl (lv_at hl 1 rfl) ?_
        have h1 := ho.2.2.1 a (by omega)
        have h2 := rankC_le (codeOf (S.2.1 j).1 (S.2.1 j).2.1 (S.2.1 j).2.2.2.2.1) a
        refine kn_icmp_ne (tgt := 19) hx hb (by omega) (by omega) dX0_isRankOfSome_14 (by decide) (fun k_2 => ?_) (fun k_2 => ?_)
        · skip
          have hc := k_2
          refine lv_iinc (v := nI (a + 1)) (lv' := [(2, .int (nI (a + 1))), (0, .ref (ad (24 + 5 * j))), (1, .int (nI k))]) hx hb dX0_isRankOfSome_19 hl (k := 2) rfl (nI_1 a) (by decide) rfl (fun ls hl => ?_)
          refine lv_goto (tgt := 2) hx hb dX0_isRankOfSome_22 (by decide) ?_
          exact ih2  (a + 1) (by omega) (lt_s hq hc) (by omega) _ (lv_sub hl [1, 2, 0] rfl)
        · skip
          have hc := k_2
          refine lv_iconst (v := nI 1) hx hb dX0_isRankOfSome_17 (by decide) ?_
          exact W.zret (v := bI true) hx hb hr (bI_narrow _) (fun t9 ht9 hW9 => ⟨_, rfl, (kd_t ⟨a, by omega, hc⟩), ht9⟩) (fun _ h => nomatch h) dX0_isRankOfSome_18
  exact loop2 (16 + 1) 0 (by omega) (fun q h => absurd h (Nat.not_lt_zero q)) (by omega) _ (lv_sub hl [1, 2, 0] rfl)
set_option maxHeartbeats 4000000 in
set_option maxRecDepth 100000 in
theorem m_X0_areRanksAsClasses (l : Launch) (dC : Nat → ClassId) (dI : Nat → Nat → Nat) (ad : Nat → Nat) (S : XS) (j : Nat) (hj : j < 6) (ho : ordOK (S.2.1 j)) : Met l yX0_areRanksAsClasses wsX0_areRanksAsClasses ({ frames := 2, cells := 0, slots := 0, locals := 43 } : Room) (va_Pc [.ref (ad 56), .ref (ad (24 + 5 * j))] (PX dC dI ad S)) (vp_Si (fun r => r = bI (decide (cntB (rankSome (S.2.1 j).2.2.2.1) 16 = (S.2.1 j).2.2.2.2.2)))) 0 0 (fun _ => False) := by
  refine Met.ofW (cc := cX0_areRanksAsClasses) (maxL := 4) (ret := (some .boolean)) pl_X0 rfl ?_
  intro p e s m args below meth c s₁ B hml hv
  obtain ⟨rfl, hPX⟩ := hv
  have hx := B.exec
  have hb := B.bytes
  have hr := B.returns
  have hts := atoms_spec (ws := wsX0_areRanksAsClasses) B.pre
  have hown : s.vm.findClass RX0 = some m.cls := findClass_of_methodNamed B.named
  have hlocks := B.notSynchronized
  have hX := WX.of hPX
  have hl := lv_entry ([.ref (ad 56), .ref (ad (24 + 5 * j))]) (n := 4) (Nat.le_of_ble_eq_true rfl)
  rw [lg_entry_eq]
  generalize (lg_sl ([.ref (ad 56), .ref (ad (24 + 5 * j))]) ++ List.replicate (4 - (lg_sl ([.ref (ad 56), .ref (ad (24 + 5 * j))])).length) Slot.unset).toArray = ls at hl ⊢
  have hl : lv_has ls 4 [(0, .ref (ad 56)), (1, .ref (ad (24 + 5 * j)))] := hl
  show W p l e ({ frames := 2, cells := 0, slots := 0, locals := 43 } : Room) s m ([.ref (ad 56), .ref (ad (24 + 5 * j))]).toArray below meth c s.heap [] 0 0 (MQ below (vp_Si (fun r => r = bI (decide (cntB (rankSome (S.2.1 j).2.2.2.1) 16 = (S.2.1 j).2.2.2.2.2)))) ([.ref (ad 56), .ref (ad (24 + 5 * j))]).toArray s 0 0 (fun _ => False)) (F0 m 0 ls [])
  have hcl : (S.2.1 j).2.2.2.2.2 ≤ 16 := by rw [ho.2.2.2]; exact classC_le _
  refine lv_iconst (v := nI 0) hx hb dX0_areRanksAsClasses_0 (by decide) ?_
  refine lv_istore_n (lv' := [(2, .int (nI 0)), (0, .ref (ad 56)), (1, .ref (ad (24 + 5 * j)))]) hx hb dX0_areRanksAsClasses_1 rfl hl (by decide) rfl (fun ls hl => ?_)
  refine lv_iconst (v := nI 0) hx hb dX0_areRanksAsClasses_2 (by decide) ?_
  refine lv_istore_n (lv' := [(3, .int (nI 0)), (2, .int (nI 0)), (0, .ref (ad 56)), (1, .ref (ad (24 + 5 * j)))]) hx hb dX0_areRanksAsClasses_3 rfl hl (by decide) rfl (fun ls hl => ?_)
  have loop4 : ∀ (fuel : Nat) (q k : Nat) (hk : k ≤ 16) (hq : q = cntB (rankSome (S.2.1 j).2.2.2.1) k), 16 - k < fuel → ∀ ls : Array Slot, lv_has ls 4 [(0, .ref (ad 56)), (1, .ref (ad (24 + 5 * j))), (2, .int (nI q)), (3, .int (nI k))] → W p l e ({ frames := 2, cells := 0, slots := 0, locals := 43 } : Room) s m ([.ref (ad 56), .ref (ad (24 + 5 * j))]).toArray below meth c s.heap [] 0 0 (MQ below (vp_Si (fun r => r = bI (decide (cntB (rankSome (S.2.1 j).2.2.2.1) 16 = (S.2.1 j).2.2.2.2.2)))) ([.ref (ad 56), .ref (ad (24 + 5 * j))]).toArray s 0 0 (fun _ => False)) (F0 m 4 ls []) := by
    intro fuel
    induction fuel with
    | zero => intro q k hk hq hf; exact absurd hf (Nat.not_lt_zero _)
    | succ fuel ih4 =>
      intro q k hk hq hf ls hl
      refine lv_iload_n hx hb dX0_areRanksAsClasses_4 rfl (lv_at hl 3 rfl) ?_
      refine lv_bipush (v := nI 16) hx hb dX0_areRanksAsClasses_5 (by decide) ?_
      refine kn_icmp_ge (tgt := 27) hx hb (by omega) (by omega) dX0_areRanksAsClasses_7 (by decide) (fun k_1 => ?_) (fun k_1 => ?_)
      · skip
        refine lv_iload_n hx hb dX0_areRanksAsClasses_27 rfl (lv_at hl 2 rfl) ?_
        refine lv_aload_n hx hb dX0_areRanksAsClasses_28 rfl (lv_at hl 1 rfl) ?_
        refine kx_cr (v := nI ((S.2.1 j).2.2.2.2.2)) (va_runV (As := []) (rest := [.int (nI q)]) ⟨hx, hb, hml, hown, hts⟩ (m_X1_classCount l dC dI ad S j  hj) (cwV 0 hts gX0_areRanksAsClasses_X1_classCount rfl rfl rfl hdX1_classCount_0 ⟨Nat.le_of_ble_eq_true rfl, Nat.le_of_ble_eq_true rfl⟩) (hX.preOrd hj) rfl rfl hl.1 rfl (lv_room (Nat.le_of_ble_eq_true rfl)) dX0_areRanksAsClasses_29 ⟨Nat.le_of_ble_eq_true rfl, Nat.le_of_ble_eq_true rfl⟩) (fun _ h => h) ?_
        have h9 := cntB_le (rankSome (S.2.1 j).2.2.2.1) k
        refine kn_icmp_ne (tgt := 39) hx hb (by omega) (by omega) dX0_areRanksAsClasses_32 (by decide) (fun k_2 => ?_) (fun k_2 => ?_)
        · skip
          have hd := k_2
          refine lv_iconst (v := bI false) hx hb dX0_areRanksAsClasses_39 (by decide) ?_
          exact W.zret (v := bI false) hx hb hr (bI_narrow _) (fun t9 ht9 hW9 => ⟨_, rfl, (kd_f (by rw [show (16 : Nat) = k by omega, ← hq]; exact hd)), ht9⟩) (fun _ h => nomatch h) dX0_areRanksAsClasses_40
        · skip
          have hd := k_2
          refine lv_iconst (v := bI true) hx hb dX0_areRanksAsClasses_35 (by decide) ?_
          refine lv_goto (tgt := 40) hx hb dX0_areRanksAsClasses_36 (by decide) ?_
          exact W.zret (v := bI true) hx hb hr (bI_narrow _) (fun t9 ht9 hW9 => ⟨_, rfl, (kd_t (by rw [show (16 : Nat) = k by omega, ← hq]; exact hd)), ht9⟩) (fun _ h => nomatch h) dX0_areRanksAsClasses_40
      · skip
        refine lv_aload_n hx hb dX0_areRanksAsClasses_10 rfl (lv_at hl 1 rfl) ?_
        refine lv_iload_n hx hb dX0_areRanksAsClasses_11 rfl (lv_at hl 3 rfl) ?_
        refine kx_cr (v := bI (rankSome (S.2.1 j).2.2.2.1 k)) (va_runS (As := [.ref (ad (24 + 5 * j)), .int (nI k)]) (rest := []) ⟨hx, hb, hml, hown, hts⟩ (m_X0_isRankOfSome l dC dI ad S j k hj ho (by omega)) (va_cwS 2 hts gX0_areRanksAsClasses_X0_isRankOfSome rfl rfl rfl hdX0_isRankOfSome_2.2 ⟨Nat.le_of_ble_eq_true rfl, Nat.le_of_ble_eq_true rfl⟩) hX.preS rfl rfl hl.1 rfl (lv_room (Nat.le_of_ble_eq_true rfl)) dX0_areRanksAsClasses_12 ⟨Nat.le_of_ble_eq_true rfl, Nat.le_of_ble_eq_true rfl⟩) (fun _ h => h) ?_
        refine kb_if_eq (tgt := 21) hx hb dX0_areRanksAsClasses_15 (by decide) (fun k_3 => ?_) (fun k_3 => ?_)
        · skip
          have hc := k_3
          refine lv_iinc (v := nI (k + 1)) (lv' := [(3, .int (nI (k + 1))), (0, .ref (ad 56)), (1, .ref (ad (24 + 5 * j))), (2, .int (nI q))]) hx hb dX0_areRanksAsClasses_21 hl (k := 3) rfl (nI_1 k) (by decide) rfl (fun ls hl => ?_)
          refine lv_goto (tgt := 4) hx hb dX0_areRanksAsClasses_24 (by decide) ?_
          exact ih4  q (k + 1) (by omega) (by rw [cntB_f hc, hq]) (by omega) _ (lv_sub hl [1, 2, 3, 0] rfl)
        · skip
          have hc := k_3
          refine lv_iinc (v := nI (q + 1)) (lv' := [(2, .int (nI (q + 1))), (0, .ref (ad 56)), (1, .ref (ad (24 + 5 * j))), (3, .int (nI k))]) hx hb dX0_areRanksAsClasses_18 hl (k := 2) rfl (nI_1 q) (by decide) rfl (fun ls hl => ?_)
          refine lv_iinc (v := nI (k + 1)) (lv' := [(3, .int (nI (k + 1))), (2, .int (nI (q + 1))), (0, .ref (ad 56)), (1, .ref (ad (24 + 5 * j)))]) hx hb dX0_areRanksAsClasses_21 hl (k := 3) rfl (nI_1 k) (by decide) rfl (fun ls hl => ?_)
          refine lv_goto (tgt := 4) hx hb dX0_areRanksAsClasses_24 (by decide) ?_
          exact ih4  (q + 1) (k + 1) (by omega) (by rw [cntB_t hc, hq]) (by omega) _ (lv_sub hl [2, 3, 1, 0] rfl)
  exact loop4 (16 + 1) 0 0 (by omega) rfl (by omega) _ (lv_sub hl [2, 3, 1, 0] rfl)
set_option maxHeartbeats 4000000 in
set_option maxRecDepth 100000 in
theorem m_X0_areSignsTurned (l : Launch) (dC : Nat → ClassId) (dI : Nat → Nat → Nat) (ad : Nat → Nat) (S : XS) (j : Nat) (hj : j < 6) (ho : ordOK (S.2.1 j)) : Met l yX0_areSignsTurned wsX0_areSignsTurned ({ frames := 1, cells := 0, slots := 0, locals := 26 } : Room) (va_Pc [.ref (ad 56), .ref (ad (24 + 5 * j))] (PX dC dI ad S)) (vp_Si (fun r => r = bI true)) 0 0 (fun _ => False) := by
  refine Met.ofW (cc := cX0_areSignsTurned) (maxL := 4) (ret := (some .boolean)) pl_X0 rfl ?_
  intro p e s m args below meth c s₁ B hml hv
  obtain ⟨rfl, hPX⟩ := hv
  have hx := B.exec
  have hb := B.bytes
  have hr := B.returns
  have hts := atoms_spec (ws := wsX0_areSignsTurned) B.pre
  have hown : s.vm.findClass RX0 = some m.cls := findClass_of_methodNamed B.named
  have hlocks := B.notSynchronized
  have hX := WX.of hPX
  have hl := lv_entry ([.ref (ad 56), .ref (ad (24 + 5 * j))]) (n := 4) (Nat.le_of_ble_eq_true rfl)
  rw [lg_entry_eq]
  generalize (lg_sl ([.ref (ad 56), .ref (ad (24 + 5 * j))]) ++ List.replicate (4 - (lg_sl ([.ref (ad 56), .ref (ad (24 + 5 * j))])).length) Slot.unset).toArray = ls at hl ⊢
  have hl : lv_has ls 4 [(0, .ref (ad 56)), (1, .ref (ad (24 + 5 * j)))] := hl
  show W p l e ({ frames := 1, cells := 0, slots := 0, locals := 26 } : Room) s m ([.ref (ad 56), .ref (ad (24 + 5 * j))]).toArray below meth c s.heap [] 0 0 (MQ below (vp_Si (fun r => r = bI true)) ([.ref (ad 56), .ref (ad (24 + 5 * j))]).toArray s 0 0 (fun _ => False)) (F0 m 0 ls [])
  refine lv_iconst (v := nI 0) hx hb dX0_areSignsTurned_0 (by decide) ?_
  refine lv_istore_n (lv' := [(2, .int (nI 0)), (0, .ref (ad 56)), (1, .ref (ad (24 + 5 * j)))]) hx hb dX0_areSignsTurned_1 rfl hl (by decide) rfl (fun ls hl => ?_)
  have loop2 : ∀ (fuel : Nat) (a : Nat) (ha : a ≤ 16), 16 - a < fuel → ∀ ls : Array Slot, lv_has ls 4 [(0, .ref (ad 56)), (1, .ref (ad (24 + 5 * j))), (2, .int (nI a))] → W p l e ({ frames := 1, cells := 0, slots := 0, locals := 26 } : Room) s m ([.ref (ad 56), .ref (ad (24 + 5 * j))]).toArray below meth c s.heap [] 0 0 (MQ below (vp_Si (fun r => r = bI true)) ([.ref (ad 56), .ref (ad (24 + 5 * j))]).toArray s 0 0 (fun _ => False)) (F0 m 2 ls []) := by
    intro fuel
    induction fuel with
    | zero => intro a ha hf; exact absurd hf (Nat.not_lt_zero _)
    | succ fuel ih2 =>
      intro a ha hf ls hl
      refine lv_iload_n hx hb dX0_areSignsTurned_2 rfl (lv_at hl 2 rfl) ?_
      refine lv_bipush (v := nI 16) hx hb dX0_areSignsTurned_3 (by decide) ?_
      refine kn_icmp_ge (tgt := 46) hx hb (by omega) (by omega) dX0_areSignsTurned_5 (by decide) (fun k_1 => ?_) (fun k_1 => ?_)
      · skip
        refine lv_iconst (v := nI 1) hx hb dX0_areSignsTurned_46 (by decide) ?_
        exact W.zret (v := bI true) hx hb hr (bI_narrow _) (fun t9 ht9 hW9 => ⟨_, rfl, rfl, ht9⟩) (fun _ h => nomatch h) dX0_areSignsTurned_47
      · skip
        refine lv_iconst (v := nI 0) hx hb dX0_areSignsTurned_8 (by decide) ?_
        refine lv_istore_n (lv' := [(3, .int (nI 0)), (0, .ref (ad 56)), (1, .ref (ad (24 + 5 * j))), (2, .int (nI a))]) hx hb dX0_areSignsTurned_9 rfl hl (by decide) rfl (fun ls hl => ?_)
        have loop10 : ∀ (fuel : Nat) (b : Nat) (hb3 : b ≤ 16), 16 - b < fuel → ∀ ls : Array Slot, lv_has ls 4 [(0, .ref (ad 56)), (1, .ref (ad (24 + 5 * j))), (2, .int (nI a)), (3, .int (nI b))] → W p l e ({ frames := 1, cells := 0, slots := 0, locals := 26 } : Room) s m ([.ref (ad 56), .ref (ad (24 + 5 * j))]).toArray below meth c s.heap [] 0 0 (MQ below (vp_Si (fun r => r = bI true)) ([.ref (ad 56), .ref (ad (24 + 5 * j))]).toArray s 0 0 (fun _ => False)) (F0 m 10 ls []) := by
          intro fuel
          induction fuel with
          | zero => intro b hb3 hf; exact absurd hf (Nat.not_lt_zero _)
          | succ fuel ih10 =>
            intro b hb3 hf ls hl
            refine lv_iload_n hx hb dX0_areSignsTurned_10 rfl (lv_at hl 3 rfl) ?_
            refine lv_bipush (v := nI 16) hx hb dX0_areSignsTurned_11 (by decide) ?_
            refine kn_icmp_ge (tgt := 40) hx hb (by omega) (by omega) dX0_areSignsTurned_13 (by decide) (fun k_2 => ?_) (fun k_2 => ?_)
            · skip
              refine lv_iinc (v := nI (a + 1)) (lv' := [(2, .int (nI (a + 1))), (0, .ref (ad 56)), (1, .ref (ad (24 + 5 * j))), (3, .int (nI b))]) hx hb dX0_areSignsTurned_40 hl (k := 2) rfl (nI_1 a) (by decide) rfl (fun ls hl => ?_)
              refine lv_goto (tgt := 2) hx hb dX0_areSignsTurned_43 (by decide) ?_
              exact ih2  (a + 1) (by omega) (by omega) _ (lv_sub hl [1, 2, 0] rfl)
            · skip
              refine lv_aload_n hx hb dX0_areSignsTurned_16 rfl (lv_at hl 1 rfl) ?_
              refine lv_iload_n hx hb dX0_areSignsTurned_17 rfl (lv_at hl 2 rfl) ?_
              refine lv_iload_n hx hb dX0_areSignsTurned_18 rfl (lv_at hl 3 rfl) ?_
              refine kx_cr (v := cmpI (((S.2.1 j).2.2.1) a) (((S.2.1 j).2.2.1) b)) (va_runV (As := [.int (nI a), .int (nI b)]) (rest := []) ⟨hx, hb, hml, hown, hts⟩ (m_X1_compared l dC dI ad S j a b hj ho (by omega) (by omega)) (cwV 2 hts gX0_areSignsTurned_X1_compared rfl rfl rfl hdX1_compared_2 ⟨Nat.le_of_ble_eq_true rfl, Nat.le_of_ble_eq_true rfl⟩) (hX.preOrd hj) rfl rfl hl.1 rfl (lv_room (Nat.le_of_ble_eq_true rfl)) dX0_areSignsTurned_19 ⟨Nat.le_of_ble_eq_true rfl, Nat.le_of_ble_eq_true rfl⟩) (fun _ h => h) ?_
              refine lv_aload_n hx hb dX0_areSignsTurned_22 rfl (lv_at hl 1 rfl) ?_
              refine lv_iload_n hx hb dX0_areSignsTurned_23 rfl (lv_at hl 3 rfl) ?_
              refine lv_iload_n hx hb dX0_areSignsTurned_24 rfl (lv_at hl 2 rfl) ?_
              refine kx_cr (v := cmpI (((S.2.1 j).2.2.1) b) (((S.2.1 j).2.2.1) a)) (va_runV (As := [.int (nI b), .int (nI a)]) (rest := [.int (cmpI (((S.2.1 j).2.2.1) a) (((S.2.1 j).2.2.1) b))]) ⟨hx, hb, hml, hown, hts⟩ (m_X1_compared l dC dI ad S j b a hj ho (by omega) (by omega)) (cwV 2 hts gX0_areSignsTurned_X1_compared rfl rfl rfl hdX1_compared_2 ⟨Nat.le_of_ble_eq_true rfl, Nat.le_of_ble_eq_true rfl⟩) (hX.preOrd hj) rfl rfl hl.1 rfl (lv_room (Nat.le_of_ble_eq_true rfl)) dX0_areSignsTurned_25 ⟨Nat.le_of_ble_eq_true rfl, Nat.le_of_ble_eq_true rfl⟩) (fun _ h => h) ?_
              refine lv_ineg hx hb dX0_areSignsTurned_28 ?_
              refine lv_icmp_eq (tgt := 34) hx hb dX0_areSignsTurned_29 (by decide) (fun k_3 => ?_) (fun k_3 => absurd (cmpI_neg _ _).symm k_3)
              refine lv_iinc (v := nI (b + 1)) (lv' := [(3, .int (nI (b + 1))), (0, .ref (ad 56)), (1, .ref (ad (24 + 5 * j))), (2, .int (nI a))]) hx hb dX0_areSignsTurned_34 hl (k := 3) rfl (nI_1 b) (by decide) rfl (fun ls hl => ?_)
              refine lv_goto (tgt := 10) hx hb dX0_areSignsTurned_37 (by decide) ?_
              exact ih10  (b + 1) (by omega) (by omega) _ (lv_sub hl [1, 2, 3, 0] rfl)
        exact loop10 (16 + 1) 0 (by omega) (by omega) _ (lv_sub hl [1, 2, 3, 0] rfl)
  exact loop2 (16 + 1) 0 (by omega) (by omega) _ (lv_sub hl [1, 2, 0] rfl)
