/-! the reference: near, and orders changed -/
theorem ordM_add {o : OrdM} (h : ordM o) (hn : o.2.2 < 5) {k : Nat} (hk : k < 8) {z : Bool} : ordM (va_up o.1 o.2.2 k, va_up o.2.1 o.2.2 z, o.2.2 + 1) :=
  ⟨hn, fun q hq => by
    show va_up o.1 o.2.2 k q < 8
    unfold va_up
    split
    · exact hk
    · exact h.2 q hq⟩
theorem turn_f {D : Nat → Bool} {a : Nat} (h : D a = true) : va_up (ovl (fun k => !D k) D a) a false = ovl (fun k => !D k) D (a + 1) := by
  have e := ovl_up (fun k => !D k) D a
  rw [h] at e
  exact e
theorem turn_t {D : Nat → Bool} {a : Nat} (h : D a = false) : va_up (ovl (fun k => !D k) D a) a true = ovl (fun k => !D k) D (a + 1) := by
  have e := ovl_up (fun k => !D k) D a
  rw [h] at e
  exact e
/-- what stands behind one another -/
def prK {α : Type} (f g : Nat → α) (n x : Nat) : α := if x < n then f x else g (x - n)
theorem prK_lo {α : Type} {f g : Nat → α} {n x : Nat} (h : x < n) : prK f g n x = f x := if_pos h
theorem prK_hi {α : Type} {f g : Nat → α} {n x : Nat} (h : n ≤ x) : prK f g n x = g (x - n) := if_neg (by omega)
theorem upd_p {α : Type} {f g : Nat → α} {a : Nat} {v : α} (h : ∀ x, x < a → f x = g x) (hv : v = g a) : ∀ x, x < a + 1 → va_up f a v x = g x := fun x hx => by
  unfold va_up
  split
  · rename_i e; rw [e, hv]
  · exact h x (by omega)
theorem ordM_prod {o1 o2 o3 : OrdM} (h1 : ordM o1) (h2 : ordM o2) (h3 : ordM o3) (hn : o1.2.2 + o2.2.2 ≤ 5) {D : Nat → Bool} : ordM (ovl (prK o1.1 o2.1 o1.2.2) o3.1 (o1.2.2 + o2.2.2), D, o1.2.2 + o2.2.2) :=
  ⟨hn, fun q hq => by
    show ovl (prK o1.1 o2.1 o1.2.2) o3.1 (o1.2.2 + o2.2.2) q < 8
    unfold ovl
    split
    · unfold prK
      split
      · exact h1.2 q hq
      · exact h2.2 _ (by omega)
    · exact h3.2 q hq⟩
def coaM (M : MS) (j k : Nat) : Nat := classC (codeOf (va_up (M.2.1 j).1 (M.2.1 j).2.2 k) (va_up (M.2.1 j).2.1 (M.2.1 j).2.2 false) ((M.2.1 j).2.2 + 1))
theorem coa_eq {M : MS} {j k : Nat} {K9 : Nat → Nat} {D9 : Nat → Bool} (h : ∀ x, x < (M.2.1 j).2.2 → K9 x = (M.2.1 j).1 x ∧ D9 x = (M.2.1 j).2.1 x) : classC (codeOf (va_up K9 (M.2.1 j).2.2 k) (va_up D9 (M.2.1 j).2.2 false) ((M.2.1 j).2.2 + 1)) = coaM M j k := by
  refine classC_cong (fun v _ => codeOf_cong (fun q hq => ?_))
  unfold va_up
  by_cases e : q = (M.2.1 j).2.2
  · rw [if_pos e, if_pos e, if_pos e, if_pos e]; exact ⟨rfl, rfl⟩
  · rw [if_neg e, if_neg e, if_neg e, if_neg e]
    exact h q (by omega)
theorem ordM_up {o : OrdM} {K9 : Nat → Nat} {D9 D8 : Nat → Bool} {k : Nat} (h : ordM (K9, D9, o.2.2)) (hk : k < 8) : ordM (va_up K9 o.2.2 k, D8, o.2.2) :=
  ⟨h.1, fun q hq => by
    show va_up K9 o.2.2 k q < 8
    unfold va_up
    split
    · exact hk
    · exact h.2 q hq⟩
theorem copyO_size (M : MS) (i i2 : Nat) (f : Nat → Nat) (g : Nat → Bool) {n0 : Nat × Nat × Nat × Nat} : ((mO (mN M n0) i2 (f, g, (M.2.1 i2).2.2)).2.1 i).2.2 = (M.2.1 i).2.2 := by
  by_cases h : i = i2
  · subst h; rw [mO_ord]
  · rw [mO_ne _ _ h]; rfl
theorem copyO_k (M : MS) (i i2 a : Nat) (g : Nat → Bool) (n : Nat) {n0 : Nat × Nat × Nat × Nat} : ((mO (mN M n0) i2 (ovl (M.2.1 i).1 (M.2.1 i2).1 a, g, n)).2.1 i).1 a = (M.2.1 i).1 a := by
  by_cases h : i = i2
  · subst h; rw [mO_ord]; exact ovl_out (Nat.le_refl a)
  · rw [mO_ne _ _ h]; rfl
theorem copyO_d (M : MS) (i i2 a : Nat) (f : Nat → Nat) (n : Nat) {n0 : Nat × Nat × Nat × Nat} : ((mO (mN M n0) i2 (f, ovl (M.2.1 i).2.1 (M.2.1 i2).2.1 a, n)).2.1 i).2.1 a = (M.2.1 i).2.1 a := by
  by_cases h : i = i2
  · subst h; rw [mO_ord]; exact ovl_out (Nat.le_refl a)
  · rw [mO_ne _ _ h]; rfl
theorem cM_mO {M : MS} {j : Nat} {o : OrdM} : cM (mO M j o) j = codeOf o.1 o.2.1 o.2.2 := by
  unfold cM
  rw [mO_ord]
set_option maxHeartbeats 4000000 in
set_option maxRecDepth 100000 in
theorem m_X6_near0 (l : Launch) (dC : Nat → ClassId) (dI : Nat → Nat → Nat) (am : Nat → Nat) (M : MS) (i j v : Nat) (hi : i < 3) (hj : j < 4) (hv : v < 16) (hI : InvM M) : Met l yX6_near wsX6_near ({ frames := 2, cells := 0, slots := 0, locals := 47 } : Room) (va_Pc [.ref (am 0), .int (nI i), .int (nI j), .int (nI v), .int (nI 0)] (PM dC dI am M)) (va_Qi (fun r M' => r = exI (bestB (fun x => sideB 0 ((cM M j) ((M.1 i).1 x)) ((cM M j) v)) (fun a b => nearB 0 ((cM M j) ((M.1 i).1 a)) ((cM M j) ((M.1 i).1 b))) (M.1 i).2.2) (M.1 i).2.1 ∧ M' = thM M 0) (PM dC dI am) (AM am)) 0 0 (AM am) := by
  refine Met.ofW (cc := cX6_near) (maxL := 10) (ret := (some .int)) pl_X6 rfl ?_
  intro p e s m args below meth c s₁ B hml hv
  obtain ⟨rfl, hPX⟩ := hv
  have hx := B.exec
  have hb := B.bytes
  have hr := B.returns
  have hts := atoms_spec (ws := wsX6_near) B.pre
  have hown : s.vm.findClass RX6 = some m.cls := findClass_of_methodNamed B.named
  have hlocks := B.notSynchronized
  have hin6 : ∀ w ∈ u_ws RX6 TX6 10, w ∈ wsX6_near := tu 1331 (by decide +kernel) rfl
  have hX := WM.of hPX
  have hl := lv_entry ([.ref (am 0), .int (nI i), .int (nI j), .int (nI v), .int (nI 0)]) (n := 10) (Nat.le_of_ble_eq_true rfl)
  rw [lg_entry_eq]
  generalize (lg_sl ([.ref (am 0), .int (nI i), .int (nI j), .int (nI v), .int (nI 0)]) ++ List.replicate (10 - (lg_sl ([.ref (am 0), .int (nI i), .int (nI j), .int (nI v), .int (nI 0)])).length) Slot.unset).toArray = ls at hl ⊢
  have hl : lv_has ls 10 [(0, .ref (am 0)), (1, .int (nI i)), (2, .int (nI j)), (3, .int (nI v)), (4, .int (nI 0))] := hl
  show W p l e ({ frames := 2, cells := 0, slots := 0, locals := 47 } : Room) s m ([.ref (am 0), .int (nI i), .int (nI j), .int (nI v), .int (nI 0)]).toArray below meth c s.heap [] 0 0 (MQ below (va_Qi (fun r M' => r = exI (bestB (fun x => sideB 0 ((cM M j) ((M.1 i).1 x)) ((cM M j) v)) (fun a b => nearB 0 ((cM M j) ((M.1 i).1 a)) ((cM M j) ((M.1 i).1 b))) (M.1 i).2.2) (M.1 i).2.1 ∧ M' = thM M 0) (PM dC dI am) (AM am)) ([.ref (am 0), .int (nI i), .int (nI j), .int (nI v), .int (nI 0)]).toArray s 0 0 (AM am)) (F0 m 0 ls [])
  have hn := (hI.1 i (by omega)).1
  refine lv_aload_n hx hb dX6_near_0 rfl (lv_at hl 0 rfl) ?_
  refine lv_iload_n hx hb dX6_near_1 rfl (lv_at hl 1 rfl) ?_
  refine kx_cr (v := bI false) (va_runS (As := [.int (nI i)]) (rest := [.ref (am 0)]) ⟨hx, hb, hml, hown, hts⟩ (m_X6_isNoRow l dC dI am M (nI i)) (va_cwS 1 hts gX6_near_X6_isNoRow rfl rfl rfl hdX6_isNoRow_1.2 ⟨Nat.le_of_ble_eq_true rfl, Nat.le_of_ble_eq_true rfl⟩) hX.preS rfl rfl hl.1 rfl (lv_room (Nat.le_of_ble_eq_true rfl)) dX6_near_2 ⟨Nat.le_of_ble_eq_true rfl, Nat.le_of_ble_eq_true rfl⟩) (fun _ h => h.trans (isNo_ok (by omega) (by omega))) ?_
  refine kb_if_ne (tgt := 15) hx hb dX6_near_5 (by decide) (fun k_1 => absurd k_1 (by decide)) (fun k_1 => ?_)
  refine lv_iload_n hx hb dX6_near_8 rfl (lv_at hl 2 rfl) ?_
  refine kx_cr (v := bI false) (va_runS (As := [.int (nI j)]) (rest := [.ref (am 0)]) ⟨hx, hb, hml, hown, hts⟩ (m_X6_isNoOrder l dC dI am M (nI j)) (va_cwS 1 hts gX6_near_X6_isNoOrder rfl rfl rfl hdX6_isNoOrder_1.2 ⟨Nat.le_of_ble_eq_true rfl, Nat.le_of_ble_eq_true rfl⟩) hX.preS rfl rfl hl.1 rfl (lv_room (Nat.le_of_ble_eq_true rfl)) dX6_near_9 ⟨Nat.le_of_ble_eq_true rfl, Nat.le_of_ble_eq_true rfl⟩) (fun _ h => h.trans (isNo_ok (by omega) (by omega))) ?_
  refine kb_if_eq (tgt := 19) hx hb dX6_near_12 (by decide) (fun k_2 => ?_) (fun k_2 => absurd k_2 (by decide))
  refine lv_iconst (v := nI 0) hx hb dX6_near_19 (by decide) ?_
  refine lv_iconst (v := nI 1) hx hb dX6_near_20 (by decide) ?_
  refine km_ci (va_runV (As := [.int (nI 0), .int (nI 1)]) (rest := []) ⟨hx, hb, hml, hown, hts⟩ (m_X6_start l dC dI am M false 1 (by omega)) (cwV 2 hts gX6_near_X6_start rfl rfl rfl hdX6_start_2 ⟨Nat.le_of_ble_eq_true rfl, Nat.le_of_ble_eq_true rfl⟩) (hX.preObj) rfl rfl hl.1 rfl (lv_room (Nat.le_of_ble_eq_true rfl)) dX6_near_21 ⟨Nat.le_of_ble_eq_true rfl, Nat.le_of_ble_eq_true rfl⟩) hX (fun _ h => h) (fun r_ S_ H locs hw hX => ?_)
  obtain ⟨rfl, rfl⟩ := hw
  refine kb_if_ne (tgt := 56) hx hb dX6_near_24 (by decide) (fun k_3 => absurd k_3 (by decide)) (fun k_3 => ?_)
  refine lv_aload_n hx hb dX6_near_27 rfl (lv_at hl 0 rfl) ?_
  refine lv_iload_n hx hb dX6_near_28 rfl (lv_at hl 3 rfl) ?_
  refine kx_cr (v := bI false) (va_runS (As := [.int (nI v)]) (rest := [.ref (am 0)]) ⟨hx, hb, hml, hown, hts⟩ (m_X6_isNoValue l dC dI am (mN M (0, M.2.2.2.1, M.2.2.2.2.1, M.2.2.2.2.2)) (nI v)) (va_cwS 1 hts gX6_near_X6_isNoValue rfl rfl rfl hdX6_isNoValue_1.2 ⟨Nat.le_of_ble_eq_true rfl, Nat.le_of_ble_eq_true rfl⟩) hX.preS rfl rfl hl.1 rfl (lv_room (Nat.le_of_ble_eq_true rfl)) dX6_near_29 ⟨Nat.le_of_ble_eq_true rfl, Nat.le_of_ble_eq_true rfl⟩) (fun _ h => h.trans (isNo_ok (by omega) (by omega))) ?_
  refine kb_if_ne (tgt := 44) hx hb dX6_near_32 (by decide) (fun k_4 => absurd k_4 (by decide)) (fun k_4 => ?_)
  refine lv_iload hx hb dX6_near_35 (lv_at hl 4 rfl) ?_
  refine lv_iconst (v := nI 3) hx hb dX6_near_37 (by decide) ?_
  refine kx_cr (v := bI false) (va_runS (As := [.int (nI 0), .int (nI 3)]) (rest := [.ref (am 0)]) ⟨hx, hb, hml, hown, hts⟩ (m_X6_isNo l dC dI am (mN M (0, M.2.2.2.1, M.2.2.2.2.1, M.2.2.2.2.2)) (nI 0) (nI 3)) (va_cwS 2 hts gX6_near_X6_isNo rfl rfl rfl hdX6_isNo_2.2 ⟨Nat.le_of_ble_eq_true rfl, Nat.le_of_ble_eq_true rfl⟩) hX.preS rfl rfl hl.1 rfl (lv_room (Nat.le_of_ble_eq_true rfl)) dX6_near_38 ⟨Nat.le_of_ble_eq_true rfl, Nat.le_of_ble_eq_true rfl⟩) (fun _ h => h.trans (isNo_ok (by omega) (by omega))) ?_
  refine kb_if_eq (tgt := 48) hx hb dX6_near_41 (by decide) (fun k_5 => ?_) (fun k_5 => absurd k_5 (by decide))
  refine lv_iconst (v := nI 0) hx hb dX6_near_48 (by decide) ?_
  refine lv_iconst (v := nI 2) hx hb dX6_near_49 (by decide) ?_
  refine km_ci (va_runV (As := [.int (nI 0), .int (nI 2)]) (rest := []) ⟨hx, hb, hml, hown, hts⟩ (m_X6_refuse l dC dI am (mN M (0, M.2.2.2.1, M.2.2.2.2.1, M.2.2.2.2.2)) false 2 (by omega) rfl) (cwV 2 hts gX6_near_X6_refuse rfl rfl rfl hdX6_refuse_2 ⟨Nat.le_of_ble_eq_true rfl, Nat.le_of_ble_eq_true rfl⟩) (hX.preObj) rfl rfl hl.1 rfl (lv_room (Nat.le_of_ble_eq_true rfl)) dX6_near_50 ⟨Nat.le_of_ble_eq_true rfl, Nat.le_of_ble_eq_true rfl⟩) hX (fun _ h => h) (fun r_ S_ H locs hw hX => ?_)
  obtain ⟨rfl, rfl⟩ := hw
  refine kb_if_eq (tgt := 58) hx hb dX6_near_53 (by decide) (fun k_6 => ?_) (fun k_6 => absurd k_6 (by decide))
  refine lv_iconst (v := (-1)) hx hb dX6_near_58 (by decide) ?_
  refine lv_istore (lv' := [(5, .int (-1)), (0, .ref (am 0)), (1, .int (nI i)), (2, .int (nI j)), (3, .int (nI v)), (4, .int (nI 0))]) hx hb dX6_near_59 hl (by decide) rfl (fun ls hl => ?_)
  refine lv_iconst (v := nI 0) hx hb dX6_near_61 (by decide) ?_
  refine lv_istore (lv' := [(6, .int (nI 0)), (5, .int (-1)), (0, .ref (am 0)), (1, .int (nI i)), (2, .int (nI j)), (3, .int (nI v)), (4, .int (nI 0))]) hx hb dX6_near_62 hl (by decide) rfl (fun ls hl => ?_)
  have loop64 : ∀ (fuel : Nat) (o : Option Nat) (x : Nat) (hk9 : x ≤ (M.1 i).2.2) (hq : o = bestB (fun x => sideB 0 ((cM M j) ((M.1 i).1 x)) ((cM M j) v)) (fun a b => nearB 0 ((cM M j) ((M.1 i).1 a)) ((cM M j) ((M.1 i).1 b))) x) (H : Heap) (locs : List Loc), (M.1 i).2.2 - x < fuel → WM dC dI am (mN M (0, M.2.2.2.1, M.2.2.2.2.1, M.2.2.2.2.2)) [] (AM am) s H locs → ∀ ls : Array Slot, lv_has ls 10 [(0, .ref (am 0)), (1, .int (nI i)), (2, .int (nI j)), (3, .int (nI v)), (4, .int (nI 0)), (5, .int (oI o)), (6, .int (nI x))] → W p l e ({ frames := 2, cells := 0, slots := 0, locals := 47 } : Room) s m ([.ref (am 0), .int (nI i), .int (nI j), .int (nI v), .int (nI 0)]).toArray below meth c H locs 0 0 (MQ below (va_Qi (fun r M' => r = exI (bestB (fun x => sideB 0 ((cM M j) ((M.1 i).1 x)) ((cM M j) v)) (fun a b => nearB 0 ((cM M j) ((M.1 i).1 a)) ((cM M j) ((M.1 i).1 b))) (M.1 i).2.2) (M.1 i).2.1 ∧ M' = thM M 0) (PM dC dI am) (AM am)) ([.ref (am 0), .int (nI i), .int (nI j), .int (nI v), .int (nI 0)]).toArray s 0 0 (AM am)) (F0 m 64 ls []) := by
    intro fuel
    induction fuel with
    | zero => intro o x hk9 hq H locs hf; exact absurd hf (Nat.not_lt_zero _)
    | succ fuel ih64 =>
      intro o x hk9 hq H locs hf hX ls hl
      refine lv_iload hx hb dX6_near_64 (lv_at hl 6 rfl) ?_
      refine lv_aload_n hx hb dX6_near_66 rfl (lv_at hl 0 rfl) ?_
      refine km_gsizes hx hb hts hin6 hown hX (hts (.fieldLink RX6 17 "OrderlatticeModel" "sizes" "[I") (tm 681 (by decide +kernel) rfl)) dX6_near_67 ?_
      refine lv_iload_n hx hb dX6_near_70 rfl (lv_at hl 1 rfl) ?_
      refine km_lz (v := (M.1 i).2.2) hx hb hX (by omega) rfl dX6_near_71 ?_
      refine kn_icmp_ge (tgt := 238) hx hb (by omega) (by omega) dX6_near_72 (by decide) (fun k_7 => ?_) (fun k_7 => ?_)
      · skip
        rcases o with _ | bb
        · skip
          refine lv_iload hx hb dX6_near_238 (lv_at hl 5 rfl) ?_
          refine lv_iconst (v := (-1)) hx hb dX6_near_240 (by decide) ?_
          refine lv_icmp_ne (tgt := 248) hx hb dX6_near_241 (by decide) (fun k_8 => absurd rfl k_8) (fun k_8 => ?_)
          refine lv_iconst (v := (-1)) hx hb dX6_near_244 (by decide) ?_
          refine lv_goto (tgt := 257) hx hb dX6_near_245 (by decide) ?_
          exact W.iret (v := (-1)) hx hb hr (fun t9 ht9 hW9 => ⟨⟨_, (mN M (0, M.2.2.2.1, M.2.2.2.2.1, M.2.2.2.2.2)), rfl, ⟨by rw [show (M.1 i).2.2 = x by omega, ← hq]; rfl, rfl⟩, hX.P ht9 hW9⟩, hX.2.2.2.F ht9⟩) hX.2.2.2.2.2 dX6_near_257
        · skip
          have hbb := (bestB_lt hq.symm).1
          have hl : lv_has ls 10 [(0, .ref (am 0)), (1, .int (nI i)), (2, .int (nI j)), (3, .int (nI v)), (4, .int (nI 0)), (5, .int (nI bb)), (6, .int (nI x))] := hl
          refine lv_iload hx hb dX6_near_238 (lv_at hl 5 rfl) ?_
          refine lv_iconst (v := (-1)) hx hb dX6_near_240 (by decide) ?_
          refine lv_icmp_ne (tgt := 248) hx hb dX6_near_241 (by decide) (fun k_9 => ?_) (fun k_9 => absurd k_9 (nI_nm1 (by omega)))
          refine lv_aload_n hx hb dX6_near_248 rfl (lv_at hl 0 rfl) ?_
          refine km_gmarks hx hb hts hin6 hown hX (hts (.fieldLink RX6 14 "OrderlatticeModel" "marks" "[[I") (tm 711 (by decide +kernel) rfl)) dX6_near_249 ?_
          refine lv_iload_n hx hb dX6_near_252 rfl (lv_at hl 1 rfl) ?_
          refine km_am hx hb hX (by omega) dX6_near_253 ?_
          refine lv_iload hx hb dX6_near_254 (lv_at hl 5 rfl) ?_
          refine km_lm (v := ((M.1 i).2.1) bb) hx hb hX (by omega) (by omega) rfl dX6_near_256 ?_
          exact W.iret (v := nI (((M.1 i).2.1) bb)) hx hb hr (fun t9 ht9 hW9 => ⟨⟨_, (mN M (0, M.2.2.2.1, M.2.2.2.2.1, M.2.2.2.2.2)), rfl, ⟨by rw [show (M.1 i).2.2 = x by omega, ← hq]; rfl, rfl⟩, hX.P ht9 hW9⟩, hX.2.2.2.F ht9⟩) hX.2.2.2.2.2 dX6_near_257
      · skip
        refine lv_aload_n hx hb dX6_near_75 rfl (lv_at hl 0 rfl) ?_
        refine lv_iload_n hx hb dX6_near_76 rfl (lv_at hl 2 rfl) ?_
        refine lv_aload_n hx hb dX6_near_77 rfl (lv_at hl 0 rfl) ?_
        refine km_gvalues hx hb hts hin6 hown hX (hts (.fieldLink RX6 11 "OrderlatticeModel" "values" "[[I") (tm 710 (by decide +kernel) rfl)) dX6_near_78 ?_
        refine lv_iload_n hx hb dX6_near_81 rfl (lv_at hl 1 rfl) ?_
        refine km_av hx hb hX (by omega) dX6_near_82 ?_
        refine lv_iload hx hb dX6_near_83 (lv_at hl 6 rfl) ?_
        refine km_lv (v := ((M.1 i).1) x) hx hb hX (by omega) (by omega) rfl dX6_near_85 ?_
        refine lv_iload_n hx hb dX6_near_86 rfl (lv_at hl 3 rfl) ?_
        refine kx_cr (v := cmpI (cM M j (((M.1 i).1) x)) (cM M j v)) (va_runV (As := [.int (nI j), .int (nI (((M.1 i).1) x)), .int (nI v)]) (rest := []) ⟨hx, hb, hml, hown, hts⟩ (m_X6_compareNow l dC dI am (mN M (0, M.2.2.2.1, M.2.2.2.2.1, M.2.2.2.2.2)) j (((M.1 i).1) x) v (by omega) (hI.2 j (by omega)) ((hI.1 i (by omega)).2 _ (by omega)).1 (by omega)) (cwV 3 hts gX6_near_X6_compareNow rfl rfl rfl hdX6_compareNow_3 ⟨Nat.le_of_ble_eq_true rfl, Nat.le_of_ble_eq_true rfl⟩) (hX.preObj) rfl rfl hl.1 rfl (lv_room (Nat.le_of_ble_eq_true rfl)) dX6_near_87 ⟨Nat.le_of_ble_eq_true rfl, Nat.le_of_ble_eq_true rfl⟩) (fun _ h => h) ?_
        refine lv_istore (lv' := [(7, .int (cmpI (cM M j (((M.1 i).1) x)) (cM M j v))), (0, .ref (am 0)), (1, .int (nI i)), (2, .int (nI j)), (3, .int (nI v)), (4, .int (nI 0)), (5, .int (oI o)), (6, .int (nI x))]) hx hb dX6_near_90 hl (by decide) rfl (fun ls hl => ?_)
        refine lv_iload hx hb dX6_near_92 (lv_at hl 5 rfl) ?_
        refine kn_if_ne (tgt := 110) hx hb (by omega) dX6_near_94 (by decide) (fun k_10 => absurd k_10 (by omega)) (fun k_10 => ?_)
        refine lv_iload hx hb dX6_near_97 (lv_at hl 0 rfl) ?_
        refine kc_if_ge (tgt := 106) hx hb dX6_near_99 (by decide) (fun k_11 => ?_) (fun k_11 => ?_)
        · skip
          have hw9 := k_11
          refine lv_iconst (v := nI 0) hx hb dX6_near_106 (by decide) ?_
          refine lv_goto (tgt := 158) hx hb dX6_near_107 (by decide) ?_
          refine lv_istore (lv' := [(8, .int (nI 0)), (7, .int (cmpI (cM M j (((M.1 i).1) x)) (cM M j v))), (0, .ref (am 0)), (1, .int (nI i)), (2, .int (nI j)), (3, .int (nI v)), (4, .int (nI 0)), (5, .int (oI o)), (6, .int (nI x))]) hx hb dX6_near_158 hl (by decide) rfl (fun ls hl => ?_)
          refine lv_iload hx hb dX6_near_160 (lv_at hl 0 rfl) ?_
          refine kn_if_ne (tgt := 168) hx hb (by omega) dX6_near_162 (by decide) (fun k_12 => absurd k_12 (by omega)) (fun k_12 => ?_)
          refine lv_goto (tgt := 232) hx hb dX6_near_165 (by decide) ?_
          refine lv_iinc (v := nI (x + 1)) (lv' := [(6, .int (nI (x + 1))), (8, .int (nI 0)), (7, .int (cmpI (cM M j (((M.1 i).1) x)) (cM M j v))), (0, .ref (am 0)), (1, .int (nI i)), (2, .int (nI j)), (3, .int (nI v)), (4, .int (nI 0)), (5, .int (oI o))]) hx hb dX6_near_232 hl (k := 8) rfl (nI_1 x) (by decide) rfl (fun ls hl => ?_)
          refine lv_goto (tgt := 64) hx hb dX6_near_235 (by decide) ?_
          exact ih64  o (x + 1) (by omega) (hq.trans (bestB_no (p := (fun x => sideB 0 ((cM M j) ((M.1 i).1 x)) ((cM M j) v))) (lt := (fun a b => nearB 0 ((cM M j) ((M.1 i).1 a)) ((cM M j) ((M.1 i).1 b)))) (show sideB 0 _ _ = false from decide_eq_false (by omega))).symm) _ _ (by omega) hX _ (lv_sub hl [3, 4, 5, 6, 7, 8, 0] rfl)
        · skip
          have hw9 := k_11
          refine lv_iconst (v := nI 1) hx hb dX6_near_102 (by decide) ?_
          refine lv_goto (tgt := 158) hx hb dX6_near_103 (by decide) ?_
          refine lv_istore (lv' := [(8, .int (nI 1)), (7, .int (cmpI (cM M j (((M.1 i).1) x)) (cM M j v))), (0, .ref (am 0)), (1, .int (nI i)), (2, .int (nI j)), (3, .int (nI v)), (4, .int (nI 0)), (5, .int (oI o)), (6, .int (nI x))]) hx hb dX6_near_158 hl (by decide) rfl (fun ls hl => ?_)
          refine lv_iload hx hb dX6_near_160 (lv_at hl 0 rfl) ?_
          refine kn_if_ne (tgt := 168) hx hb (by omega) dX6_near_162 (by decide) (fun k_13 => ?_) (fun k_13 => absurd k_13 (by omega))
          rcases o with _ | bb
          · skip
            refine lv_iload hx hb dX6_near_168 (lv_at hl 7 rfl) ?_
            refine lv_iconst (v := (-1)) hx hb dX6_near_170 (by decide) ?_
            refine lv_icmp_ne (tgt := 178) hx hb dX6_near_171 (by decide) (fun k_14 => absurd rfl k_14) (fun k_14 => ?_)
            refine lv_iconst (v := nI 1) hx hb dX6_near_174 (by decide) ?_
            refine lv_goto (tgt := 201) hx hb dX6_near_175 (by decide) ?_
            refine lv_istore (lv' := [(9, .int (nI 1)), (8, .int (nI 1)), (7, .int (cmpI (cM M j (((M.1 i).1) x)) (cM M j v))), (0, .ref (am 0)), (1, .int (nI i)), (2, .int (nI j)), (3, .int (nI v)), (4, .int (nI 0)), (5, .int (oI none)), (6, .int (nI x))]) hx hb dX6_near_201 hl (by decide) rfl (fun ls hl => ?_)
            refine lv_iload hx hb dX6_near_203 (lv_at hl 8 rfl) ?_
            refine lv_iconst (v := (-1)) hx hb dX6_near_205 (by decide) ?_
            refine lv_icmp_eq (tgt := 228) hx hb dX6_near_206 (by decide) (fun k_15 => ?_) (fun k_15 => absurd rfl k_15)
            refine lv_iload hx hb dX6_near_228 (lv_at hl 9 rfl) ?_
            refine lv_istore (lv' := [(5, .int (nI x)), (9, .int (nI 1)), (8, .int (nI 1)), (7, .int (cmpI (cM M j (((M.1 i).1) x)) (cM M j v))), (0, .ref (am 0)), (1, .int (nI i)), (2, .int (nI j)), (3, .int (nI v)), (4, .int (nI 0)), (6, .int (nI x))]) hx hb dX6_near_230 hl (by decide) rfl (fun ls hl => ?_)
            refine lv_iinc (v := nI (x + 1)) (lv' := [(6, .int (nI (x + 1))), (5, .int (nI x)), (9, .int (nI 1)), (8, .int (nI 1)), (7, .int (cmpI (cM M j (((M.1 i).1) x)) (cM M j v))), (0, .ref (am 0)), (1, .int (nI i)), (2, .int (nI j)), (3, .int (nI v)), (4, .int (nI 0))]) hx hb dX6_near_232 hl (k := 9) rfl (nI_1 x) (by decide) rfl (fun ls hl => ?_)
            refine lv_goto (tgt := 64) hx hb dX6_near_235 (by decide) ?_
            exact ih64  (some x) (x + 1) (by omega) (bestB_first (p := (fun x => sideB 0 ((cM M j) ((M.1 i).1 x)) ((cM M j) v))) (lt := (fun a b => nearB 0 ((cM M j) ((M.1 i).1 a)) ((cM M j) ((M.1 i).1 b)))) (show sideB 0 _ _ = true from decide_eq_true (by omega)) hq.symm).symm _ _ (by omega) hX _ (lv_sub hl [5, 6, 7, 8, 9, 1, 0] rfl)
          · skip
            have hbb := (bestB_lt hq.symm).1
            have hl : lv_has ls 10 [(8, .int (nI 1)), (7, .int (cmpI (cM M j (((M.1 i).1) x)) (cM M j v))), (0, .ref (am 0)), (1, .int (nI i)), (2, .int (nI j)), (3, .int (nI v)), (4, .int (nI 0)), (5, .int (nI bb)), (6, .int (nI x))] := hl
            refine lv_iload hx hb dX6_near_168 (lv_at hl 7 rfl) ?_
            refine lv_iconst (v := (-1)) hx hb dX6_near_170 (by decide) ?_
            refine lv_icmp_ne (tgt := 178) hx hb dX6_near_171 (by decide) (fun k_16 => ?_) (fun k_16 => absurd k_16 (nI_nm1 (by omega)))
            refine lv_aload_n hx hb dX6_near_178 rfl (lv_at hl 2 rfl) ?_
            refine lv_iload_n hx hb dX6_near_179 rfl (lv_at hl 4 rfl) ?_
            refine lv_aload_n hx hb dX6_near_180 rfl (lv_at hl 2 rfl) ?_
            refine km_gvalues hx hb hts hin6 hown hX (hts (.fieldLink RX6 11 "OrderlatticeModel" "values" "[[I") (tm 710 (by decide +kernel) rfl)) dX6_near_181 ?_
            refine lv_iload_n hx hb dX6_near_184 rfl (lv_at hl 3 rfl) ?_
            refine km_av hx hb hX (by omega) dX6_near_185 ?_
            refine lv_iload hx hb dX6_near_186 (lv_at hl 8 rfl) ?_
            refine km_lv (v := ((M.1 i).1) x) hx hb hX (by omega) (by omega) rfl dX6_near_188 ?_
            refine lv_aload_n hx hb dX6_near_189 rfl (lv_at hl 2 rfl) ?_
            refine km_gvalues hx hb hts hin6 hown hX (hts (.fieldLink RX6 11 "OrderlatticeModel" "values" "[[I") (tm 710 (by decide +kernel) rfl)) dX6_near_190 ?_
            refine lv_iload_n hx hb dX6_near_193 rfl (lv_at hl 3 rfl) ?_
            refine km_av hx hb hX (by omega) dX6_near_194 ?_
            refine lv_iload hx hb dX6_near_195 (lv_at hl 7 rfl) ?_
            refine km_lv (v := ((M.1 i).1) bb) hx hb hX (by omega) (by omega) rfl dX6_near_197 ?_
            refine kx_cr (v := cmpI (cM M j (((M.1 i).1) x)) (cM M j (((M.1 i).1) bb))) (va_runV (As := [.int (nI j), .int (nI (((M.1 i).1) x)), .int (nI (((M.1 i).1) bb))]) (rest := []) ⟨hx, hb, hml, hown, hts⟩ (m_X6_compareNow l dC dI am (mN M (0, M.2.2.2.1, M.2.2.2.2.1, M.2.2.2.2.2)) j (((M.1 i).1) x) (((M.1 i).1) bb) (by omega) (hI.2 j (by omega)) ((hI.1 i (by omega)).2 _ (by omega)).1 ((hI.1 i (by omega)).2 _ (by omega)).1) (cwV 3 hts gX6_near_X6_compareNow rfl rfl rfl hdX6_compareNow_3 ⟨Nat.le_of_ble_eq_true rfl, Nat.le_of_ble_eq_true rfl⟩) (hX.preObj) rfl rfl hl.1 rfl (lv_room (Nat.le_of_ble_eq_true rfl)) dX6_near_198 ⟨Nat.le_of_ble_eq_true rfl, Nat.le_of_ble_eq_true rfl⟩) (fun _ h => h) ?_
            refine lv_istore (lv' := [(9, .int (cmpI (cM M j (((M.1 i).1) x)) (cM M j (((M.1 i).1) bb)))), (8, .int (nI 1)), (7, .int (cmpI (cM M j (((M.1 i).1) x)) (cM M j v))), (0, .ref (am 0)), (1, .int (nI i)), (2, .int (nI j)), (3, .int (nI v)), (4, .int (nI 0)), (5, .int (nI bb)), (6, .int (nI x))]) hx hb dX6_near_201 hl (by decide) rfl (fun ls hl => ?_)
            refine lv_iload hx hb dX6_near_203 (lv_at hl 8 rfl) ?_
            refine lv_iconst (v := (-1)) hx hb dX6_near_205 (by decide) ?_
            refine lv_icmp_eq (tgt := 228) hx hb dX6_near_206 (by decide) (fun k_17 => absurd k_17 (nI_nm1 (by omega))) (fun k_17 => ?_)
            refine lv_iload hx hb dX6_near_209 (lv_at hl 7 rfl) ?_
            refine lv_iconst (v := nI 2) hx hb dX6_near_211 (by decide) ?_
            refine kn_icmp_ge (tgt := 223) hx hb (by omega) (by omega) dX6_near_212 (by decide) (fun k_18 => absurd k_18 (by omega)) (fun k_18 => ?_)
            refine lv_iload hx hb dX6_near_215 (lv_at hl 0 rfl) ?_
            refine kc_if_le (tgt := 232) hx hb dX6_near_217 (by decide) (fun k_19 => ?_) (fun k_19 => ?_)
            · skip
              have hx1 := k_19
              refine lv_iinc (v := nI (x + 1)) (lv' := [(6, .int (nI (x + 1))), (9, .int (cmpI (cM M j (((M.1 i).1) x)) (cM M j (((M.1 i).1) bb)))), (8, .int (nI 1)), (7, .int (cmpI (cM M j (((M.1 i).1) x)) (cM M j v))), (0, .ref (am 0)), (1, .int (nI i)), (2, .int (nI j)), (3, .int (nI v)), (4, .int (nI 0)), (5, .int (nI bb))]) hx hb dX6_near_232 hl (k := 9) rfl (nI_1 x) (by decide) rfl (fun ls hl => ?_)
              refine lv_goto (tgt := 64) hx hb dX6_near_235 (by decide) ?_
              exact ih64  (some bb) (x + 1) (by omega) (bestB_old (p := (fun x => sideB 0 ((cM M j) ((M.1 i).1 x)) ((cM M j) v))) (lt := (fun a b => nearB 0 ((cM M j) ((M.1 i).1 a)) ((cM M j) ((M.1 i).1 b)))) (show sideB 0 _ _ = true from decide_eq_true (by omega)) hq.symm (show nearB 0 _ _ = false from decide_eq_false (by omega))).symm _ _ (by omega) hX _ (lv_sub hl [4, 5, 6, 7, 8, 9, 0] rfl)
            · skip
              have hx1 := k_19
              refine lv_goto (tgt := 228) hx hb dX6_near_220 (by decide) ?_
              refine lv_iload hx hb dX6_near_228 (lv_at hl 9 rfl) ?_
              refine lv_istore (lv' := [(5, .int (nI x)), (9, .int (cmpI (cM M j (((M.1 i).1) x)) (cM M j (((M.1 i).1) bb)))), (8, .int (nI 1)), (7, .int (cmpI (cM M j (((M.1 i).1) x)) (cM M j v))), (0, .ref (am 0)), (1, .int (nI i)), (2, .int (nI j)), (3, .int (nI v)), (4, .int (nI 0)), (6, .int (nI x))]) hx hb dX6_near_230 hl (by decide) rfl (fun ls hl => ?_)
              refine lv_iinc (v := nI (x + 1)) (lv' := [(6, .int (nI (x + 1))), (5, .int (nI x)), (9, .int (cmpI (cM M j (((M.1 i).1) x)) (cM M j (((M.1 i).1) bb)))), (8, .int (nI 1)), (7, .int (cmpI (cM M j (((M.1 i).1) x)) (cM M j v))), (0, .ref (am 0)), (1, .int (nI i)), (2, .int (nI j)), (3, .int (nI v)), (4, .int (nI 0))]) hx hb dX6_near_232 hl (k := 9) rfl (nI_1 x) (by decide) rfl (fun ls hl => ?_)
              refine lv_goto (tgt := 64) hx hb dX6_near_235 (by decide) ?_
              exact ih64  (some x) (x + 1) (by omega) (bestB_new (p := (fun x => sideB 0 ((cM M j) ((M.1 i).1 x)) ((cM M j) v))) (lt := (fun a b => nearB 0 ((cM M j) ((M.1 i).1 a)) ((cM M j) ((M.1 i).1 b)))) (show sideB 0 _ _ = true from decide_eq_true (by omega)) hq.symm (show nearB 0 _ _ = true from decide_eq_true (by omega))).symm _ _ (by omega) hX _ (lv_sub hl [5, 6, 7, 8, 9, 1, 0] rfl)
  exact loop64 ((M.1 i).2.2 + 1) none 0 (by omega) rfl _ _ (by omega) (WM.eqS rfl hX) _ (lv_sub hl [2, 3, 4, 5, 6, 1, 0] rfl)
set_option maxHeartbeats 4000000 in
set_option maxRecDepth 100000 in
theorem m_X6_near1 (l : Launch) (dC : Nat → ClassId) (dI : Nat → Nat → Nat) (am : Nat → Nat) (M : MS) (i j v : Nat) (hi : i < 3) (hj : j < 4) (hv : v < 16) (hI : InvM M) : Met l yX6_near wsX6_near ({ frames := 2, cells := 0, slots := 0, locals := 47 } : Room) (va_Pc [.ref (am 0), .int (nI i), .int (nI j), .int (nI v), .int (nI 1)] (PM dC dI am M)) (va_Qi (fun r M' => r = exI (bestB (fun x => sideB 1 ((cM M j) ((M.1 i).1 x)) ((cM M j) v)) (fun a b => nearB 1 ((cM M j) ((M.1 i).1 a)) ((cM M j) ((M.1 i).1 b))) (M.1 i).2.2) (M.1 i).2.1 ∧ M' = thM M 0) (PM dC dI am) (AM am)) 0 0 (AM am) := by
  refine Met.ofW (cc := cX6_near) (maxL := 10) (ret := (some .int)) pl_X6 rfl ?_
  intro p e s m args below meth c s₁ B hml hv
  obtain ⟨rfl, hPX⟩ := hv
  have hx := B.exec
  have hb := B.bytes
  have hr := B.returns
  have hts := atoms_spec (ws := wsX6_near) B.pre
  have hown : s.vm.findClass RX6 = some m.cls := findClass_of_methodNamed B.named
  have hlocks := B.notSynchronized
  have hin6 : ∀ w ∈ u_ws RX6 TX6 10, w ∈ wsX6_near := tu 1331 (by decide +kernel) rfl
  have hX := WM.of hPX
  have hl := lv_entry ([.ref (am 0), .int (nI i), .int (nI j), .int (nI v), .int (nI 1)]) (n := 10) (Nat.le_of_ble_eq_true rfl)
  rw [lg_entry_eq]
  generalize (lg_sl ([.ref (am 0), .int (nI i), .int (nI j), .int (nI v), .int (nI 1)]) ++ List.replicate (10 - (lg_sl ([.ref (am 0), .int (nI i), .int (nI j), .int (nI v), .int (nI 1)])).length) Slot.unset).toArray = ls at hl ⊢
  have hl : lv_has ls 10 [(0, .ref (am 0)), (1, .int (nI i)), (2, .int (nI j)), (3, .int (nI v)), (4, .int (nI 1))] := hl
  show W p l e ({ frames := 2, cells := 0, slots := 0, locals := 47 } : Room) s m ([.ref (am 0), .int (nI i), .int (nI j), .int (nI v), .int (nI 1)]).toArray below meth c s.heap [] 0 0 (MQ below (va_Qi (fun r M' => r = exI (bestB (fun x => sideB 1 ((cM M j) ((M.1 i).1 x)) ((cM M j) v)) (fun a b => nearB 1 ((cM M j) ((M.1 i).1 a)) ((cM M j) ((M.1 i).1 b))) (M.1 i).2.2) (M.1 i).2.1 ∧ M' = thM M 0) (PM dC dI am) (AM am)) ([.ref (am 0), .int (nI i), .int (nI j), .int (nI v), .int (nI 1)]).toArray s 0 0 (AM am)) (F0 m 0 ls [])
  have hn := (hI.1 i (by omega)).1
  refine lv_aload_n hx hb dX6_near_0 rfl (lv_at hl 0 rfl) ?_
  refine lv_iload_n hx hb dX6_near_1 rfl (lv_at hl 1 rfl) ?_
  refine kx_cr (v := bI false) (va_runS (As := [.int (nI i)]) (rest := [.ref (am 0)]) ⟨hx, hb, hml, hown, hts⟩ (m_X6_isNoRow l dC dI am M (nI i)) (va_cwS 1 hts gX6_near_X6_isNoRow rfl rfl rfl hdX6_isNoRow_1.2 ⟨Nat.le_of_ble_eq_true rfl, Nat.le_of_ble_eq_true rfl⟩) hX.preS rfl rfl hl.1 rfl (lv_room (Nat.le_of_ble_eq_true rfl)) dX6_near_2 ⟨Nat.le_of_ble_eq_true rfl, Nat.le_of_ble_eq_true rfl⟩) (fun _ h => h.trans (isNo_ok (by omega) (by omega))) ?_
  refine kb_if_ne (tgt := 15) hx hb dX6_near_5 (by decide) (fun k_1 => absurd k_1 (by decide)) (fun k_1 => ?_)
  refine lv_iload_n hx hb dX6_near_8 rfl (lv_at hl 2 rfl) ?_
  refine kx_cr (v := bI false) (va_runS (As := [.int (nI j)]) (rest := [.ref (am 0)]) ⟨hx, hb, hml, hown, hts⟩ (m_X6_isNoOrder l dC dI am M (nI j)) (va_cwS 1 hts gX6_near_X6_isNoOrder rfl rfl rfl hdX6_isNoOrder_1.2 ⟨Nat.le_of_ble_eq_true rfl, Nat.le_of_ble_eq_true rfl⟩) hX.preS rfl rfl hl.1 rfl (lv_room (Nat.le_of_ble_eq_true rfl)) dX6_near_9 ⟨Nat.le_of_ble_eq_true rfl, Nat.le_of_ble_eq_true rfl⟩) (fun _ h => h.trans (isNo_ok (by omega) (by omega))) ?_
  refine kb_if_eq (tgt := 19) hx hb dX6_near_12 (by decide) (fun k_2 => ?_) (fun k_2 => absurd k_2 (by decide))
  refine lv_iconst (v := nI 0) hx hb dX6_near_19 (by decide) ?_
  refine lv_iconst (v := nI 1) hx hb dX6_near_20 (by decide) ?_
  refine km_ci (va_runV (As := [.int (nI 0), .int (nI 1)]) (rest := []) ⟨hx, hb, hml, hown, hts⟩ (m_X6_start l dC dI am M false 1 (by omega)) (cwV 2 hts gX6_near_X6_start rfl rfl rfl hdX6_start_2 ⟨Nat.le_of_ble_eq_true rfl, Nat.le_of_ble_eq_true rfl⟩) (hX.preObj) rfl rfl hl.1 rfl (lv_room (Nat.le_of_ble_eq_true rfl)) dX6_near_21 ⟨Nat.le_of_ble_eq_true rfl, Nat.le_of_ble_eq_true rfl⟩) hX (fun _ h => h) (fun r_ S_ H locs hw hX => ?_)
  obtain ⟨rfl, rfl⟩ := hw
  refine kb_if_ne (tgt := 56) hx hb dX6_near_24 (by decide) (fun k_3 => absurd k_3 (by decide)) (fun k_3 => ?_)
  refine lv_aload_n hx hb dX6_near_27 rfl (lv_at hl 0 rfl) ?_
  refine lv_iload_n hx hb dX6_near_28 rfl (lv_at hl 3 rfl) ?_
  refine kx_cr (v := bI false) (va_runS (As := [.int (nI v)]) (rest := [.ref (am 0)]) ⟨hx, hb, hml, hown, hts⟩ (m_X6_isNoValue l dC dI am (mN M (0, M.2.2.2.1, M.2.2.2.2.1, M.2.2.2.2.2)) (nI v)) (va_cwS 1 hts gX6_near_X6_isNoValue rfl rfl rfl hdX6_isNoValue_1.2 ⟨Nat.le_of_ble_eq_true rfl, Nat.le_of_ble_eq_true rfl⟩) hX.preS rfl rfl hl.1 rfl (lv_room (Nat.le_of_ble_eq_true rfl)) dX6_near_29 ⟨Nat.le_of_ble_eq_true rfl, Nat.le_of_ble_eq_true rfl⟩) (fun _ h => h.trans (isNo_ok (by omega) (by omega))) ?_
  refine kb_if_ne (tgt := 44) hx hb dX6_near_32 (by decide) (fun k_4 => absurd k_4 (by decide)) (fun k_4 => ?_)
  refine lv_iload hx hb dX6_near_35 (lv_at hl 4 rfl) ?_
  refine lv_iconst (v := nI 3) hx hb dX6_near_37 (by decide) ?_
  refine kx_cr (v := bI false) (va_runS (As := [.int (nI 1), .int (nI 3)]) (rest := [.ref (am 0)]) ⟨hx, hb, hml, hown, hts⟩ (m_X6_isNo l dC dI am (mN M (0, M.2.2.2.1, M.2.2.2.2.1, M.2.2.2.2.2)) (nI 1) (nI 3)) (va_cwS 2 hts gX6_near_X6_isNo rfl rfl rfl hdX6_isNo_2.2 ⟨Nat.le_of_ble_eq_true rfl, Nat.le_of_ble_eq_true rfl⟩) hX.preS rfl rfl hl.1 rfl (lv_room (Nat.le_of_ble_eq_true rfl)) dX6_near_38 ⟨Nat.le_of_ble_eq_true rfl, Nat.le_of_ble_eq_true rfl⟩) (fun _ h => h.trans (isNo_ok (by omega) (by omega))) ?_
  refine kb_if_eq (tgt := 48) hx hb dX6_near_41 (by decide) (fun k_5 => ?_) (fun k_5 => absurd k_5 (by decide))
  refine lv_iconst (v := nI 0) hx hb dX6_near_48 (by decide) ?_
  refine lv_iconst (v := nI 2) hx hb dX6_near_49 (by decide) ?_
  refine km_ci (va_runV (As := [.int (nI 0), .int (nI 2)]) (rest := []) ⟨hx, hb, hml, hown, hts⟩ (m_X6_refuse l dC dI am (mN M (0, M.2.2.2.1, M.2.2.2.2.1, M.2.2.2.2.2)) false 2 (by omega) rfl) (cwV 2 hts gX6_near_X6_refuse rfl rfl rfl hdX6_refuse_2 ⟨Nat.le_of_ble_eq_true rfl, Nat.le_of_ble_eq_true rfl⟩) (hX.preObj) rfl rfl hl.1 rfl (lv_room (Nat.le_of_ble_eq_true rfl)) dX6_near_50 ⟨Nat.le_of_ble_eq_true rfl, Nat.le_of_ble_eq_true rfl⟩) hX (fun _ h => h) (fun r_ S_ H locs hw hX => ?_)
  obtain ⟨rfl, rfl⟩ := hw
  refine kb_if_eq (tgt := 58) hx hb dX6_near_53 (by decide) (fun k_6 => ?_) (fun k_6 => absurd k_6 (by decide))
  refine lv_iconst (v := (-1)) hx hb dX6_near_58 (by decide) ?_
  refine lv_istore (lv' := [(5, .int (-1)), (0, .ref (am 0)), (1, .int (nI i)), (2, .int (nI j)), (3, .int (nI v)), (4, .int (nI 1))]) hx hb dX6_near_59 hl (by decide) rfl (fun ls hl => ?_)
  refine lv_iconst (v := nI 0) hx hb dX6_near_61 (by decide) ?_
  refine lv_istore (lv' := [(6, .int (nI 0)), (5, .int (-1)), (0, .ref (am 0)), (1, .int (nI i)), (2, .int (nI j)), (3, .int (nI v)), (4, .int (nI 1))]) hx hb dX6_near_62 hl (by decide) rfl (fun ls hl => ?_)
  have loop64 : ∀ (fuel : Nat) (o : Option Nat) (x : Nat) (hk9 : x ≤ (M.1 i).2.2) (hq : o = bestB (fun x => sideB 1 ((cM M j) ((M.1 i).1 x)) ((cM M j) v)) (fun a b => nearB 1 ((cM M j) ((M.1 i).1 a)) ((cM M j) ((M.1 i).1 b))) x) (H : Heap) (locs : List Loc), (M.1 i).2.2 - x < fuel → WM dC dI am (mN M (0, M.2.2.2.1, M.2.2.2.2.1, M.2.2.2.2.2)) [] (AM am) s H locs → ∀ ls : Array Slot, lv_has ls 10 [(0, .ref (am 0)), (1, .int (nI i)), (2, .int (nI j)), (3, .int (nI v)), (4, .int (nI 1)), (5, .int (oI o)), (6, .int (nI x))] → W p l e ({ frames := 2, cells := 0, slots := 0, locals := 47 } : Room) s m ([.ref (am 0), .int (nI i), .int (nI j), .int (nI v), .int (nI 1)]).toArray below meth c H locs 0 0 (MQ below (va_Qi (fun r M' => r = exI (bestB (fun x => sideB 1 ((cM M j) ((M.1 i).1 x)) ((cM M j) v)) (fun a b => nearB 1 ((cM M j) ((M.1 i).1 a)) ((cM M j) ((M.1 i).1 b))) (M.1 i).2.2) (M.1 i).2.1 ∧ M' = thM M 0) (PM dC dI am) (AM am)) ([.ref (am 0), .int (nI i), .int (nI j), .int (nI v), .int (nI 1)]).toArray s 0 0 (AM am)) (F0 m 64 ls []) := by
    intro fuel
    induction fuel with
    | zero => intro o x hk9 hq H locs hf; exact absurd hf (Nat.not_lt_zero _)
    | succ fuel ih64 =>
      intro o x hk9 hq H locs hf hX ls hl
      refine lv_iload hx hb dX6_near_64 (lv_at hl 6 rfl) ?_
      refine lv_aload_n hx hb dX6_near_66 rfl (lv_at hl 0 rfl) ?_
      refine km_gsizes hx hb hts hin6 hown hX (hts (.fieldLink RX6 17 "OrderlatticeModel" "sizes" "[I") (tm 681 (by decide +kernel) rfl)) dX6_near_67 ?_
      refine lv_iload_n hx hb dX6_near_70 rfl (lv_at hl 1 rfl) ?_
      refine km_lz (v := (M.1 i).2.2) hx hb hX (by omega) rfl dX6_near_71 ?_
      refine kn_icmp_ge (tgt := 238) hx hb (by omega) (by omega) dX6_near_72 (by decide) (fun k_7 => ?_) (fun k_7 => ?_)
      · skip
        rcases o with _ | bb
        · skip
          refine lv_iload hx hb dX6_near_238 (lv_at hl 5 rfl) ?_
          refine lv_iconst (v := (-1)) hx hb dX6_near_240 (by decide) ?_
          refine lv_icmp_ne (tgt := 248) hx hb dX6_near_241 (by decide) (fun k_8 => absurd rfl k_8) (fun k_8 => ?_)
          refine lv_iconst (v := (-1)) hx hb dX6_near_244 (by decide) ?_
          refine lv_goto (tgt := 257) hx hb dX6_near_245 (by decide) ?_
          exact W.iret (v := (-1)) hx hb hr (fun t9 ht9 hW9 => ⟨⟨_, (mN M (0, M.2.2.2.1, M.2.2.2.2.1, M.2.2.2.2.2)), rfl, ⟨by rw [show (M.1 i).2.2 = x by omega, ← hq]; rfl, rfl⟩, hX.P ht9 hW9⟩, hX.2.2.2.F ht9⟩) hX.2.2.2.2.2 dX6_near_257
        · skip
          have hbb := (bestB_lt hq.symm).1
          have hl : lv_has ls 10 [(0, .ref (am 0)), (1, .int (nI i)), (2, .int (nI j)), (3, .int (nI v)), (4, .int (nI 1)), (5, .int (nI bb)), (6, .int (nI x))] := hl
          refine lv_iload hx hb dX6_near_238 (lv_at hl 5 rfl) ?_
          refine lv_iconst (v := (-1)) hx hb dX6_near_240 (by decide) ?_
          refine lv_icmp_ne (tgt := 248) hx hb dX6_near_241 (by decide) (fun k_9 => ?_) (fun k_9 => absurd k_9 (nI_nm1 (by omega)))
          refine lv_aload_n hx hb dX6_near_248 rfl (lv_at hl 0 rfl) ?_
          refine km_gmarks hx hb hts hin6 hown hX (hts (.fieldLink RX6 14 "OrderlatticeModel" "marks" "[[I") (tm 711 (by decide +kernel) rfl)) dX6_near_249 ?_
          refine lv_iload_n hx hb dX6_near_252 rfl (lv_at hl 1 rfl) ?_
          refine km_am hx hb hX (by omega) dX6_near_253 ?_
          refine lv_iload hx hb dX6_near_254 (lv_at hl 5 rfl) ?_
          refine km_lm (v := ((M.1 i).2.1) bb) hx hb hX (by omega) (by omega) rfl dX6_near_256 ?_
          exact W.iret (v := nI (((M.1 i).2.1) bb)) hx hb hr (fun t9 ht9 hW9 => ⟨⟨_, (mN M (0, M.2.2.2.1, M.2.2.2.2.1, M.2.2.2.2.2)), rfl, ⟨by rw [show (M.1 i).2.2 = x by omega, ← hq]; rfl, rfl⟩, hX.P ht9 hW9⟩, hX.2.2.2.F ht9⟩) hX.2.2.2.2.2 dX6_near_257
      · skip
        refine lv_aload_n hx hb dX6_near_75 rfl (lv_at hl 0 rfl) ?_
        refine lv_iload_n hx hb dX6_near_76 rfl (lv_at hl 2 rfl) ?_
        refine lv_aload_n hx hb dX6_near_77 rfl (lv_at hl 0 rfl) ?_
        refine km_gvalues hx hb hts hin6 hown hX (hts (.fieldLink RX6 11 "OrderlatticeModel" "values" "[[I") (tm 710 (by decide +kernel) rfl)) dX6_near_78 ?_
        refine lv_iload_n hx hb dX6_near_81 rfl (lv_at hl 1 rfl) ?_
        refine km_av hx hb hX (by omega) dX6_near_82 ?_
        refine lv_iload hx hb dX6_near_83 (lv_at hl 6 rfl) ?_
        refine km_lv (v := ((M.1 i).1) x) hx hb hX (by omega) (by omega) rfl dX6_near_85 ?_
        refine lv_iload_n hx hb dX6_near_86 rfl (lv_at hl 3 rfl) ?_
        refine kx_cr (v := cmpI (cM M j (((M.1 i).1) x)) (cM M j v)) (va_runV (As := [.int (nI j), .int (nI (((M.1 i).1) x)), .int (nI v)]) (rest := []) ⟨hx, hb, hml, hown, hts⟩ (m_X6_compareNow l dC dI am (mN M (0, M.2.2.2.1, M.2.2.2.2.1, M.2.2.2.2.2)) j (((M.1 i).1) x) v (by omega) (hI.2 j (by omega)) ((hI.1 i (by omega)).2 _ (by omega)).1 (by omega)) (cwV 3 hts gX6_near_X6_compareNow rfl rfl rfl hdX6_compareNow_3 ⟨Nat.le_of_ble_eq_true rfl, Nat.le_of_ble_eq_true rfl⟩) (hX.preObj) rfl rfl hl.1 rfl (lv_room (Nat.le_of_ble_eq_true rfl)) dX6_near_87 ⟨Nat.le_of_ble_eq_true rfl, Nat.le_of_ble_eq_true rfl⟩) (fun _ h => h) ?_
        refine lv_istore (lv' := [(7, .int (cmpI (cM M j (((M.1 i).1) x)) (cM M j v))), (0, .ref (am 0)), (1, .int (nI i)), (2, .int (nI j)), (3, .int (nI v)), (4, .int (nI 1)), (5, .int (oI o)), (6, .int (nI x))]) hx hb dX6_near_90 hl (by decide) rfl (fun ls hl => ?_)
        refine lv_iload hx hb dX6_near_92 (lv_at hl 5 rfl) ?_
        refine kn_if_ne (tgt := 110) hx hb (by omega) dX6_near_94 (by decide) (fun k_10 => ?_) (fun k_10 => absurd k_10 (by omega))
        refine lv_iload hx hb dX6_near_110 (lv_at hl 5 rfl) ?_
        refine lv_iconst (v := nI 1) hx hb dX6_near_112 (by decide) ?_
        refine kn_icmp_ne (tgt := 129) hx hb (by omega) (by omega) dX6_near_113 (by decide) (fun k_11 => absurd k_11 (by omega)) (fun k_11 => ?_)
        refine lv_iload hx hb dX6_near_116 (lv_at hl 0 rfl) ?_
        refine kc_if_gt (tgt := 125) hx hb dX6_near_118 (by decide) (fun k_12 => ?_) (fun k_12 => ?_)
        · skip
          have hw9 := k_12
          refine lv_iconst (v := nI 0) hx hb dX6_near_125 (by decide) ?_
          refine lv_goto (tgt := 158) hx hb dX6_near_126 (by decide) ?_
          refine lv_istore (lv' := [(8, .int (nI 0)), (7, .int (cmpI (cM M j (((M.1 i).1) x)) (cM M j v))), (0, .ref (am 0)), (1, .int (nI i)), (2, .int (nI j)), (3, .int (nI v)), (4, .int (nI 1)), (5, .int (oI o)), (6, .int (nI x))]) hx hb dX6_near_158 hl (by decide) rfl (fun ls hl => ?_)
          refine lv_iload hx hb dX6_near_160 (lv_at hl 0 rfl) ?_
          refine kn_if_ne (tgt := 168) hx hb (by omega) dX6_near_162 (by decide) (fun k_13 => absurd k_13 (by omega)) (fun k_13 => ?_)
          refine lv_goto (tgt := 232) hx hb dX6_near_165 (by decide) ?_
          refine lv_iinc (v := nI (x + 1)) (lv' := [(6, .int (nI (x + 1))), (8, .int (nI 0)), (7, .int (cmpI (cM M j (((M.1 i).1) x)) (cM M j v))), (0, .ref (am 0)), (1, .int (nI i)), (2, .int (nI j)), (3, .int (nI v)), (4, .int (nI 1)), (5, .int (oI o))]) hx hb dX6_near_232 hl (k := 8) rfl (nI_1 x) (by decide) rfl (fun ls hl => ?_)
          refine lv_goto (tgt := 64) hx hb dX6_near_235 (by decide) ?_
          exact ih64  o (x + 1) (by omega) (hq.trans (bestB_no (p := (fun x => sideB 1 ((cM M j) ((M.1 i).1 x)) ((cM M j) v))) (lt := (fun a b => nearB 1 ((cM M j) ((M.1 i).1 a)) ((cM M j) ((M.1 i).1 b)))) (show sideB 1 _ _ = false from decide_eq_false (by omega))).symm) _ _ (by omega) hX _ (lv_sub hl [3, 4, 5, 6, 7, 8, 0] rfl)
        · skip
          have hw9 := k_12
          refine lv_iconst (v := nI 1) hx hb dX6_near_121 (by decide) ?_
          refine lv_goto (tgt := 158) hx hb dX6_near_122 (by decide) ?_
          refine lv_istore (lv' := [(8, .int (nI 1)), (7, .int (cmpI (cM M j (((M.1 i).1) x)) (cM M j v))), (0, .ref (am 0)), (1, .int (nI i)), (2, .int (nI j)), (3, .int (nI v)), (4, .int (nI 1)), (5, .int (oI o)), (6, .int (nI x))]) hx hb dX6_near_158 hl (by decide) rfl (fun ls hl => ?_)
          refine lv_iload hx hb dX6_near_160 (lv_at hl 0 rfl) ?_
          refine kn_if_ne (tgt := 168) hx hb (by omega) dX6_near_162 (by decide) (fun k_14 => ?_) (fun k_14 => absurd k_14 (by omega))
          rcases o with _ | bb
          · skip
            refine lv_iload hx hb dX6_near_168 (lv_at hl 7 rfl) ?_
            refine lv_iconst (v := (-1)) hx hb dX6_near_170 (by decide) ?_
            refine lv_icmp_ne (tgt := 178) hx hb dX6_near_171 (by decide) (fun k_15 => absurd rfl k_15) (fun k_15 => ?_)
            refine lv_iconst (v := nI 1) hx hb dX6_near_174 (by decide) ?_
            refine lv_goto (tgt := 201) hx hb dX6_near_175 (by decide) ?_
            refine lv_istore (lv' := [(9, .int (nI 1)), (8, .int (nI 1)), (7, .int (cmpI (cM M j (((M.1 i).1) x)) (cM M j v))), (0, .ref (am 0)), (1, .int (nI i)), (2, .int (nI j)), (3, .int (nI v)), (4, .int (nI 1)), (5, .int (oI none)), (6, .int (nI x))]) hx hb dX6_near_201 hl (by decide) rfl (fun ls hl => ?_)
            refine lv_iload hx hb dX6_near_203 (lv_at hl 8 rfl) ?_
            refine lv_iconst (v := (-1)) hx hb dX6_near_205 (by decide) ?_
            refine lv_icmp_eq (tgt := 228) hx hb dX6_near_206 (by decide) (fun k_16 => ?_) (fun k_16 => absurd rfl k_16)
            refine lv_iload hx hb dX6_near_228 (lv_at hl 9 rfl) ?_
            refine lv_istore (lv' := [(5, .int (nI x)), (9, .int (nI 1)), (8, .int (nI 1)), (7, .int (cmpI (cM M j (((M.1 i).1) x)) (cM M j v))), (0, .ref (am 0)), (1, .int (nI i)), (2, .int (nI j)), (3, .int (nI v)), (4, .int (nI 1)), (6, .int (nI x))]) hx hb dX6_near_230 hl (by decide) rfl (fun ls hl => ?_)
            refine lv_iinc (v := nI (x + 1)) (lv' := [(6, .int (nI (x + 1))), (5, .int (nI x)), (9, .int (nI 1)), (8, .int (nI 1)), (7, .int (cmpI (cM M j (((M.1 i).1) x)) (cM M j v))), (0, .ref (am 0)), (1, .int (nI i)), (2, .int (nI j)), (3, .int (nI v)), (4, .int (nI 1))]) hx hb dX6_near_232 hl (k := 9) rfl (nI_1 x) (by decide) rfl (fun ls hl => ?_)
            refine lv_goto (tgt := 64) hx hb dX6_near_235 (by decide) ?_
            exact ih64  (some x) (x + 1) (by omega) (bestB_first (p := (fun x => sideB 1 ((cM M j) ((M.1 i).1 x)) ((cM M j) v))) (lt := (fun a b => nearB 1 ((cM M j) ((M.1 i).1 a)) ((cM M j) ((M.1 i).1 b)))) (show sideB 1 _ _ = true from decide_eq_true (by omega)) hq.symm).symm _ _ (by omega) hX _ (lv_sub hl [5, 6, 7, 8, 9, 1, 0] rfl)
          · skip
            have hbb := (bestB_lt hq.symm).1
            have hl : lv_has ls 10 [(8, .int (nI 1)), (7, .int (cmpI (cM M j (((M.1 i).1) x)) (cM M j v))), (0, .ref (am 0)), (1, .int (nI i)), (2, .int (nI j)), (3, .int (nI v)), (4, .int (nI 1)), (5, .int (nI bb)), (6, .int (nI x))] := hl
            refine lv_iload hx hb dX6_near_168 (lv_at hl 7 rfl) ?_
            refine lv_iconst (v := (-1)) hx hb dX6_near_170 (by decide) ?_
            refine lv_icmp_ne (tgt := 178) hx hb dX6_near_171 (by decide) (fun k_17 => ?_) (fun k_17 => absurd k_17 (nI_nm1 (by omega)))
            refine lv_aload_n hx hb dX6_near_178 rfl (lv_at hl 2 rfl) ?_
            refine lv_iload_n hx hb dX6_near_179 rfl (lv_at hl 4 rfl) ?_
            refine lv_aload_n hx hb dX6_near_180 rfl (lv_at hl 2 rfl) ?_
            refine km_gvalues hx hb hts hin6 hown hX (hts (.fieldLink RX6 11 "OrderlatticeModel" "values" "[[I") (tm 710 (by decide +kernel) rfl)) dX6_near_181 ?_
            refine lv_iload_n hx hb dX6_near_184 rfl (lv_at hl 3 rfl) ?_
            refine km_av hx hb hX (by omega) dX6_near_185 ?_
            refine lv_iload hx hb dX6_near_186 (lv_at hl 8 rfl) ?_
            refine km_lv (v := ((M.1 i).1) x) hx hb hX (by omega) (by omega) rfl dX6_near_188 ?_
            refine lv_aload_n hx hb dX6_near_189 rfl (lv_at hl 2 rfl) ?_
            refine km_gvalues hx hb hts hin6 hown hX (hts (.fieldLink RX6 11 "OrderlatticeModel" "values" "[[I") (tm 710 (by decide +kernel) rfl)) dX6_near_190 ?_
            refine lv_iload_n hx hb dX6_near_193 rfl (lv_at hl 3 rfl) ?_
            refine km_av hx hb hX (by omega) dX6_near_194 ?_
            refine lv_iload hx hb dX6_near_195 (lv_at hl 7 rfl) ?_
            refine km_lv (v := ((M.1 i).1) bb) hx hb hX (by omega) (by omega) rfl dX6_near_197 ?_
            refine kx_cr (v := cmpI (cM M j (((M.1 i).1) x)) (cM M j (((M.1 i).1) bb))) (va_runV (As := [.int (nI j), .int (nI (((M.1 i).1) x)), .int (nI (((M.1 i).1) bb))]) (rest := []) ⟨hx, hb, hml, hown, hts⟩ (m_X6_compareNow l dC dI am (mN M (0, M.2.2.2.1, M.2.2.2.2.1, M.2.2.2.2.2)) j (((M.1 i).1) x) (((M.1 i).1) bb) (by omega) (hI.2 j (by omega)) ((hI.1 i (by omega)).2 _ (by omega)).1 ((hI.1 i (by omega)).2 _ (by omega)).1) (cwV 3 hts gX6_near_X6_compareNow rfl rfl rfl hdX6_compareNow_3 ⟨Nat.le_of_ble_eq_true rfl, Nat.le_of_ble_eq_true rfl⟩) (hX.preObj) rfl rfl hl.1 rfl (lv_room (Nat.le_of_ble_eq_true rfl)) dX6_near_198 ⟨Nat.le_of_ble_eq_true rfl, Nat.le_of_ble_eq_true rfl⟩) (fun _ h => h) ?_
            refine lv_istore (lv' := [(9, .int (cmpI (cM M j (((M.1 i).1) x)) (cM M j (((M.1 i).1) bb)))), (8, .int (nI 1)), (7, .int (cmpI (cM M j (((M.1 i).1) x)) (cM M j v))), (0, .ref (am 0)), (1, .int (nI i)), (2, .int (nI j)), (3, .int (nI v)), (4, .int (nI 1)), (5, .int (nI bb)), (6, .int (nI x))]) hx hb dX6_near_201 hl (by decide) rfl (fun ls hl => ?_)
            refine lv_iload hx hb dX6_near_203 (lv_at hl 8 rfl) ?_
            refine lv_iconst (v := (-1)) hx hb dX6_near_205 (by decide) ?_
            refine lv_icmp_eq (tgt := 228) hx hb dX6_near_206 (by decide) (fun k_18 => absurd k_18 (nI_nm1 (by omega))) (fun k_18 => ?_)
            refine lv_iload hx hb dX6_near_209 (lv_at hl 7 rfl) ?_
            refine lv_iconst (v := nI 2) hx hb dX6_near_211 (by decide) ?_
            refine kn_icmp_ge (tgt := 223) hx hb (by omega) (by omega) dX6_near_212 (by decide) (fun k_19 => absurd k_19 (by omega)) (fun k_19 => ?_)
            refine lv_iload hx hb dX6_near_215 (lv_at hl 0 rfl) ?_
            refine kc_if_le (tgt := 232) hx hb dX6_near_217 (by decide) (fun k_20 => ?_) (fun k_20 => ?_)
            · skip
              have hx1 := k_20
              refine lv_iinc (v := nI (x + 1)) (lv' := [(6, .int (nI (x + 1))), (9, .int (cmpI (cM M j (((M.1 i).1) x)) (cM M j (((M.1 i).1) bb)))), (8, .int (nI 1)), (7, .int (cmpI (cM M j (((M.1 i).1) x)) (cM M j v))), (0, .ref (am 0)), (1, .int (nI i)), (2, .int (nI j)), (3, .int (nI v)), (4, .int (nI 1)), (5, .int (nI bb))]) hx hb dX6_near_232 hl (k := 9) rfl (nI_1 x) (by decide) rfl (fun ls hl => ?_)
              refine lv_goto (tgt := 64) hx hb dX6_near_235 (by decide) ?_
              exact ih64  (some bb) (x + 1) (by omega) (bestB_old (p := (fun x => sideB 1 ((cM M j) ((M.1 i).1 x)) ((cM M j) v))) (lt := (fun a b => nearB 1 ((cM M j) ((M.1 i).1 a)) ((cM M j) ((M.1 i).1 b)))) (show sideB 1 _ _ = true from decide_eq_true (by omega)) hq.symm (show nearB 1 _ _ = false from decide_eq_false (by omega))).symm _ _ (by omega) hX _ (lv_sub hl [4, 5, 6, 7, 8, 9, 0] rfl)
            · skip
              have hx1 := k_20
              refine lv_goto (tgt := 228) hx hb dX6_near_220 (by decide) ?_
              refine lv_iload hx hb dX6_near_228 (lv_at hl 9 rfl) ?_
              refine lv_istore (lv' := [(5, .int (nI x)), (9, .int (cmpI (cM M j (((M.1 i).1) x)) (cM M j (((M.1 i).1) bb)))), (8, .int (nI 1)), (7, .int (cmpI (cM M j (((M.1 i).1) x)) (cM M j v))), (0, .ref (am 0)), (1, .int (nI i)), (2, .int (nI j)), (3, .int (nI v)), (4, .int (nI 1)), (6, .int (nI x))]) hx hb dX6_near_230 hl (by decide) rfl (fun ls hl => ?_)
              refine lv_iinc (v := nI (x + 1)) (lv' := [(6, .int (nI (x + 1))), (5, .int (nI x)), (9, .int (cmpI (cM M j (((M.1 i).1) x)) (cM M j (((M.1 i).1) bb)))), (8, .int (nI 1)), (7, .int (cmpI (cM M j (((M.1 i).1) x)) (cM M j v))), (0, .ref (am 0)), (1, .int (nI i)), (2, .int (nI j)), (3, .int (nI v)), (4, .int (nI 1))]) hx hb dX6_near_232 hl (k := 9) rfl (nI_1 x) (by decide) rfl (fun ls hl => ?_)
              refine lv_goto (tgt := 64) hx hb dX6_near_235 (by decide) ?_
              exact ih64  (some x) (x + 1) (by omega) (bestB_new (p := (fun x => sideB 1 ((cM M j) ((M.1 i).1 x)) ((cM M j) v))) (lt := (fun a b => nearB 1 ((cM M j) ((M.1 i).1 a)) ((cM M j) ((M.1 i).1 b)))) (show sideB 1 _ _ = true from decide_eq_true (by omega)) hq.symm (show nearB 1 _ _ = true from decide_eq_true (by omega))).symm _ _ (by omega) hX _ (lv_sub hl [5, 6, 7, 8, 9, 1, 0] rfl)
  exact loop64 ((M.1 i).2.2 + 1) none 0 (by omega) rfl _ _ (by omega) (WM.eqS rfl hX) _ (lv_sub hl [2, 3, 4, 5, 6, 1, 0] rfl)
set_option maxHeartbeats 4000000 in
set_option maxRecDepth 100000 in
theorem m_X6_near2 (l : Launch) (dC : Nat → ClassId) (dI : Nat → Nat → Nat) (am : Nat → Nat) (M : MS) (i j v : Nat) (hi : i < 3) (hj : j < 4) (hv : v < 16) (hI : InvM M) : Met l yX6_near wsX6_near ({ frames := 2, cells := 0, slots := 0, locals := 47 } : Room) (va_Pc [.ref (am 0), .int (nI i), .int (nI j), .int (nI v), .int (nI 2)] (PM dC dI am M)) (va_Qi (fun r M' => r = exI (bestB (fun x => sideB 2 ((cM M j) ((M.1 i).1 x)) ((cM M j) v)) (fun a b => nearB 2 ((cM M j) ((M.1 i).1 a)) ((cM M j) ((M.1 i).1 b))) (M.1 i).2.2) (M.1 i).2.1 ∧ M' = thM M 0) (PM dC dI am) (AM am)) 0 0 (AM am) := by
  refine Met.ofW (cc := cX6_near) (maxL := 10) (ret := (some .int)) pl_X6 rfl ?_
  intro p e s m args below meth c s₁ B hml hv
  obtain ⟨rfl, hPX⟩ := hv
  have hx := B.exec
  have hb := B.bytes
  have hr := B.returns
  have hts := atoms_spec (ws := wsX6_near) B.pre
  have hown : s.vm.findClass RX6 = some m.cls := findClass_of_methodNamed B.named
  have hlocks := B.notSynchronized
  have hin6 : ∀ w ∈ u_ws RX6 TX6 10, w ∈ wsX6_near := tu 1331 (by decide +kernel) rfl
  have hX := WM.of hPX
  have hl := lv_entry ([.ref (am 0), .int (nI i), .int (nI j), .int (nI v), .int (nI 2)]) (n := 10) (Nat.le_of_ble_eq_true rfl)
  rw [lg_entry_eq]
  generalize (lg_sl ([.ref (am 0), .int (nI i), .int (nI j), .int (nI v), .int (nI 2)]) ++ List.replicate (10 - (lg_sl ([.ref (am 0), .int (nI i), .int (nI j), .int (nI v), .int (nI 2)])).length) Slot.unset).toArray = ls at hl ⊢
  have hl : lv_has ls 10 [(0, .ref (am 0)), (1, .int (nI i)), (2, .int (nI j)), (3, .int (nI v)), (4, .int (nI 2))] := hl
  show W p l e ({ frames := 2, cells := 0, slots := 0, locals := 47 } : Room) s m ([.ref (am 0), .int (nI i), .int (nI j), .int (nI v), .int (nI 2)]).toArray below meth c s.heap [] 0 0 (MQ below (va_Qi (fun r M' => r = exI (bestB (fun x => sideB 2 ((cM M j) ((M.1 i).1 x)) ((cM M j) v)) (fun a b => nearB 2 ((cM M j) ((M.1 i).1 a)) ((cM M j) ((M.1 i).1 b))) (M.1 i).2.2) (M.1 i).2.1 ∧ M' = thM M 0) (PM dC dI am) (AM am)) ([.ref (am 0), .int (nI i), .int (nI j), .int (nI v), .int (nI 2)]).toArray s 0 0 (AM am)) (F0 m 0 ls [])
  have hn := (hI.1 i (by omega)).1
  refine lv_aload_n hx hb dX6_near_0 rfl (lv_at hl 0 rfl) ?_
  refine lv_iload_n hx hb dX6_near_1 rfl (lv_at hl 1 rfl) ?_
  refine kx_cr (v := bI false) (va_runS (As := [.int (nI i)]) (rest := [.ref (am 0)]) ⟨hx, hb, hml, hown, hts⟩ (m_X6_isNoRow l dC dI am M (nI i)) (va_cwS 1 hts gX6_near_X6_isNoRow rfl rfl rfl hdX6_isNoRow_1.2 ⟨Nat.le_of_ble_eq_true rfl, Nat.le_of_ble_eq_true rfl⟩) hX.preS rfl rfl hl.1 rfl (lv_room (Nat.le_of_ble_eq_true rfl)) dX6_near_2 ⟨Nat.le_of_ble_eq_true rfl, Nat.le_of_ble_eq_true rfl⟩) (fun _ h => h.trans (isNo_ok (by omega) (by omega))) ?_
  refine kb_if_ne (tgt := 15) hx hb dX6_near_5 (by decide) (fun k_1 => absurd k_1 (by decide)) (fun k_1 => ?_)
  refine lv_iload_n hx hb dX6_near_8 rfl (lv_at hl 2 rfl) ?_
  refine kx_cr (v := bI false) (va_runS (As := [.int (nI j)]) (rest := [.ref (am 0)]) ⟨hx, hb, hml, hown, hts⟩ (m_X6_isNoOrder l dC dI am M (nI j)) (va_cwS 1 hts gX6_near_X6_isNoOrder rfl rfl rfl hdX6_isNoOrder_1.2 ⟨Nat.le_of_ble_eq_true rfl, Nat.le_of_ble_eq_true rfl⟩) hX.preS rfl rfl hl.1 rfl (lv_room (Nat.le_of_ble_eq_true rfl)) dX6_near_9 ⟨Nat.le_of_ble_eq_true rfl, Nat.le_of_ble_eq_true rfl⟩) (fun _ h => h.trans (isNo_ok (by omega) (by omega))) ?_
  refine kb_if_eq (tgt := 19) hx hb dX6_near_12 (by decide) (fun k_2 => ?_) (fun k_2 => absurd k_2 (by decide))
  refine lv_iconst (v := nI 0) hx hb dX6_near_19 (by decide) ?_
  refine lv_iconst (v := nI 1) hx hb dX6_near_20 (by decide) ?_
  refine km_ci (va_runV (As := [.int (nI 0), .int (nI 1)]) (rest := []) ⟨hx, hb, hml, hown, hts⟩ (m_X6_start l dC dI am M false 1 (by omega)) (cwV 2 hts gX6_near_X6_start rfl rfl rfl hdX6_start_2 ⟨Nat.le_of_ble_eq_true rfl, Nat.le_of_ble_eq_true rfl⟩) (hX.preObj) rfl rfl hl.1 rfl (lv_room (Nat.le_of_ble_eq_true rfl)) dX6_near_21 ⟨Nat.le_of_ble_eq_true rfl, Nat.le_of_ble_eq_true rfl⟩) hX (fun _ h => h) (fun r_ S_ H locs hw hX => ?_)
  obtain ⟨rfl, rfl⟩ := hw
  refine kb_if_ne (tgt := 56) hx hb dX6_near_24 (by decide) (fun k_3 => absurd k_3 (by decide)) (fun k_3 => ?_)
  refine lv_aload_n hx hb dX6_near_27 rfl (lv_at hl 0 rfl) ?_
  refine lv_iload_n hx hb dX6_near_28 rfl (lv_at hl 3 rfl) ?_
  refine kx_cr (v := bI false) (va_runS (As := [.int (nI v)]) (rest := [.ref (am 0)]) ⟨hx, hb, hml, hown, hts⟩ (m_X6_isNoValue l dC dI am (mN M (0, M.2.2.2.1, M.2.2.2.2.1, M.2.2.2.2.2)) (nI v)) (va_cwS 1 hts gX6_near_X6_isNoValue rfl rfl rfl hdX6_isNoValue_1.2 ⟨Nat.le_of_ble_eq_true rfl, Nat.le_of_ble_eq_true rfl⟩) hX.preS rfl rfl hl.1 rfl (lv_room (Nat.le_of_ble_eq_true rfl)) dX6_near_29 ⟨Nat.le_of_ble_eq_true rfl, Nat.le_of_ble_eq_true rfl⟩) (fun _ h => h.trans (isNo_ok (by omega) (by omega))) ?_
  refine kb_if_ne (tgt := 44) hx hb dX6_near_32 (by decide) (fun k_4 => absurd k_4 (by decide)) (fun k_4 => ?_)
  refine lv_iload hx hb dX6_near_35 (lv_at hl 4 rfl) ?_
  refine lv_iconst (v := nI 3) hx hb dX6_near_37 (by decide) ?_
  refine kx_cr (v := bI false) (va_runS (As := [.int (nI 2), .int (nI 3)]) (rest := [.ref (am 0)]) ⟨hx, hb, hml, hown, hts⟩ (m_X6_isNo l dC dI am (mN M (0, M.2.2.2.1, M.2.2.2.2.1, M.2.2.2.2.2)) (nI 2) (nI 3)) (va_cwS 2 hts gX6_near_X6_isNo rfl rfl rfl hdX6_isNo_2.2 ⟨Nat.le_of_ble_eq_true rfl, Nat.le_of_ble_eq_true rfl⟩) hX.preS rfl rfl hl.1 rfl (lv_room (Nat.le_of_ble_eq_true rfl)) dX6_near_38 ⟨Nat.le_of_ble_eq_true rfl, Nat.le_of_ble_eq_true rfl⟩) (fun _ h => h.trans (isNo_ok (by omega) (by omega))) ?_
  refine kb_if_eq (tgt := 48) hx hb dX6_near_41 (by decide) (fun k_5 => ?_) (fun k_5 => absurd k_5 (by decide))
  refine lv_iconst (v := nI 0) hx hb dX6_near_48 (by decide) ?_
  refine lv_iconst (v := nI 2) hx hb dX6_near_49 (by decide) ?_
  refine km_ci (va_runV (As := [.int (nI 0), .int (nI 2)]) (rest := []) ⟨hx, hb, hml, hown, hts⟩ (m_X6_refuse l dC dI am (mN M (0, M.2.2.2.1, M.2.2.2.2.1, M.2.2.2.2.2)) false 2 (by omega) rfl) (cwV 2 hts gX6_near_X6_refuse rfl rfl rfl hdX6_refuse_2 ⟨Nat.le_of_ble_eq_true rfl, Nat.le_of_ble_eq_true rfl⟩) (hX.preObj) rfl rfl hl.1 rfl (lv_room (Nat.le_of_ble_eq_true rfl)) dX6_near_50 ⟨Nat.le_of_ble_eq_true rfl, Nat.le_of_ble_eq_true rfl⟩) hX (fun _ h => h) (fun r_ S_ H locs hw hX => ?_)
  obtain ⟨rfl, rfl⟩ := hw
  refine kb_if_eq (tgt := 58) hx hb dX6_near_53 (by decide) (fun k_6 => ?_) (fun k_6 => absurd k_6 (by decide))
  refine lv_iconst (v := (-1)) hx hb dX6_near_58 (by decide) ?_
  refine lv_istore (lv' := [(5, .int (-1)), (0, .ref (am 0)), (1, .int (nI i)), (2, .int (nI j)), (3, .int (nI v)), (4, .int (nI 2))]) hx hb dX6_near_59 hl (by decide) rfl (fun ls hl => ?_)
  refine lv_iconst (v := nI 0) hx hb dX6_near_61 (by decide) ?_
  refine lv_istore (lv' := [(6, .int (nI 0)), (5, .int (-1)), (0, .ref (am 0)), (1, .int (nI i)), (2, .int (nI j)), (3, .int (nI v)), (4, .int (nI 2))]) hx hb dX6_near_62 hl (by decide) rfl (fun ls hl => ?_)
  have loop64 : ∀ (fuel : Nat) (o : Option Nat) (x : Nat) (hk9 : x ≤ (M.1 i).2.2) (hq : o = bestB (fun x => sideB 2 ((cM M j) ((M.1 i).1 x)) ((cM M j) v)) (fun a b => nearB 2 ((cM M j) ((M.1 i).1 a)) ((cM M j) ((M.1 i).1 b))) x) (H : Heap) (locs : List Loc), (M.1 i).2.2 - x < fuel → WM dC dI am (mN M (0, M.2.2.2.1, M.2.2.2.2.1, M.2.2.2.2.2)) [] (AM am) s H locs → ∀ ls : Array Slot, lv_has ls 10 [(0, .ref (am 0)), (1, .int (nI i)), (2, .int (nI j)), (3, .int (nI v)), (4, .int (nI 2)), (5, .int (oI o)), (6, .int (nI x))] → W p l e ({ frames := 2, cells := 0, slots := 0, locals := 47 } : Room) s m ([.ref (am 0), .int (nI i), .int (nI j), .int (nI v), .int (nI 2)]).toArray below meth c H locs 0 0 (MQ below (va_Qi (fun r M' => r = exI (bestB (fun x => sideB 2 ((cM M j) ((M.1 i).1 x)) ((cM M j) v)) (fun a b => nearB 2 ((cM M j) ((M.1 i).1 a)) ((cM M j) ((M.1 i).1 b))) (M.1 i).2.2) (M.1 i).2.1 ∧ M' = thM M 0) (PM dC dI am) (AM am)) ([.ref (am 0), .int (nI i), .int (nI j), .int (nI v), .int (nI 2)]).toArray s 0 0 (AM am)) (F0 m 64 ls []) := by
    intro fuel
    induction fuel with
    | zero => intro o x hk9 hq H locs hf; exact absurd hf (Nat.not_lt_zero _)
    | succ fuel ih64 =>
      intro o x hk9 hq H locs hf hX ls hl
      refine lv_iload hx hb dX6_near_64 (lv_at hl 6 rfl) ?_
      refine lv_aload_n hx hb dX6_near_66 rfl (lv_at hl 0 rfl) ?_
      refine km_gsizes hx hb hts hin6 hown hX (hts (.fieldLink RX6 17 "OrderlatticeModel" "sizes" "[I") (tm 681 (by decide +kernel) rfl)) dX6_near_67 ?_
      refine lv_iload_n hx hb dX6_near_70 rfl (lv_at hl 1 rfl) ?_
      refine km_lz (v := (M.1 i).2.2) hx hb hX (by omega) rfl dX6_near_71 ?_
      refine kn_icmp_ge (tgt := 238) hx hb (by omega) (by omega) dX6_near_72 (by decide) (fun k_7 => ?_) (fun k_7 => ?_)
      · skip
        rcases o with _ | bb
        · skip
          refine lv_iload hx hb dX6_near_238 (lv_at hl 5 rfl) ?_
          refine lv_iconst (v := (-1)) hx hb dX6_near_240 (by decide) ?_
          refine lv_icmp_ne (tgt := 248) hx hb dX6_near_241 (by decide) (fun k_8 => absurd rfl k_8) (fun k_8 => ?_)
          refine lv_iconst (v := (-1)) hx hb dX6_near_244 (by decide) ?_
          refine lv_goto (tgt := 257) hx hb dX6_near_245 (by decide) ?_
          exact W.iret (v := (-1)) hx hb hr (fun t9 ht9 hW9 => ⟨⟨_, (mN M (0, M.2.2.2.1, M.2.2.2.2.1, M.2.2.2.2.2)), rfl, ⟨by rw [show (M.1 i).2.2 = x by omega, ← hq]; rfl, rfl⟩, hX.P ht9 hW9⟩, hX.2.2.2.F ht9⟩) hX.2.2.2.2.2 dX6_near_257
        · skip
          have hbb := (bestB_lt hq.symm).1
          have hl : lv_has ls 10 [(0, .ref (am 0)), (1, .int (nI i)), (2, .int (nI j)), (3, .int (nI v)), (4, .int (nI 2)), (5, .int (nI bb)), (6, .int (nI x))] := hl
          refine lv_iload hx hb dX6_near_238 (lv_at hl 5 rfl) ?_
          refine lv_iconst (v := (-1)) hx hb dX6_near_240 (by decide) ?_
          refine lv_icmp_ne (tgt := 248) hx hb dX6_near_241 (by decide) (fun k_9 => ?_) (fun k_9 => absurd k_9 (nI_nm1 (by omega)))
          refine lv_aload_n hx hb dX6_near_248 rfl (lv_at hl 0 rfl) ?_
          refine km_gmarks hx hb hts hin6 hown hX (hts (.fieldLink RX6 14 "OrderlatticeModel" "marks" "[[I") (tm 711 (by decide +kernel) rfl)) dX6_near_249 ?_
          refine lv_iload_n hx hb dX6_near_252 rfl (lv_at hl 1 rfl) ?_
          refine km_am hx hb hX (by omega) dX6_near_253 ?_
          refine lv_iload hx hb dX6_near_254 (lv_at hl 5 rfl) ?_
          refine km_lm (v := ((M.1 i).2.1) bb) hx hb hX (by omega) (by omega) rfl dX6_near_256 ?_
          exact W.iret (v := nI (((M.1 i).2.1) bb)) hx hb hr (fun t9 ht9 hW9 => ⟨⟨_, (mN M (0, M.2.2.2.1, M.2.2.2.2.1, M.2.2.2.2.2)), rfl, ⟨by rw [show (M.1 i).2.2 = x by omega, ← hq]; rfl, rfl⟩, hX.P ht9 hW9⟩, hX.2.2.2.F ht9⟩) hX.2.2.2.2.2 dX6_near_257
      · skip
        refine lv_aload_n hx hb dX6_near_75 rfl (lv_at hl 0 rfl) ?_
        refine lv_iload_n hx hb dX6_near_76 rfl (lv_at hl 2 rfl) ?_
        refine lv_aload_n hx hb dX6_near_77 rfl (lv_at hl 0 rfl) ?_
        refine km_gvalues hx hb hts hin6 hown hX (hts (.fieldLink RX6 11 "OrderlatticeModel" "values" "[[I") (tm 710 (by decide +kernel) rfl)) dX6_near_78 ?_
        refine lv_iload_n hx hb dX6_near_81 rfl (lv_at hl 1 rfl) ?_
        refine km_av hx hb hX (by omega) dX6_near_82 ?_
        refine lv_iload hx hb dX6_near_83 (lv_at hl 6 rfl) ?_
        refine km_lv (v := ((M.1 i).1) x) hx hb hX (by omega) (by omega) rfl dX6_near_85 ?_
        refine lv_iload_n hx hb dX6_near_86 rfl (lv_at hl 3 rfl) ?_
        refine kx_cr (v := cmpI (cM M j (((M.1 i).1) x)) (cM M j v)) (va_runV (As := [.int (nI j), .int (nI (((M.1 i).1) x)), .int (nI v)]) (rest := []) ⟨hx, hb, hml, hown, hts⟩ (m_X6_compareNow l dC dI am (mN M (0, M.2.2.2.1, M.2.2.2.2.1, M.2.2.2.2.2)) j (((M.1 i).1) x) v (by omega) (hI.2 j (by omega)) ((hI.1 i (by omega)).2 _ (by omega)).1 (by omega)) (cwV 3 hts gX6_near_X6_compareNow rfl rfl rfl hdX6_compareNow_3 ⟨Nat.le_of_ble_eq_true rfl, Nat.le_of_ble_eq_true rfl⟩) (hX.preObj) rfl rfl hl.1 rfl (lv_room (Nat.le_of_ble_eq_true rfl)) dX6_near_87 ⟨Nat.le_of_ble_eq_true rfl, Nat.le_of_ble_eq_true rfl⟩) (fun _ h => h) ?_
        refine lv_istore (lv' := [(7, .int (cmpI (cM M j (((M.1 i).1) x)) (cM M j v))), (0, .ref (am 0)), (1, .int (nI i)), (2, .int (nI j)), (3, .int (nI v)), (4, .int (nI 2)), (5, .int (oI o)), (6, .int (nI x))]) hx hb dX6_near_90 hl (by decide) rfl (fun ls hl => ?_)
        refine lv_iload hx hb dX6_near_92 (lv_at hl 5 rfl) ?_
        refine kn_if_ne (tgt := 110) hx hb (by omega) dX6_near_94 (by decide) (fun k_10 => ?_) (fun k_10 => absurd k_10 (by omega))
        refine lv_iload hx hb dX6_near_110 (lv_at hl 5 rfl) ?_
        refine lv_iconst (v := nI 1) hx hb dX6_near_112 (by decide) ?_
        refine kn_icmp_ne (tgt := 129) hx hb (by omega) (by omega) dX6_near_113 (by decide) (fun k_11 => ?_) (fun k_11 => absurd k_11 (by omega))
        refine lv_iload hx hb dX6_near_129 (lv_at hl 5 rfl) ?_
        refine lv_iconst (v := nI 2) hx hb dX6_near_131 (by decide) ?_
        refine kn_icmp_ne (tgt := 148) hx hb (by omega) (by omega) dX6_near_132 (by decide) (fun k_12 => absurd k_12 (by omega)) (fun k_12 => ?_)
        refine lv_iload hx hb dX6_near_135 (lv_at hl 0 rfl) ?_
        refine kc_if_lt (tgt := 144) hx hb dX6_near_137 (by decide) (fun k_13 => ?_) (fun k_13 => ?_)
        · skip
          have hw9 := k_13
          refine lv_iconst (v := nI 0) hx hb dX6_near_144 (by decide) ?_
          refine lv_goto (tgt := 158) hx hb dX6_near_145 (by decide) ?_
          refine lv_istore (lv' := [(8, .int (nI 0)), (7, .int (cmpI (cM M j (((M.1 i).1) x)) (cM M j v))), (0, .ref (am 0)), (1, .int (nI i)), (2, .int (nI j)), (3, .int (nI v)), (4, .int (nI 2)), (5, .int (oI o)), (6, .int (nI x))]) hx hb dX6_near_158 hl (by decide) rfl (fun ls hl => ?_)
          refine lv_iload hx hb dX6_near_160 (lv_at hl 0 rfl) ?_
          refine kn_if_ne (tgt := 168) hx hb (by omega) dX6_near_162 (by decide) (fun k_14 => absurd k_14 (by omega)) (fun k_14 => ?_)
          refine lv_goto (tgt := 232) hx hb dX6_near_165 (by decide) ?_
          refine lv_iinc (v := nI (x + 1)) (lv' := [(6, .int (nI (x + 1))), (8, .int (nI 0)), (7, .int (cmpI (cM M j (((M.1 i).1) x)) (cM M j v))), (0, .ref (am 0)), (1, .int (nI i)), (2, .int (nI j)), (3, .int (nI v)), (4, .int (nI 2)), (5, .int (oI o))]) hx hb dX6_near_232 hl (k := 8) rfl (nI_1 x) (by decide) rfl (fun ls hl => ?_)
          refine lv_goto (tgt := 64) hx hb dX6_near_235 (by decide) ?_
          exact ih64  o (x + 1) (by omega) (hq.trans (bestB_no (p := (fun x => sideB 2 ((cM M j) ((M.1 i).1 x)) ((cM M j) v))) (lt := (fun a b => nearB 2 ((cM M j) ((M.1 i).1 a)) ((cM M j) ((M.1 i).1 b)))) (show sideB 2 _ _ = false from decide_eq_false (by omega))).symm) _ _ (by omega) hX _ (lv_sub hl [3, 4, 5, 6, 7, 8, 0] rfl)
        · skip
          have hw9 := k_13
          refine lv_iconst (v := nI 1) hx hb dX6_near_140 (by decide) ?_
          refine lv_goto (tgt := 158) hx hb dX6_near_141 (by decide) ?_
          refine lv_istore (lv' := [(8, .int (nI 1)), (7, .int (cmpI (cM M j (((M.1 i).1) x)) (cM M j v))), (0, .ref (am 0)), (1, .int (nI i)), (2, .int (nI j)), (3, .int (nI v)), (4, .int (nI 2)), (5, .int (oI o)), (6, .int (nI x))]) hx hb dX6_near_158 hl (by decide) rfl (fun ls hl => ?_)
          refine lv_iload hx hb dX6_near_160 (lv_at hl 0 rfl) ?_
          refine kn_if_ne (tgt := 168) hx hb (by omega) dX6_near_162 (by decide) (fun k_15 => ?_) (fun k_15 => absurd k_15 (by omega))
          rcases o with _ | bb
          · skip
            refine lv_iload hx hb dX6_near_168 (lv_at hl 7 rfl) ?_
            refine lv_iconst (v := (-1)) hx hb dX6_near_170 (by decide) ?_
            refine lv_icmp_ne (tgt := 178) hx hb dX6_near_171 (by decide) (fun k_16 => absurd rfl k_16) (fun k_16 => ?_)
            refine lv_iconst (v := nI 1) hx hb dX6_near_174 (by decide) ?_
            refine lv_goto (tgt := 201) hx hb dX6_near_175 (by decide) ?_
            refine lv_istore (lv' := [(9, .int (nI 1)), (8, .int (nI 1)), (7, .int (cmpI (cM M j (((M.1 i).1) x)) (cM M j v))), (0, .ref (am 0)), (1, .int (nI i)), (2, .int (nI j)), (3, .int (nI v)), (4, .int (nI 2)), (5, .int (oI none)), (6, .int (nI x))]) hx hb dX6_near_201 hl (by decide) rfl (fun ls hl => ?_)
            refine lv_iload hx hb dX6_near_203 (lv_at hl 8 rfl) ?_
            refine lv_iconst (v := (-1)) hx hb dX6_near_205 (by decide) ?_
            refine lv_icmp_eq (tgt := 228) hx hb dX6_near_206 (by decide) (fun k_17 => ?_) (fun k_17 => absurd rfl k_17)
            refine lv_iload hx hb dX6_near_228 (lv_at hl 9 rfl) ?_
            refine lv_istore (lv' := [(5, .int (nI x)), (9, .int (nI 1)), (8, .int (nI 1)), (7, .int (cmpI (cM M j (((M.1 i).1) x)) (cM M j v))), (0, .ref (am 0)), (1, .int (nI i)), (2, .int (nI j)), (3, .int (nI v)), (4, .int (nI 2)), (6, .int (nI x))]) hx hb dX6_near_230 hl (by decide) rfl (fun ls hl => ?_)
            refine lv_iinc (v := nI (x + 1)) (lv' := [(6, .int (nI (x + 1))), (5, .int (nI x)), (9, .int (nI 1)), (8, .int (nI 1)), (7, .int (cmpI (cM M j (((M.1 i).1) x)) (cM M j v))), (0, .ref (am 0)), (1, .int (nI i)), (2, .int (nI j)), (3, .int (nI v)), (4, .int (nI 2))]) hx hb dX6_near_232 hl (k := 9) rfl (nI_1 x) (by decide) rfl (fun ls hl => ?_)
            refine lv_goto (tgt := 64) hx hb dX6_near_235 (by decide) ?_
            exact ih64  (some x) (x + 1) (by omega) (bestB_first (p := (fun x => sideB 2 ((cM M j) ((M.1 i).1 x)) ((cM M j) v))) (lt := (fun a b => nearB 2 ((cM M j) ((M.1 i).1 a)) ((cM M j) ((M.1 i).1 b)))) (show sideB 2 _ _ = true from decide_eq_true (by omega)) hq.symm).symm _ _ (by omega) hX _ (lv_sub hl [5, 6, 7, 8, 9, 1, 0] rfl)
          · skip
            have hbb := (bestB_lt hq.symm).1
            have hl : lv_has ls 10 [(8, .int (nI 1)), (7, .int (cmpI (cM M j (((M.1 i).1) x)) (cM M j v))), (0, .ref (am 0)), (1, .int (nI i)), (2, .int (nI j)), (3, .int (nI v)), (4, .int (nI 2)), (5, .int (nI bb)), (6, .int (nI x))] := hl
            refine lv_iload hx hb dX6_near_168 (lv_at hl 7 rfl) ?_
            refine lv_iconst (v := (-1)) hx hb dX6_near_170 (by decide) ?_
            refine lv_icmp_ne (tgt := 178) hx hb dX6_near_171 (by decide) (fun k_18 => ?_) (fun k_18 => absurd k_18 (nI_nm1 (by omega)))
            refine lv_aload_n hx hb dX6_near_178 rfl (lv_at hl 2 rfl) ?_
            refine lv_iload_n hx hb dX6_near_179 rfl (lv_at hl 4 rfl) ?_
            refine lv_aload_n hx hb dX6_near_180 rfl (lv_at hl 2 rfl) ?_
            refine km_gvalues hx hb hts hin6 hown hX (hts (.fieldLink RX6 11 "OrderlatticeModel" "values" "[[I") (tm 710 (by decide +kernel) rfl)) dX6_near_181 ?_
            refine lv_iload_n hx hb dX6_near_184 rfl (lv_at hl 3 rfl) ?_
            refine km_av hx hb hX (by omega) dX6_near_185 ?_
            refine lv_iload hx hb dX6_near_186 (lv_at hl 8 rfl) ?_
            refine km_lv (v := ((M.1 i).1) x) hx hb hX (by omega) (by omega) rfl dX6_near_188 ?_
            refine lv_aload_n hx hb dX6_near_189 rfl (lv_at hl 2 rfl) ?_
            refine km_gvalues hx hb hts hin6 hown hX (hts (.fieldLink RX6 11 "OrderlatticeModel" "values" "[[I") (tm 710 (by decide +kernel) rfl)) dX6_near_190 ?_
            refine lv_iload_n hx hb dX6_near_193 rfl (lv_at hl 3 rfl) ?_
            refine km_av hx hb hX (by omega) dX6_near_194 ?_
            refine lv_iload hx hb dX6_near_195 (lv_at hl 7 rfl) ?_
            refine km_lv (v := ((M.1 i).1) bb) hx hb hX (by omega) (by omega) rfl dX6_near_197 ?_
            refine kx_cr (v := cmpI (cM M j (((M.1 i).1) x)) (cM M j (((M.1 i).1) bb))) (va_runV (As := [.int (nI j), .int (nI (((M.1 i).1) x)), .int (nI (((M.1 i).1) bb))]) (rest := []) ⟨hx, hb, hml, hown, hts⟩ (m_X6_compareNow l dC dI am (mN M (0, M.2.2.2.1, M.2.2.2.2.1, M.2.2.2.2.2)) j (((M.1 i).1) x) (((M.1 i).1) bb) (by omega) (hI.2 j (by omega)) ((hI.1 i (by omega)).2 _ (by omega)).1 ((hI.1 i (by omega)).2 _ (by omega)).1) (cwV 3 hts gX6_near_X6_compareNow rfl rfl rfl hdX6_compareNow_3 ⟨Nat.le_of_ble_eq_true rfl, Nat.le_of_ble_eq_true rfl⟩) (hX.preObj) rfl rfl hl.1 rfl (lv_room (Nat.le_of_ble_eq_true rfl)) dX6_near_198 ⟨Nat.le_of_ble_eq_true rfl, Nat.le_of_ble_eq_true rfl⟩) (fun _ h => h) ?_
            refine lv_istore (lv' := [(9, .int (cmpI (cM M j (((M.1 i).1) x)) (cM M j (((M.1 i).1) bb)))), (8, .int (nI 1)), (7, .int (cmpI (cM M j (((M.1 i).1) x)) (cM M j v))), (0, .ref (am 0)), (1, .int (nI i)), (2, .int (nI j)), (3, .int (nI v)), (4, .int (nI 2)), (5, .int (nI bb)), (6, .int (nI x))]) hx hb dX6_near_201 hl (by decide) rfl (fun ls hl => ?_)
            refine lv_iload hx hb dX6_near_203 (lv_at hl 8 rfl) ?_
            refine lv_iconst (v := (-1)) hx hb dX6_near_205 (by decide) ?_
            refine lv_icmp_eq (tgt := 228) hx hb dX6_near_206 (by decide) (fun k_19 => absurd k_19 (nI_nm1 (by omega))) (fun k_19 => ?_)
            refine lv_iload hx hb dX6_near_209 (lv_at hl 7 rfl) ?_
            refine lv_iconst (v := nI 2) hx hb dX6_near_211 (by decide) ?_
            refine kn_icmp_ge (tgt := 223) hx hb (by omega) (by omega) dX6_near_212 (by decide) (fun k_20 => ?_) (fun k_20 => absurd k_20 (by omega))
            refine lv_iload hx hb dX6_near_223 (lv_at hl 0 rfl) ?_
            refine kc_if_ge (tgt := 232) hx hb dX6_near_225 (by decide) (fun k_21 => ?_) (fun k_21 => ?_)
            · skip
              have hx1 := k_21
              refine lv_iinc (v := nI (x + 1)) (lv' := [(6, .int (nI (x + 1))), (9, .int (cmpI (cM M j (((M.1 i).1) x)) (cM M j (((M.1 i).1) bb)))), (8, .int (nI 1)), (7, .int (cmpI (cM M j (((M.1 i).1) x)) (cM M j v))), (0, .ref (am 0)), (1, .int (nI i)), (2, .int (nI j)), (3, .int (nI v)), (4, .int (nI 2)), (5, .int (nI bb))]) hx hb dX6_near_232 hl (k := 9) rfl (nI_1 x) (by decide) rfl (fun ls hl => ?_)
              refine lv_goto (tgt := 64) hx hb dX6_near_235 (by decide) ?_
              exact ih64  (some bb) (x + 1) (by omega) (bestB_old (p := (fun x => sideB 2 ((cM M j) ((M.1 i).1 x)) ((cM M j) v))) (lt := (fun a b => nearB 2 ((cM M j) ((M.1 i).1 a)) ((cM M j) ((M.1 i).1 b)))) (show sideB 2 _ _ = true from decide_eq_true (by omega)) hq.symm (show nearB 2 _ _ = false from decide_eq_false (by omega))).symm _ _ (by omega) hX _ (lv_sub hl [4, 5, 6, 7, 8, 9, 0] rfl)
            · skip
              have hx1 := k_21
              refine lv_iload hx hb dX6_near_228 (lv_at hl 9 rfl) ?_
              refine lv_istore (lv' := [(5, .int (nI x)), (9, .int (cmpI (cM M j (((M.1 i).1) x)) (cM M j (((M.1 i).1) bb)))), (8, .int (nI 1)), (7, .int (cmpI (cM M j (((M.1 i).1) x)) (cM M j v))), (0, .ref (am 0)), (1, .int (nI i)), (2, .int (nI j)), (3, .int (nI v)), (4, .int (nI 2)), (6, .int (nI x))]) hx hb dX6_near_230 hl (by decide) rfl (fun ls hl => ?_)
              refine lv_iinc (v := nI (x + 1)) (lv' := [(6, .int (nI (x + 1))), (5, .int (nI x)), (9, .int (cmpI (cM M j (((M.1 i).1) x)) (cM M j (((M.1 i).1) bb)))), (8, .int (nI 1)), (7, .int (cmpI (cM M j (((M.1 i).1) x)) (cM M j v))), (0, .ref (am 0)), (1, .int (nI i)), (2, .int (nI j)), (3, .int (nI v)), (4, .int (nI 2))]) hx hb dX6_near_232 hl (k := 9) rfl (nI_1 x) (by decide) rfl (fun ls hl => ?_)
              refine lv_goto (tgt := 64) hx hb dX6_near_235 (by decide) ?_
              exact ih64  (some x) (x + 1) (by omega) (bestB_new (p := (fun x => sideB 2 ((cM M j) ((M.1 i).1 x)) ((cM M j) v))) (lt := (fun a b => nearB 2 ((cM M j) ((M.1 i).1 a)) ((cM M j) ((M.1 i).1 b)))) (show sideB 2 _ _ = true from decide_eq_true (by omega)) hq.symm (show nearB 2 _ _ = true from decide_eq_true (by omega))).symm _ _ (by omega) hX _ (lv_sub hl [5, 6, 7, 8, 9, 1, 0] rfl)
  exact loop64 ((M.1 i).2.2 + 1) none 0 (by omega) rfl _ _ (by omega) (WM.eqS rfl hX) _ (lv_sub hl [2, 3, 4, 5, 6, 1, 0] rfl)
set_option maxHeartbeats 4000000 in
set_option maxRecDepth 100000 in
theorem m_X6_near3 (l : Launch) (dC : Nat → ClassId) (dI : Nat → Nat → Nat) (am : Nat → Nat) (M : MS) (i j v : Nat) (hi : i < 3) (hj : j < 4) (hv : v < 16) (hI : InvM M) : Met l yX6_near wsX6_near ({ frames := 2, cells := 0, slots := 0, locals := 47 } : Room) (va_Pc [.ref (am 0), .int (nI i), .int (nI j), .int (nI v), .int (nI 3)] (PM dC dI am M)) (va_Qi (fun r M' => r = exI (bestB (fun x => sideB 3 ((cM M j) ((M.1 i).1 x)) ((cM M j) v)) (fun a b => nearB 3 ((cM M j) ((M.1 i).1 a)) ((cM M j) ((M.1 i).1 b))) (M.1 i).2.2) (M.1 i).2.1 ∧ M' = thM M 0) (PM dC dI am) (AM am)) 0 0 (AM am) := by
  refine Met.ofW (cc := cX6_near) (maxL := 10) (ret := (some .int)) pl_X6 rfl ?_
  intro p e s m args below meth c s₁ B hml hv
  obtain ⟨rfl, hPX⟩ := hv
  have hx := B.exec
  have hb := B.bytes
  have hr := B.returns
  have hts := atoms_spec (ws := wsX6_near) B.pre
  have hown : s.vm.findClass RX6 = some m.cls := findClass_of_methodNamed B.named
  have hlocks := B.notSynchronized
  have hin6 : ∀ w ∈ u_ws RX6 TX6 10, w ∈ wsX6_near := tu 1331 (by decide +kernel) rfl
  have hX := WM.of hPX
  have hl := lv_entry ([.ref (am 0), .int (nI i), .int (nI j), .int (nI v), .int (nI 3)]) (n := 10) (Nat.le_of_ble_eq_true rfl)
  rw [lg_entry_eq]
  generalize (lg_sl ([.ref (am 0), .int (nI i), .int (nI j), .int (nI v), .int (nI 3)]) ++ List.replicate (10 - (lg_sl ([.ref (am 0), .int (nI i), .int (nI j), .int (nI v), .int (nI 3)])).length) Slot.unset).toArray = ls at hl ⊢
  have hl : lv_has ls 10 [(0, .ref (am 0)), (1, .int (nI i)), (2, .int (nI j)), (3, .int (nI v)), (4, .int (nI 3))] := hl
  show W p l e ({ frames := 2, cells := 0, slots := 0, locals := 47 } : Room) s m ([.ref (am 0), .int (nI i), .int (nI j), .int (nI v), .int (nI 3)]).toArray below meth c s.heap [] 0 0 (MQ below (va_Qi (fun r M' => r = exI (bestB (fun x => sideB 3 ((cM M j) ((M.1 i).1 x)) ((cM M j) v)) (fun a b => nearB 3 ((cM M j) ((M.1 i).1 a)) ((cM M j) ((M.1 i).1 b))) (M.1 i).2.2) (M.1 i).2.1 ∧ M' = thM M 0) (PM dC dI am) (AM am)) ([.ref (am 0), .int (nI i), .int (nI j), .int (nI v), .int (nI 3)]).toArray s 0 0 (AM am)) (F0 m 0 ls [])
  have hn := (hI.1 i (by omega)).1
  refine lv_aload_n hx hb dX6_near_0 rfl (lv_at hl 0 rfl) ?_
  refine lv_iload_n hx hb dX6_near_1 rfl (lv_at hl 1 rfl) ?_
  refine kx_cr (v := bI false) (va_runS (As := [.int (nI i)]) (rest := [.ref (am 0)]) ⟨hx, hb, hml, hown, hts⟩ (m_X6_isNoRow l dC dI am M (nI i)) (va_cwS 1 hts gX6_near_X6_isNoRow rfl rfl rfl hdX6_isNoRow_1.2 ⟨Nat.le_of_ble_eq_true rfl, Nat.le_of_ble_eq_true rfl⟩) hX.preS rfl rfl hl.1 rfl (lv_room (Nat.le_of_ble_eq_true rfl)) dX6_near_2 ⟨Nat.le_of_ble_eq_true rfl, Nat.le_of_ble_eq_true rfl⟩) (fun _ h => h.trans (isNo_ok (by omega) (by omega))) ?_
  refine kb_if_ne (tgt := 15) hx hb dX6_near_5 (by decide) (fun k_1 => absurd k_1 (by decide)) (fun k_1 => ?_)
  refine lv_iload_n hx hb dX6_near_8 rfl (lv_at hl 2 rfl) ?_
  refine kx_cr (v := bI false) (va_runS (As := [.int (nI j)]) (rest := [.ref (am 0)]) ⟨hx, hb, hml, hown, hts⟩ (m_X6_isNoOrder l dC dI am M (nI j)) (va_cwS 1 hts gX6_near_X6_isNoOrder rfl rfl rfl hdX6_isNoOrder_1.2 ⟨Nat.le_of_ble_eq_true rfl, Nat.le_of_ble_eq_true rfl⟩) hX.preS rfl rfl hl.1 rfl (lv_room (Nat.le_of_ble_eq_true rfl)) dX6_near_9 ⟨Nat.le_of_ble_eq_true rfl, Nat.le_of_ble_eq_true rfl⟩) (fun _ h => h.trans (isNo_ok (by omega) (by omega))) ?_
  refine kb_if_eq (tgt := 19) hx hb dX6_near_12 (by decide) (fun k_2 => ?_) (fun k_2 => absurd k_2 (by decide))
  refine lv_iconst (v := nI 0) hx hb dX6_near_19 (by decide) ?_
  refine lv_iconst (v := nI 1) hx hb dX6_near_20 (by decide) ?_
  refine km_ci (va_runV (As := [.int (nI 0), .int (nI 1)]) (rest := []) ⟨hx, hb, hml, hown, hts⟩ (m_X6_start l dC dI am M false 1 (by omega)) (cwV 2 hts gX6_near_X6_start rfl rfl rfl hdX6_start_2 ⟨Nat.le_of_ble_eq_true rfl, Nat.le_of_ble_eq_true rfl⟩) (hX.preObj) rfl rfl hl.1 rfl (lv_room (Nat.le_of_ble_eq_true rfl)) dX6_near_21 ⟨Nat.le_of_ble_eq_true rfl, Nat.le_of_ble_eq_true rfl⟩) hX (fun _ h => h) (fun r_ S_ H locs hw hX => ?_)
  obtain ⟨rfl, rfl⟩ := hw
  refine kb_if_ne (tgt := 56) hx hb dX6_near_24 (by decide) (fun k_3 => absurd k_3 (by decide)) (fun k_3 => ?_)
  refine lv_aload_n hx hb dX6_near_27 rfl (lv_at hl 0 rfl) ?_
  refine lv_iload_n hx hb dX6_near_28 rfl (lv_at hl 3 rfl) ?_
  refine kx_cr (v := bI false) (va_runS (As := [.int (nI v)]) (rest := [.ref (am 0)]) ⟨hx, hb, hml, hown, hts⟩ (m_X6_isNoValue l dC dI am (mN M (0, M.2.2.2.1, M.2.2.2.2.1, M.2.2.2.2.2)) (nI v)) (va_cwS 1 hts gX6_near_X6_isNoValue rfl rfl rfl hdX6_isNoValue_1.2 ⟨Nat.le_of_ble_eq_true rfl, Nat.le_of_ble_eq_true rfl⟩) hX.preS rfl rfl hl.1 rfl (lv_room (Nat.le_of_ble_eq_true rfl)) dX6_near_29 ⟨Nat.le_of_ble_eq_true rfl, Nat.le_of_ble_eq_true rfl⟩) (fun _ h => h.trans (isNo_ok (by omega) (by omega))) ?_
  refine kb_if_ne (tgt := 44) hx hb dX6_near_32 (by decide) (fun k_4 => absurd k_4 (by decide)) (fun k_4 => ?_)
  refine lv_iload hx hb dX6_near_35 (lv_at hl 4 rfl) ?_
  refine lv_iconst (v := nI 3) hx hb dX6_near_37 (by decide) ?_
  refine kx_cr (v := bI false) (va_runS (As := [.int (nI 3), .int (nI 3)]) (rest := [.ref (am 0)]) ⟨hx, hb, hml, hown, hts⟩ (m_X6_isNo l dC dI am (mN M (0, M.2.2.2.1, M.2.2.2.2.1, M.2.2.2.2.2)) (nI 3) (nI 3)) (va_cwS 2 hts gX6_near_X6_isNo rfl rfl rfl hdX6_isNo_2.2 ⟨Nat.le_of_ble_eq_true rfl, Nat.le_of_ble_eq_true rfl⟩) hX.preS rfl rfl hl.1 rfl (lv_room (Nat.le_of_ble_eq_true rfl)) dX6_near_38 ⟨Nat.le_of_ble_eq_true rfl, Nat.le_of_ble_eq_true rfl⟩) (fun _ h => h.trans (isNo_ok (by omega) (by omega))) ?_
  refine kb_if_eq (tgt := 48) hx hb dX6_near_41 (by decide) (fun k_5 => ?_) (fun k_5 => absurd k_5 (by decide))
  refine lv_iconst (v := nI 0) hx hb dX6_near_48 (by decide) ?_
  refine lv_iconst (v := nI 2) hx hb dX6_near_49 (by decide) ?_
  refine km_ci (va_runV (As := [.int (nI 0), .int (nI 2)]) (rest := []) ⟨hx, hb, hml, hown, hts⟩ (m_X6_refuse l dC dI am (mN M (0, M.2.2.2.1, M.2.2.2.2.1, M.2.2.2.2.2)) false 2 (by omega) rfl) (cwV 2 hts gX6_near_X6_refuse rfl rfl rfl hdX6_refuse_2 ⟨Nat.le_of_ble_eq_true rfl, Nat.le_of_ble_eq_true rfl⟩) (hX.preObj) rfl rfl hl.1 rfl (lv_room (Nat.le_of_ble_eq_true rfl)) dX6_near_50 ⟨Nat.le_of_ble_eq_true rfl, Nat.le_of_ble_eq_true rfl⟩) hX (fun _ h => h) (fun r_ S_ H locs hw hX => ?_)
  obtain ⟨rfl, rfl⟩ := hw
  refine kb_if_eq (tgt := 58) hx hb dX6_near_53 (by decide) (fun k_6 => ?_) (fun k_6 => absurd k_6 (by decide))
  refine lv_iconst (v := (-1)) hx hb dX6_near_58 (by decide) ?_
  refine lv_istore (lv' := [(5, .int (-1)), (0, .ref (am 0)), (1, .int (nI i)), (2, .int (nI j)), (3, .int (nI v)), (4, .int (nI 3))]) hx hb dX6_near_59 hl (by decide) rfl (fun ls hl => ?_)
  refine lv_iconst (v := nI 0) hx hb dX6_near_61 (by decide) ?_
  refine lv_istore (lv' := [(6, .int (nI 0)), (5, .int (-1)), (0, .ref (am 0)), (1, .int (nI i)), (2, .int (nI j)), (3, .int (nI v)), (4, .int (nI 3))]) hx hb dX6_near_62 hl (by decide) rfl (fun ls hl => ?_)
  have loop64 : ∀ (fuel : Nat) (o : Option Nat) (x : Nat) (hk9 : x ≤ (M.1 i).2.2) (hq : o = bestB (fun x => sideB 3 ((cM M j) ((M.1 i).1 x)) ((cM M j) v)) (fun a b => nearB 3 ((cM M j) ((M.1 i).1 a)) ((cM M j) ((M.1 i).1 b))) x) (H : Heap) (locs : List Loc), (M.1 i).2.2 - x < fuel → WM dC dI am (mN M (0, M.2.2.2.1, M.2.2.2.2.1, M.2.2.2.2.2)) [] (AM am) s H locs → ∀ ls : Array Slot, lv_has ls 10 [(0, .ref (am 0)), (1, .int (nI i)), (2, .int (nI j)), (3, .int (nI v)), (4, .int (nI 3)), (5, .int (oI o)), (6, .int (nI x))] → W p l e ({ frames := 2, cells := 0, slots := 0, locals := 47 } : Room) s m ([.ref (am 0), .int (nI i), .int (nI j), .int (nI v), .int (nI 3)]).toArray below meth c H locs 0 0 (MQ below (va_Qi (fun r M' => r = exI (bestB (fun x => sideB 3 ((cM M j) ((M.1 i).1 x)) ((cM M j) v)) (fun a b => nearB 3 ((cM M j) ((M.1 i).1 a)) ((cM M j) ((M.1 i).1 b))) (M.1 i).2.2) (M.1 i).2.1 ∧ M' = thM M 0) (PM dC dI am) (AM am)) ([.ref (am 0), .int (nI i), .int (nI j), .int (nI v), .int (nI 3)]).toArray s 0 0 (AM am)) (F0 m 64 ls []) := by
    intro fuel
    induction fuel with
    | zero => intro o x hk9 hq H locs hf; exact absurd hf (Nat.not_lt_zero _)
    | succ fuel ih64 =>
      intro o x hk9 hq H locs hf hX ls hl
      refine lv_iload hx hb dX6_near_64 (lv_at hl 6 rfl) ?_
      refine lv_aload_n hx hb dX6_near_66 rfl (lv_at hl 0 rfl) ?_
      refine km_gsizes hx hb hts hin6 hown hX (hts (.fieldLink RX6 17 "OrderlatticeModel" "sizes" "[I") (tm 681 (by decide +kernel) rfl)) dX6_near_67 ?_
      refine lv_iload_n hx hb dX6_near_70 rfl (lv_at hl 1 rfl) ?_
      refine km_lz (v := (M.1 i).2.2) hx hb hX (by omega) rfl dX6_near_71 ?_
      refine kn_icmp_ge (tgt := 238) hx hb (by omega) (by omega) dX6_near_72 (by decide) (fun k_7 => ?_) (fun k_7 => ?_)
      · skip
        rcases o with _ | bb
        · skip
          refine lv_iload hx hb dX6_near_238 (lv_at hl 5 rfl) ?_
          refine lv_iconst (v := (-1)) hx hb dX6_near_240 (by decide) ?_
          refine lv_icmp_ne (tgt := 248) hx hb dX6_near_241 (by decide) (fun k_8 => absurd rfl k_8) (fun k_8 => ?_)
          refine lv_iconst (v := (-1)) hx hb dX6_near_244 (by decide) ?_
          refine lv_goto (tgt := 257) hx hb dX6_near_245 (by decide) ?_
          exact W.iret (v := (-1)) hx hb hr (fun t9 ht9 hW9 => ⟨⟨_, (mN M (0, M.2.2.2.1, M.2.2.2.2.1, M.2.2.2.2.2)), rfl, ⟨by rw [show (M.1 i).2.2 = x by omega, ← hq]; rfl, rfl⟩, hX.P ht9 hW9⟩, hX.2.2.2.F ht9⟩) hX.2.2.2.2.2 dX6_near_257
        · skip
          have hbb := (bestB_lt hq.symm).1
          have hl : lv_has ls 10 [(0, .ref (am 0)), (1, .int (nI i)), (2, .int (nI j)), (3, .int (nI v)), (4, .int (nI 3)), (5, .int (nI bb)), (6, .int (nI x))] := hl
          refine lv_iload hx hb dX6_near_238 (lv_at hl 5 rfl) ?_
          refine lv_iconst (v := (-1)) hx hb dX6_near_240 (by decide) ?_
          refine lv_icmp_ne (tgt := 248) hx hb dX6_near_241 (by decide) (fun k_9 => ?_) (fun k_9 => absurd k_9 (nI_nm1 (by omega)))
          refine lv_aload_n hx hb dX6_near_248 rfl (lv_at hl 0 rfl) ?_
          refine km_gmarks hx hb hts hin6 hown hX (hts (.fieldLink RX6 14 "OrderlatticeModel" "marks" "[[I") (tm 711 (by decide +kernel) rfl)) dX6_near_249 ?_
          refine lv_iload_n hx hb dX6_near_252 rfl (lv_at hl 1 rfl) ?_
          refine km_am hx hb hX (by omega) dX6_near_253 ?_
          refine lv_iload hx hb dX6_near_254 (lv_at hl 5 rfl) ?_
          refine km_lm (v := ((M.1 i).2.1) bb) hx hb hX (by omega) (by omega) rfl dX6_near_256 ?_
          exact W.iret (v := nI (((M.1 i).2.1) bb)) hx hb hr (fun t9 ht9 hW9 => ⟨⟨_, (mN M (0, M.2.2.2.1, M.2.2.2.2.1, M.2.2.2.2.2)), rfl, ⟨by rw [show (M.1 i).2.2 = x by omega, ← hq]; rfl, rfl⟩, hX.P ht9 hW9⟩, hX.2.2.2.F ht9⟩) hX.2.2.2.2.2 dX6_near_257
      · skip
        refine lv_aload_n hx hb dX6_near_75 rfl (lv_at hl 0 rfl) ?_
        refine lv_iload_n hx hb dX6_near_76 rfl (lv_at hl 2 rfl) ?_
        refine lv_aload_n hx hb dX6_near_77 rfl (lv_at hl 0 rfl) ?_
        refine km_gvalues hx hb hts hin6 hown hX (hts (.fieldLink RX6 11 "OrderlatticeModel" "values" "[[I") (tm 710 (by decide +kernel) rfl)) dX6_near_78 ?_
        refine lv_iload_n hx hb dX6_near_81 rfl (lv_at hl 1 rfl) ?_
        refine km_av hx hb hX (by omega) dX6_near_82 ?_
        refine lv_iload hx hb dX6_near_83 (lv_at hl 6 rfl) ?_
        refine km_lv (v := ((M.1 i).1) x) hx hb hX (by omega) (by omega) rfl dX6_near_85 ?_
        refine lv_iload_n hx hb dX6_near_86 rfl (lv_at hl 3 rfl) ?_
        refine kx_cr (v := cmpI (cM M j (((M.1 i).1) x)) (cM M j v)) (va_runV (As := [.int (nI j), .int (nI (((M.1 i).1) x)), .int (nI v)]) (rest := []) ⟨hx, hb, hml, hown, hts⟩ (m_X6_compareNow l dC dI am (mN M (0, M.2.2.2.1, M.2.2.2.2.1, M.2.2.2.2.2)) j (((M.1 i).1) x) v (by omega) (hI.2 j (by omega)) ((hI.1 i (by omega)).2 _ (by omega)).1 (by omega)) (cwV 3 hts gX6_near_X6_compareNow rfl rfl rfl hdX6_compareNow_3 ⟨Nat.le_of_ble_eq_true rfl, Nat.le_of_ble_eq_true rfl⟩) (hX.preObj) rfl rfl hl.1 rfl (lv_room (Nat.le_of_ble_eq_true rfl)) dX6_near_87 ⟨Nat.le_of_ble_eq_true rfl, Nat.le_of_ble_eq_true rfl⟩) (fun _ h => h) ?_
        refine lv_istore (lv' := [(7, .int (cmpI (cM M j (((M.1 i).1) x)) (cM M j v))), (0, .ref (am 0)), (1, .int (nI i)), (2, .int (nI j)), (3, .int (nI v)), (4, .int (nI 3)), (5, .int (oI o)), (6, .int (nI x))]) hx hb dX6_near_90 hl (by decide) rfl (fun ls hl => ?_)
        refine lv_iload hx hb dX6_near_92 (lv_at hl 5 rfl) ?_
        refine kn_if_ne (tgt := 110) hx hb (by omega) dX6_near_94 (by decide) (fun k_10 => ?_) (fun k_10 => absurd k_10 (by omega))
        refine lv_iload hx hb dX6_near_110 (lv_at hl 5 rfl) ?_
        refine lv_iconst (v := nI 1) hx hb dX6_near_112 (by decide) ?_
        refine kn_icmp_ne (tgt := 129) hx hb (by omega) (by omega) dX6_near_113 (by decide) (fun k_11 => ?_) (fun k_11 => absurd k_11 (by omega))
        refine lv_iload hx hb dX6_near_129 (lv_at hl 5 rfl) ?_
        refine lv_iconst (v := nI 2) hx hb dX6_near_131 (by decide) ?_
        refine kn_icmp_ne (tgt := 148) hx hb (by omega) (by omega) dX6_near_132 (by decide) (fun k_12 => ?_) (fun k_12 => absurd k_12 (by omega))
        refine lv_iload hx hb dX6_near_148 (lv_at hl 0 rfl) ?_
        refine kc_if_le (tgt := 157) hx hb dX6_near_150 (by decide) (fun k_13 => ?_) (fun k_13 => ?_)
        · skip
          have hw9 := k_13
          refine lv_iconst (v := nI 0) hx hb dX6_near_157 (by decide) ?_
          refine lv_istore (lv' := [(8, .int (nI 0)), (7, .int (cmpI (cM M j (((M.1 i).1) x)) (cM M j v))), (0, .ref (am 0)), (1, .int (nI i)), (2, .int (nI j)), (3, .int (nI v)), (4, .int (nI 3)), (5, .int (oI o)), (6, .int (nI x))]) hx hb dX6_near_158 hl (by decide) rfl (fun ls hl => ?_)
          refine lv_iload hx hb dX6_near_160 (lv_at hl 0 rfl) ?_
          refine kn_if_ne (tgt := 168) hx hb (by omega) dX6_near_162 (by decide) (fun k_14 => absurd k_14 (by omega)) (fun k_14 => ?_)
          refine lv_goto (tgt := 232) hx hb dX6_near_165 (by decide) ?_
          refine lv_iinc (v := nI (x + 1)) (lv' := [(6, .int (nI (x + 1))), (8, .int (nI 0)), (7, .int (cmpI (cM M j (((M.1 i).1) x)) (cM M j v))), (0, .ref (am 0)), (1, .int (nI i)), (2, .int (nI j)), (3, .int (nI v)), (4, .int (nI 3)), (5, .int (oI o))]) hx hb dX6_near_232 hl (k := 8) rfl (nI_1 x) (by decide) rfl (fun ls hl => ?_)
          refine lv_goto (tgt := 64) hx hb dX6_near_235 (by decide) ?_
          exact ih64  o (x + 1) (by omega) (hq.trans (bestB_no (p := (fun x => sideB 3 ((cM M j) ((M.1 i).1 x)) ((cM M j) v))) (lt := (fun a b => nearB 3 ((cM M j) ((M.1 i).1 a)) ((cM M j) ((M.1 i).1 b)))) (show sideB 3 _ _ = false from decide_eq_false (by omega))).symm) _ _ (by omega) hX _ (lv_sub hl [3, 4, 5, 6, 7, 8, 0] rfl)
        · skip
          have hw9 := k_13
          refine lv_iconst (v := nI 1) hx hb dX6_near_153 (by decide) ?_
          refine lv_goto (tgt := 158) hx hb dX6_near_154 (by decide) ?_
          refine lv_istore (lv' := [(8, .int (nI 1)), (7, .int (cmpI (cM M j (((M.1 i).1) x)) (cM M j v))), (0, .ref (am 0)), (1, .int (nI i)), (2, .int (nI j)), (3, .int (nI v)), (4, .int (nI 3)), (5, .int (oI o)), (6, .int (nI x))]) hx hb dX6_near_158 hl (by decide) rfl (fun ls hl => ?_)
          refine lv_iload hx hb dX6_near_160 (lv_at hl 0 rfl) ?_
          refine kn_if_ne (tgt := 168) hx hb (by omega) dX6_near_162 (by decide) (fun k_15 => ?_) (fun k_15 => absurd k_15 (by omega))
          rcases o with _ | bb
          · skip
            refine lv_iload hx hb dX6_near_168 (lv_at hl 7 rfl) ?_
            refine lv_iconst (v := (-1)) hx hb dX6_near_170 (by decide) ?_
            refine lv_icmp_ne (tgt := 178) hx hb dX6_near_171 (by decide) (fun k_16 => absurd rfl k_16) (fun k_16 => ?_)
            refine lv_iconst (v := nI 1) hx hb dX6_near_174 (by decide) ?_
            refine lv_goto (tgt := 201) hx hb dX6_near_175 (by decide) ?_
            refine lv_istore (lv' := [(9, .int (nI 1)), (8, .int (nI 1)), (7, .int (cmpI (cM M j (((M.1 i).1) x)) (cM M j v))), (0, .ref (am 0)), (1, .int (nI i)), (2, .int (nI j)), (3, .int (nI v)), (4, .int (nI 3)), (5, .int (oI none)), (6, .int (nI x))]) hx hb dX6_near_201 hl (by decide) rfl (fun ls hl => ?_)
            refine lv_iload hx hb dX6_near_203 (lv_at hl 8 rfl) ?_
            refine lv_iconst (v := (-1)) hx hb dX6_near_205 (by decide) ?_
            refine lv_icmp_eq (tgt := 228) hx hb dX6_near_206 (by decide) (fun k_17 => ?_) (fun k_17 => absurd rfl k_17)
            refine lv_iload hx hb dX6_near_228 (lv_at hl 9 rfl) ?_
            refine lv_istore (lv' := [(5, .int (nI x)), (9, .int (nI 1)), (8, .int (nI 1)), (7, .int (cmpI (cM M j (((M.1 i).1) x)) (cM M j v))), (0, .ref (am 0)), (1, .int (nI i)), (2, .int (nI j)), (3, .int (nI v)), (4, .int (nI 3)), (6, .int (nI x))]) hx hb dX6_near_230 hl (by decide) rfl (fun ls hl => ?_)
            refine lv_iinc (v := nI (x + 1)) (lv' := [(6, .int (nI (x + 1))), (5, .int (nI x)), (9, .int (nI 1)), (8, .int (nI 1)), (7, .int (cmpI (cM M j (((M.1 i).1) x)) (cM M j v))), (0, .ref (am 0)), (1, .int (nI i)), (2, .int (nI j)), (3, .int (nI v)), (4, .int (nI 3))]) hx hb dX6_near_232 hl (k := 9) rfl (nI_1 x) (by decide) rfl (fun ls hl => ?_)
            refine lv_goto (tgt := 64) hx hb dX6_near_235 (by decide) ?_
            exact ih64  (some x) (x + 1) (by omega) (bestB_first (p := (fun x => sideB 3 ((cM M j) ((M.1 i).1 x)) ((cM M j) v))) (lt := (fun a b => nearB 3 ((cM M j) ((M.1 i).1 a)) ((cM M j) ((M.1 i).1 b)))) (show sideB 3 _ _ = true from decide_eq_true (by omega)) hq.symm).symm _ _ (by omega) hX _ (lv_sub hl [5, 6, 7, 8, 9, 1, 0] rfl)
          · skip
            have hbb := (bestB_lt hq.symm).1
            have hl : lv_has ls 10 [(8, .int (nI 1)), (7, .int (cmpI (cM M j (((M.1 i).1) x)) (cM M j v))), (0, .ref (am 0)), (1, .int (nI i)), (2, .int (nI j)), (3, .int (nI v)), (4, .int (nI 3)), (5, .int (nI bb)), (6, .int (nI x))] := hl
            refine lv_iload hx hb dX6_near_168 (lv_at hl 7 rfl) ?_
            refine lv_iconst (v := (-1)) hx hb dX6_near_170 (by decide) ?_
            refine lv_icmp_ne (tgt := 178) hx hb dX6_near_171 (by decide) (fun k_18 => ?_) (fun k_18 => absurd k_18 (nI_nm1 (by omega)))
            refine lv_aload_n hx hb dX6_near_178 rfl (lv_at hl 2 rfl) ?_
            refine lv_iload_n hx hb dX6_near_179 rfl (lv_at hl 4 rfl) ?_
            refine lv_aload_n hx hb dX6_near_180 rfl (lv_at hl 2 rfl) ?_
            refine km_gvalues hx hb hts hin6 hown hX (hts (.fieldLink RX6 11 "OrderlatticeModel" "values" "[[I") (tm 710 (by decide +kernel) rfl)) dX6_near_181 ?_
            refine lv_iload_n hx hb dX6_near_184 rfl (lv_at hl 3 rfl) ?_
            refine km_av hx hb hX (by omega) dX6_near_185 ?_
            refine lv_iload hx hb dX6_near_186 (lv_at hl 8 rfl) ?_
            refine km_lv (v := ((M.1 i).1) x) hx hb hX (by omega) (by omega) rfl dX6_near_188 ?_
            refine lv_aload_n hx hb dX6_near_189 rfl (lv_at hl 2 rfl) ?_
            refine km_gvalues hx hb hts hin6 hown hX (hts (.fieldLink RX6 11 "OrderlatticeModel" "values" "[[I") (tm 710 (by decide +kernel) rfl)) dX6_near_190 ?_
            refine lv_iload_n hx hb dX6_near_193 rfl (lv_at hl 3 rfl) ?_
            refine km_av hx hb hX (by omega) dX6_near_194 ?_
            refine lv_iload hx hb dX6_near_195 (lv_at hl 7 rfl) ?_
            refine km_lv (v := ((M.1 i).1) bb) hx hb hX (by omega) (by omega) rfl dX6_near_197 ?_
            refine kx_cr (v := cmpI (cM M j (((M.1 i).1) x)) (cM M j (((M.1 i).1) bb))) (va_runV (As := [.int (nI j), .int (nI (((M.1 i).1) x)), .int (nI (((M.1 i).1) bb))]) (rest := []) ⟨hx, hb, hml, hown, hts⟩ (m_X6_compareNow l dC dI am (mN M (0, M.2.2.2.1, M.2.2.2.2.1, M.2.2.2.2.2)) j (((M.1 i).1) x) (((M.1 i).1) bb) (by omega) (hI.2 j (by omega)) ((hI.1 i (by omega)).2 _ (by omega)).1 ((hI.1 i (by omega)).2 _ (by omega)).1) (cwV 3 hts gX6_near_X6_compareNow rfl rfl rfl hdX6_compareNow_3 ⟨Nat.le_of_ble_eq_true rfl, Nat.le_of_ble_eq_true rfl⟩) (hX.preObj) rfl rfl hl.1 rfl (lv_room (Nat.le_of_ble_eq_true rfl)) dX6_near_198 ⟨Nat.le_of_ble_eq_true rfl, Nat.le_of_ble_eq_true rfl⟩) (fun _ h => h) ?_
            refine lv_istore (lv' := [(9, .int (cmpI (cM M j (((M.1 i).1) x)) (cM M j (((M.1 i).1) bb)))), (8, .int (nI 1)), (7, .int (cmpI (cM M j (((M.1 i).1) x)) (cM M j v))), (0, .ref (am 0)), (1, .int (nI i)), (2, .int (nI j)), (3, .int (nI v)), (4, .int (nI 3)), (5, .int (nI bb)), (6, .int (nI x))]) hx hb dX6_near_201 hl (by decide) rfl (fun ls hl => ?_)
            refine lv_iload hx hb dX6_near_203 (lv_at hl 8 rfl) ?_
            refine lv_iconst (v := (-1)) hx hb dX6_near_205 (by decide) ?_
            refine lv_icmp_eq (tgt := 228) hx hb dX6_near_206 (by decide) (fun k_19 => absurd k_19 (nI_nm1 (by omega))) (fun k_19 => ?_)
            refine lv_iload hx hb dX6_near_209 (lv_at hl 7 rfl) ?_
            refine lv_iconst (v := nI 2) hx hb dX6_near_211 (by decide) ?_
            refine kn_icmp_ge (tgt := 223) hx hb (by omega) (by omega) dX6_near_212 (by decide) (fun k_20 => ?_) (fun k_20 => absurd k_20 (by omega))
            refine lv_iload hx hb dX6_near_223 (lv_at hl 0 rfl) ?_
            refine kc_if_ge (tgt := 232) hx hb dX6_near_225 (by decide) (fun k_21 => ?_) (fun k_21 => ?_)
            · skip
              have hx1 := k_21
              refine lv_iinc (v := nI (x + 1)) (lv' := [(6, .int (nI (x + 1))), (9, .int (cmpI (cM M j (((M.1 i).1) x)) (cM M j (((M.1 i).1) bb)))), (8, .int (nI 1)), (7, .int (cmpI (cM M j (((M.1 i).1) x)) (cM M j v))), (0, .ref (am 0)), (1, .int (nI i)), (2, .int (nI j)), (3, .int (nI v)), (4, .int (nI 3)), (5, .int (nI bb))]) hx hb dX6_near_232 hl (k := 9) rfl (nI_1 x) (by decide) rfl (fun ls hl => ?_)
              refine lv_goto (tgt := 64) hx hb dX6_near_235 (by decide) ?_
              exact ih64  (some bb) (x + 1) (by omega) (bestB_old (p := (fun x => sideB 3 ((cM M j) ((M.1 i).1 x)) ((cM M j) v))) (lt := (fun a b => nearB 3 ((cM M j) ((M.1 i).1 a)) ((cM M j) ((M.1 i).1 b)))) (show sideB 3 _ _ = true from decide_eq_true (by omega)) hq.symm (show nearB 3 _ _ = false from decide_eq_false (by omega))).symm _ _ (by omega) hX _ (lv_sub hl [4, 5, 6, 7, 8, 9, 0] rfl)
            · skip
              have hx1 := k_21
              refine lv_iload hx hb dX6_near_228 (lv_at hl 9 rfl) ?_
              refine lv_istore (lv' := [(5, .int (nI x)), (9, .int (cmpI (cM M j (((M.1 i).1) x)) (cM M j (((M.1 i).1) bb)))), (8, .int (nI 1)), (7, .int (cmpI (cM M j (((M.1 i).1) x)) (cM M j v))), (0, .ref (am 0)), (1, .int (nI i)), (2, .int (nI j)), (3, .int (nI v)), (4, .int (nI 3)), (6, .int (nI x))]) hx hb dX6_near_230 hl (by decide) rfl (fun ls hl => ?_)
              refine lv_iinc (v := nI (x + 1)) (lv' := [(6, .int (nI (x + 1))), (5, .int (nI x)), (9, .int (cmpI (cM M j (((M.1 i).1) x)) (cM M j (((M.1 i).1) bb)))), (8, .int (nI 1)), (7, .int (cmpI (cM M j (((M.1 i).1) x)) (cM M j v))), (0, .ref (am 0)), (1, .int (nI i)), (2, .int (nI j)), (3, .int (nI v)), (4, .int (nI 3))]) hx hb dX6_near_232 hl (k := 9) rfl (nI_1 x) (by decide) rfl (fun ls hl => ?_)
              refine lv_goto (tgt := 64) hx hb dX6_near_235 (by decide) ?_
              exact ih64  (some x) (x + 1) (by omega) (bestB_new (p := (fun x => sideB 3 ((cM M j) ((M.1 i).1 x)) ((cM M j) v))) (lt := (fun a b => nearB 3 ((cM M j) ((M.1 i).1 a)) ((cM M j) ((M.1 i).1 b)))) (show sideB 3 _ _ = true from decide_eq_true (by omega)) hq.symm (show nearB 3 _ _ = true from decide_eq_true (by omega))).symm _ _ (by omega) hX _ (lv_sub hl [5, 6, 7, 8, 9, 1, 0] rfl)
  exact loop64 ((M.1 i).2.2 + 1) none 0 (by omega) rfl _ _ (by omega) (WM.eqS rfl hX) _ (lv_sub hl [2, 3, 4, 5, 6, 1, 0] rfl)
theorem m_X6_near (l : Launch) (dC : Nat → ClassId) (dI : Nat → Nat → Nat) (am : Nat → Nat) (M : MS) (i j v k : Nat) (hi : i < 3) (hj : j < 4) (hv : v < 16) (hk : k ≤ 3) (hI : InvM M) : Met l yX6_near wsX6_near ({ frames := 2, cells := 0, slots := 0, locals := 47 } : Room) (va_Pc [.ref (am 0), .int (nI i), .int (nI j), .int (nI v), .int (nI k)] (PM dC dI am M)) (va_Qi (fun r M' => r = exI (bestB (fun x => sideB k ((cM M j) ((M.1 i).1 x)) ((cM M j) v)) (fun a b => nearB k ((cM M j) ((M.1 i).1 a)) ((cM M j) ((M.1 i).1 b))) (M.1 i).2.2) (M.1 i).2.1 ∧ M' = thM M 0) (PM dC dI am) (AM am)) 0 0 (AM am) := by
  rcases (show k = 0 ∨ k = 1 ∨ k = 2 ∨ k = 3 by omega) with rfl | rfl | rfl | rfl
  · exact m_X6_near0 l dC dI am M i j v hi hj hv hI
  · exact m_X6_near1 l dC dI am M i j v hi hj hv hI
  · exact m_X6_near2 l dC dI am M i j v hi hj hv hI
  · exact m_X6_near3 l dC dI am M i j v hi hj hv hI
set_option maxHeartbeats 4000000 in
set_option maxRecDepth 100000 in
theorem o_X6_near_1 (l : Launch) (dC : Nat → ClassId) (dI : Nat → Nat → Nat) (am : Nat → Nat) (M : MS) (x9 : Int32) (y1 : Int32) (y2 : Int32) (y3 : Int32) (hb9 : x9 < 0 ∨ nI 3 ≤ x9) (hI : InvM M) : Met l yX6_near wsX6_near ({ frames := 2, cells := 0, slots := 0, locals := 47 } : Room) (va_Pc [.ref (am 0), .int x9, .int y1, .int y2, .int y3] (PM dC dI am M)) (va_Qi (fun r M' => M' = thM M 1) (PM dC dI am) (AM am)) 0 0 (AM am) := by
  refine Met.ofW (cc := cX6_near) (maxL := 10) (ret := (some .int)) pl_X6 rfl ?_
  intro p e s m args below meth c s₁ B hml hv
  obtain ⟨rfl, hPX⟩ := hv
  have hx := B.exec
  have hb := B.bytes
  have hr := B.returns
  have hts := atoms_spec (ws := wsX6_near) B.pre
  have hown : s.vm.findClass RX6 = some m.cls := findClass_of_methodNamed B.named
  have hlocks := B.notSynchronized
  have hin6 : ∀ w ∈ u_ws RX6 TX6 10, w ∈ wsX6_near := tu 1331 (by decide +kernel) rfl
  have hX := WM.of hPX
  have hl := lv_entry ([.ref (am 0), .int x9, .int y1, .int y2, .int y3]) (n := 10) (Nat.le_of_ble_eq_true rfl)
  rw [lg_entry_eq]
  generalize (lg_sl ([.ref (am 0), .int x9, .int y1, .int y2, .int y3]) ++ List.replicate (10 - (lg_sl ([.ref (am 0), .int x9, .int y1, .int y2, .int y3])).length) Slot.unset).toArray = ls at hl ⊢
  have hl : lv_has ls 10 [(0, .ref (am 0)), (1, .int x9), (2, .int y1), (3, .int y2), (4, .int y3)] := hl
  show W p l e ({ frames := 2, cells := 0, slots := 0, locals := 47 } : Room) s m ([.ref (am 0), .int x9, .int y1, .int y2, .int y3]).toArray below meth c s.heap [] 0 0 (MQ below (va_Qi (fun r M' => M' = thM M 1) (PM dC dI am) (AM am)) ([.ref (am 0), .int x9, .int y1, .int y2, .int y3]).toArray s 0 0 (AM am)) (F0 m 0 ls [])
  refine lv_aload_n hx hb dX6_near_0 rfl (lv_at hl 0 rfl) ?_
  refine lv_iload_n hx hb dX6_near_1 rfl (lv_at hl 1 rfl) ?_
  refine kx_cr (v := bI true) (va_runS (As := [.int x9]) (rest := [.ref (am 0)]) ⟨hx, hb, hml, hown, hts⟩ (m_X6_isNoRow l dC dI am M x9) (va_cwS 1 hts gX6_near_X6_isNoRow rfl rfl rfl hdX6_isNoRow_1.2 ⟨Nat.le_of_ble_eq_true rfl, Nat.le_of_ble_eq_true rfl⟩) hX.preS rfl rfl hl.1 rfl (lv_room (Nat.le_of_ble_eq_true rfl)) dX6_near_2 ⟨Nat.le_of_ble_eq_true rfl, Nat.le_of_ble_eq_true rfl⟩) (fun _ h => h.trans (isNo_bad (isNo_r hb9))) ?_
  refine kb_if_ne (tgt := 15) hx hb dX6_near_5 (by decide) (fun k_1 => ?_) (fun k_1 => absurd k_1 (by decide))
  refine lv_iconst (v := nI 1) hx hb dX6_near_15 (by decide) ?_
  refine lv_goto (tgt := 20) hx hb dX6_near_16 (by decide) ?_
  refine lv_iconst (v := nI 1) hx hb dX6_near_20 (by decide) ?_
  refine km_ci (va_runV (As := [.int (nI 1), .int (nI 1)]) (rest := []) ⟨hx, hb, hml, hown, hts⟩ (m_X6_start l dC dI am M true 1 (by omega)) (cwV 2 hts gX6_near_X6_start rfl rfl rfl hdX6_start_2 ⟨Nat.le_of_ble_eq_true rfl, Nat.le_of_ble_eq_true rfl⟩) (hX.preObj) rfl rfl hl.1 rfl (lv_room (Nat.le_of_ble_eq_true rfl)) dX6_near_21 ⟨Nat.le_of_ble_eq_true rfl, Nat.le_of_ble_eq_true rfl⟩) hX (fun _ h => h) (fun r_ S_ H locs hw hX => ?_)
  obtain ⟨rfl, rfl⟩ := hw
  refine kb_if_ne (tgt := 56) hx hb dX6_near_24 (by decide) (fun k_2 => ?_) (fun k_2 => absurd k_2 (by decide))
  refine lv_iconst (v := nI 0) hx hb dX6_near_56 (by decide) ?_
  exact W.iret (v := nI 0) hx hb hr (fun t9 ht9 hW9 => ⟨⟨_, (mN M (1, M.2.2.2.1, M.2.2.2.2.1, M.2.2.2.2.2)), rfl, rfl, hX.P ht9 hW9⟩, hX.2.2.2.F ht9⟩) hX.2.2.2.2.2 dX6_near_57
set_option maxHeartbeats 4000000 in
set_option maxRecDepth 100000 in
theorem o_X6_near_2 (l : Launch) (dC : Nat → ClassId) (dI : Nat → Nat → Nat) (am : Nat → Nat) (M : MS) (i : Nat) (x9 : Int32) (y2 : Int32) (y3 : Int32) (hi : i < 3) (hb9 : x9 < 0 ∨ nI 4 ≤ x9) (hI : InvM M) : Met l yX6_near wsX6_near ({ frames := 2, cells := 0, slots := 0, locals := 47 } : Room) (va_Pc [.ref (am 0), .int (nI i), .int x9, .int y2, .int y3] (PM dC dI am M)) (va_Qi (fun r M' => M' = thM M 1) (PM dC dI am) (AM am)) 0 0 (AM am) := by
  refine Met.ofW (cc := cX6_near) (maxL := 10) (ret := (some .int)) pl_X6 rfl ?_
  intro p e s m args below meth c s₁ B hml hv
  obtain ⟨rfl, hPX⟩ := hv
  have hx := B.exec
  have hb := B.bytes
  have hr := B.returns
  have hts := atoms_spec (ws := wsX6_near) B.pre
  have hown : s.vm.findClass RX6 = some m.cls := findClass_of_methodNamed B.named
  have hlocks := B.notSynchronized
  have hin6 : ∀ w ∈ u_ws RX6 TX6 10, w ∈ wsX6_near := tu 1331 (by decide +kernel) rfl
  have hX := WM.of hPX
  have hl := lv_entry ([.ref (am 0), .int (nI i), .int x9, .int y2, .int y3]) (n := 10) (Nat.le_of_ble_eq_true rfl)
  rw [lg_entry_eq]
  generalize (lg_sl ([.ref (am 0), .int (nI i), .int x9, .int y2, .int y3]) ++ List.replicate (10 - (lg_sl ([.ref (am 0), .int (nI i), .int x9, .int y2, .int y3])).length) Slot.unset).toArray = ls at hl ⊢
  have hl : lv_has ls 10 [(0, .ref (am 0)), (1, .int (nI i)), (2, .int x9), (3, .int y2), (4, .int y3)] := hl
  show W p l e ({ frames := 2, cells := 0, slots := 0, locals := 47 } : Room) s m ([.ref (am 0), .int (nI i), .int x9, .int y2, .int y3]).toArray below meth c s.heap [] 0 0 (MQ below (va_Qi (fun r M' => M' = thM M 1) (PM dC dI am) (AM am)) ([.ref (am 0), .int (nI i), .int x9, .int y2, .int y3]).toArray s 0 0 (AM am)) (F0 m 0 ls [])
  refine lv_aload_n hx hb dX6_near_0 rfl (lv_at hl 0 rfl) ?_
  refine lv_iload_n hx hb dX6_near_1 rfl (lv_at hl 1 rfl) ?_
  refine kx_cr (v := bI false) (va_runS (As := [.int (nI i)]) (rest := [.ref (am 0)]) ⟨hx, hb, hml, hown, hts⟩ (m_X6_isNoRow l dC dI am M (nI i)) (va_cwS 1 hts gX6_near_X6_isNoRow rfl rfl rfl hdX6_isNoRow_1.2 ⟨Nat.le_of_ble_eq_true rfl, Nat.le_of_ble_eq_true rfl⟩) hX.preS rfl rfl hl.1 rfl (lv_room (Nat.le_of_ble_eq_true rfl)) dX6_near_2 ⟨Nat.le_of_ble_eq_true rfl, Nat.le_of_ble_eq_true rfl⟩) (fun _ h => h.trans (isNo_ok (by omega) (by omega))) ?_
  refine kb_if_ne (tgt := 15) hx hb dX6_near_5 (by decide) (fun k_1 => absurd k_1 (by decide)) (fun k_1 => ?_)
  refine lv_iload_n hx hb dX6_near_8 rfl (lv_at hl 2 rfl) ?_
  refine kx_cr (v := bI true) (va_runS (As := [.int x9]) (rest := [.ref (am 0)]) ⟨hx, hb, hml, hown, hts⟩ (m_X6_isNoOrder l dC dI am M x9) (va_cwS 1 hts gX6_near_X6_isNoOrder rfl rfl rfl hdX6_isNoOrder_1.2 ⟨Nat.le_of_ble_eq_true rfl, Nat.le_of_ble_eq_true rfl⟩) hX.preS rfl rfl hl.1 rfl (lv_room (Nat.le_of_ble_eq_true rfl)) dX6_near_9 ⟨Nat.le_of_ble_eq_true rfl, Nat.le_of_ble_eq_true rfl⟩) (fun _ h => h.trans (isNo_bad (isNo_o hb9))) ?_
  refine kb_if_eq (tgt := 19) hx hb dX6_near_12 (by decide) (fun k_2 => absurd k_2 (by decide)) (fun k_2 => ?_)
  refine lv_iconst (v := nI 1) hx hb dX6_near_15 (by decide) ?_
  refine lv_goto (tgt := 20) hx hb dX6_near_16 (by decide) ?_
  refine lv_iconst (v := nI 1) hx hb dX6_near_20 (by decide) ?_
  refine km_ci (va_runV (As := [.int (nI 1), .int (nI 1)]) (rest := []) ⟨hx, hb, hml, hown, hts⟩ (m_X6_start l dC dI am M true 1 (by omega)) (cwV 2 hts gX6_near_X6_start rfl rfl rfl hdX6_start_2 ⟨Nat.le_of_ble_eq_true rfl, Nat.le_of_ble_eq_true rfl⟩) (hX.preObj) rfl rfl hl.1 rfl (lv_room (Nat.le_of_ble_eq_true rfl)) dX6_near_21 ⟨Nat.le_of_ble_eq_true rfl, Nat.le_of_ble_eq_true rfl⟩) hX (fun _ h => h) (fun r_ S_ H locs hw hX => ?_)
  obtain ⟨rfl, rfl⟩ := hw
  refine kb_if_ne (tgt := 56) hx hb dX6_near_24 (by decide) (fun k_3 => ?_) (fun k_3 => absurd k_3 (by decide))
  refine lv_iconst (v := nI 0) hx hb dX6_near_56 (by decide) ?_
  exact W.iret (v := nI 0) hx hb hr (fun t9 ht9 hW9 => ⟨⟨_, (mN M (1, M.2.2.2.1, M.2.2.2.2.1, M.2.2.2.2.2)), rfl, rfl, hX.P ht9 hW9⟩, hX.2.2.2.F ht9⟩) hX.2.2.2.2.2 dX6_near_57
set_option maxHeartbeats 4000000 in
set_option maxRecDepth 100000 in
theorem o_X6_near_3 (l : Launch) (dC : Nat → ClassId) (dI : Nat → Nat → Nat) (am : Nat → Nat) (M : MS) (i : Nat) (j : Nat) (x9 : Int32) (y3 : Int32) (hi : i < 3) (hj : j < 4) (hb9 : x9 < 0 ∨ nI 15 < x9) (hI : InvM M) : Met l yX6_near wsX6_near ({ frames := 2, cells := 0, slots := 0, locals := 47 } : Room) (va_Pc [.ref (am 0), .int (nI i), .int (nI j), .int x9, .int y3] (PM dC dI am M)) (va_Qi (fun r M' => M' = thM M 2) (PM dC dI am) (AM am)) 0 0 (AM am) := by
  refine Met.ofW (cc := cX6_near) (maxL := 10) (ret := (some .int)) pl_X6 rfl ?_
  intro p e s m args below meth c s₁ B hml hv
  obtain ⟨rfl, hPX⟩ := hv
  have hx := B.exec
  have hb := B.bytes
  have hr := B.returns
  have hts := atoms_spec (ws := wsX6_near) B.pre
  have hown : s.vm.findClass RX6 = some m.cls := findClass_of_methodNamed B.named
  have hlocks := B.notSynchronized
  have hin6 : ∀ w ∈ u_ws RX6 TX6 10, w ∈ wsX6_near := tu 1331 (by decide +kernel) rfl
  have hX := WM.of hPX
  have hl := lv_entry ([.ref (am 0), .int (nI i), .int (nI j), .int x9, .int y3]) (n := 10) (Nat.le_of_ble_eq_true rfl)
  rw [lg_entry_eq]
  generalize (lg_sl ([.ref (am 0), .int (nI i), .int (nI j), .int x9, .int y3]) ++ List.replicate (10 - (lg_sl ([.ref (am 0), .int (nI i), .int (nI j), .int x9, .int y3])).length) Slot.unset).toArray = ls at hl ⊢
  have hl : lv_has ls 10 [(0, .ref (am 0)), (1, .int (nI i)), (2, .int (nI j)), (3, .int x9), (4, .int y3)] := hl
  show W p l e ({ frames := 2, cells := 0, slots := 0, locals := 47 } : Room) s m ([.ref (am 0), .int (nI i), .int (nI j), .int x9, .int y3]).toArray below meth c s.heap [] 0 0 (MQ below (va_Qi (fun r M' => M' = thM M 2) (PM dC dI am) (AM am)) ([.ref (am 0), .int (nI i), .int (nI j), .int x9, .int y3]).toArray s 0 0 (AM am)) (F0 m 0 ls [])
  refine lv_aload_n hx hb dX6_near_0 rfl (lv_at hl 0 rfl) ?_
  refine lv_iload_n hx hb dX6_near_1 rfl (lv_at hl 1 rfl) ?_
  refine kx_cr (v := bI false) (va_runS (As := [.int (nI i)]) (rest := [.ref (am 0)]) ⟨hx, hb, hml, hown, hts⟩ (m_X6_isNoRow l dC dI am M (nI i)) (va_cwS 1 hts gX6_near_X6_isNoRow rfl rfl rfl hdX6_isNoRow_1.2 ⟨Nat.le_of_ble_eq_true rfl, Nat.le_of_ble_eq_true rfl⟩) hX.preS rfl rfl hl.1 rfl (lv_room (Nat.le_of_ble_eq_true rfl)) dX6_near_2 ⟨Nat.le_of_ble_eq_true rfl, Nat.le_of_ble_eq_true rfl⟩) (fun _ h => h.trans (isNo_ok (by omega) (by omega))) ?_
  refine kb_if_ne (tgt := 15) hx hb dX6_near_5 (by decide) (fun k_1 => absurd k_1 (by decide)) (fun k_1 => ?_)
  refine lv_iload_n hx hb dX6_near_8 rfl (lv_at hl 2 rfl) ?_
  refine kx_cr (v := bI false) (va_runS (As := [.int (nI j)]) (rest := [.ref (am 0)]) ⟨hx, hb, hml, hown, hts⟩ (m_X6_isNoOrder l dC dI am M (nI j)) (va_cwS 1 hts gX6_near_X6_isNoOrder rfl rfl rfl hdX6_isNoOrder_1.2 ⟨Nat.le_of_ble_eq_true rfl, Nat.le_of_ble_eq_true rfl⟩) hX.preS rfl rfl hl.1 rfl (lv_room (Nat.le_of_ble_eq_true rfl)) dX6_near_9 ⟨Nat.le_of_ble_eq_true rfl, Nat.le_of_ble_eq_true rfl⟩) (fun _ h => h.trans (isNo_ok (by omega) (by omega))) ?_
  refine kb_if_eq (tgt := 19) hx hb dX6_near_12 (by decide) (fun k_2 => ?_) (fun k_2 => absurd k_2 (by decide))
  refine lv_iconst (v := nI 0) hx hb dX6_near_19 (by decide) ?_
  refine lv_iconst (v := nI 1) hx hb dX6_near_20 (by decide) ?_
  refine km_ci (va_runV (As := [.int (nI 0), .int (nI 1)]) (rest := []) ⟨hx, hb, hml, hown, hts⟩ (m_X6_start l dC dI am M false 1 (by omega)) (cwV 2 hts gX6_near_X6_start rfl rfl rfl hdX6_start_2 ⟨Nat.le_of_ble_eq_true rfl, Nat.le_of_ble_eq_true rfl⟩) (hX.preObj) rfl rfl hl.1 rfl (lv_room (Nat.le_of_ble_eq_true rfl)) dX6_near_21 ⟨Nat.le_of_ble_eq_true rfl, Nat.le_of_ble_eq_true rfl⟩) hX (fun _ h => h) (fun r_ S_ H locs hw hX => ?_)
  obtain ⟨rfl, rfl⟩ := hw
  refine kb_if_ne (tgt := 56) hx hb dX6_near_24 (by decide) (fun k_3 => absurd k_3 (by decide)) (fun k_3 => ?_)
  refine lv_aload_n hx hb dX6_near_27 rfl (lv_at hl 0 rfl) ?_
  refine lv_iload_n hx hb dX6_near_28 rfl (lv_at hl 3 rfl) ?_
  refine kx_cr (v := bI true) (va_runS (As := [.int x9]) (rest := [.ref (am 0)]) ⟨hx, hb, hml, hown, hts⟩ (m_X6_isNoValue l dC dI am (mN M (0, M.2.2.2.1, M.2.2.2.2.1, M.2.2.2.2.2)) x9) (va_cwS 1 hts gX6_near_X6_isNoValue rfl rfl rfl hdX6_isNoValue_1.2 ⟨Nat.le_of_ble_eq_true rfl, Nat.le_of_ble_eq_true rfl⟩) hX.preS rfl rfl hl.1 rfl (lv_room (Nat.le_of_ble_eq_true rfl)) dX6_near_29 ⟨Nat.le_of_ble_eq_true rfl, Nat.le_of_ble_eq_true rfl⟩) (fun _ h => h.trans (isNo_bad hb9)) ?_
  refine kb_if_ne (tgt := 44) hx hb dX6_near_32 (by decide) (fun k_4 => ?_) (fun k_4 => absurd k_4 (by decide))
  refine lv_iconst (v := nI 1) hx hb dX6_near_44 (by decide) ?_
  refine lv_goto (tgt := 49) hx hb dX6_near_45 (by decide) ?_
  refine lv_iconst (v := nI 2) hx hb dX6_near_49 (by decide) ?_
  refine km_ci (va_runV (As := [.int (nI 1), .int (nI 2)]) (rest := []) ⟨hx, hb, hml, hown, hts⟩ (m_X6_refuse l dC dI am (mN M (0, M.2.2.2.1, M.2.2.2.2.1, M.2.2.2.2.2)) true 2 (by omega) rfl) (cwV 2 hts gX6_near_X6_refuse rfl rfl rfl hdX6_refuse_2 ⟨Nat.le_of_ble_eq_true rfl, Nat.le_of_ble_eq_true rfl⟩) (hX.preObj) rfl rfl hl.1 rfl (lv_room (Nat.le_of_ble_eq_true rfl)) dX6_near_50 ⟨Nat.le_of_ble_eq_true rfl, Nat.le_of_ble_eq_true rfl⟩) hX (fun _ h => h) (fun r_ S_ H locs hw hX => ?_)
  obtain ⟨rfl, rfl⟩ := hw
  refine kb_if_eq (tgt := 58) hx hb dX6_near_53 (by decide) (fun k_5 => absurd k_5 (by decide)) (fun k_5 => ?_)
  refine lv_iconst (v := nI 0) hx hb dX6_near_56 (by decide) ?_
  exact W.iret (v := nI 0) hx hb hr (fun t9 ht9 hW9 => ⟨⟨_, (mN M (2, M.2.2.2.1, M.2.2.2.2.1, M.2.2.2.2.2)), rfl, rfl, hX.P ht9 hW9⟩, hX.2.2.2.F ht9⟩) hX.2.2.2.2.2 dX6_near_57
set_option maxHeartbeats 4000000 in
set_option maxRecDepth 100000 in
theorem o_X6_near_4 (l : Launch) (dC : Nat → ClassId) (dI : Nat → Nat → Nat) (am : Nat → Nat) (M : MS) (i : Nat) (j : Nat) (v : Nat) (x9 : Int32) (hi : i < 3) (hj : j < 4) (hv : v < 16) (hb9 : x9 < 0 ∨ nI 3 < x9) (hI : InvM M) : Met l yX6_near wsX6_near ({ frames := 2, cells := 0, slots := 0, locals := 47 } : Room) (va_Pc [.ref (am 0), .int (nI i), .int (nI j), .int (nI v), .int x9] (PM dC dI am M)) (va_Qi (fun r M' => M' = thM M 2) (PM dC dI am) (AM am)) 0 0 (AM am) := by
  refine Met.ofW (cc := cX6_near) (maxL := 10) (ret := (some .int)) pl_X6 rfl ?_
  intro p e s m args below meth c s₁ B hml hv
  obtain ⟨rfl, hPX⟩ := hv
  have hx := B.exec
  have hb := B.bytes
  have hr := B.returns
  have hts := atoms_spec (ws := wsX6_near) B.pre
  have hown : s.vm.findClass RX6 = some m.cls := findClass_of_methodNamed B.named
  have hlocks := B.notSynchronized
  have hin6 : ∀ w ∈ u_ws RX6 TX6 10, w ∈ wsX6_near := tu 1331 (by decide +kernel) rfl
  have hX := WM.of hPX
  have hl := lv_entry ([.ref (am 0), .int (nI i), .int (nI j), .int (nI v), .int x9]) (n := 10) (Nat.le_of_ble_eq_true rfl)
  rw [lg_entry_eq]
  generalize (lg_sl ([.ref (am 0), .int (nI i), .int (nI j), .int (nI v), .int x9]) ++ List.replicate (10 - (lg_sl ([.ref (am 0), .int (nI i), .int (nI j), .int (nI v), .int x9])).length) Slot.unset).toArray = ls at hl ⊢
  have hl : lv_has ls 10 [(0, .ref (am 0)), (1, .int (nI i)), (2, .int (nI j)), (3, .int (nI v)), (4, .int x9)] := hl
  show W p l e ({ frames := 2, cells := 0, slots := 0, locals := 47 } : Room) s m ([.ref (am 0), .int (nI i), .int (nI j), .int (nI v), .int x9]).toArray below meth c s.heap [] 0 0 (MQ below (va_Qi (fun r M' => M' = thM M 2) (PM dC dI am) (AM am)) ([.ref (am 0), .int (nI i), .int (nI j), .int (nI v), .int x9]).toArray s 0 0 (AM am)) (F0 m 0 ls [])
  refine lv_aload_n hx hb dX6_near_0 rfl (lv_at hl 0 rfl) ?_
  refine lv_iload_n hx hb dX6_near_1 rfl (lv_at hl 1 rfl) ?_
  refine kx_cr (v := bI false) (va_runS (As := [.int (nI i)]) (rest := [.ref (am 0)]) ⟨hx, hb, hml, hown, hts⟩ (m_X6_isNoRow l dC dI am M (nI i)) (va_cwS 1 hts gX6_near_X6_isNoRow rfl rfl rfl hdX6_isNoRow_1.2 ⟨Nat.le_of_ble_eq_true rfl, Nat.le_of_ble_eq_true rfl⟩) hX.preS rfl rfl hl.1 rfl (lv_room (Nat.le_of_ble_eq_true rfl)) dX6_near_2 ⟨Nat.le_of_ble_eq_true rfl, Nat.le_of_ble_eq_true rfl⟩) (fun _ h => h.trans (isNo_ok (by omega) (by omega))) ?_
  refine kb_if_ne (tgt := 15) hx hb dX6_near_5 (by decide) (fun k_1 => absurd k_1 (by decide)) (fun k_1 => ?_)
  refine lv_iload_n hx hb dX6_near_8 rfl (lv_at hl 2 rfl) ?_
  refine kx_cr (v := bI false) (va_runS (As := [.int (nI j)]) (rest := [.ref (am 0)]) ⟨hx, hb, hml, hown, hts⟩ (m_X6_isNoOrder l dC dI am M (nI j)) (va_cwS 1 hts gX6_near_X6_isNoOrder rfl rfl rfl hdX6_isNoOrder_1.2 ⟨Nat.le_of_ble_eq_true rfl, Nat.le_of_ble_eq_true rfl⟩) hX.preS rfl rfl hl.1 rfl (lv_room (Nat.le_of_ble_eq_true rfl)) dX6_near_9 ⟨Nat.le_of_ble_eq_true rfl, Nat.le_of_ble_eq_true rfl⟩) (fun _ h => h.trans (isNo_ok (by omega) (by omega))) ?_
  refine kb_if_eq (tgt := 19) hx hb dX6_near_12 (by decide) (fun k_2 => ?_) (fun k_2 => absurd k_2 (by decide))
  refine lv_iconst (v := nI 0) hx hb dX6_near_19 (by decide) ?_
  refine lv_iconst (v := nI 1) hx hb dX6_near_20 (by decide) ?_
  refine km_ci (va_runV (As := [.int (nI 0), .int (nI 1)]) (rest := []) ⟨hx, hb, hml, hown, hts⟩ (m_X6_start l dC dI am M false 1 (by omega)) (cwV 2 hts gX6_near_X6_start rfl rfl rfl hdX6_start_2 ⟨Nat.le_of_ble_eq_true rfl, Nat.le_of_ble_eq_true rfl⟩) (hX.preObj) rfl rfl hl.1 rfl (lv_room (Nat.le_of_ble_eq_true rfl)) dX6_near_21 ⟨Nat.le_of_ble_eq_true rfl, Nat.le_of_ble_eq_true rfl⟩) hX (fun _ h => h) (fun r_ S_ H locs hw hX => ?_)
  obtain ⟨rfl, rfl⟩ := hw
  refine kb_if_ne (tgt := 56) hx hb dX6_near_24 (by decide) (fun k_3 => absurd k_3 (by decide)) (fun k_3 => ?_)
  refine lv_aload_n hx hb dX6_near_27 rfl (lv_at hl 0 rfl) ?_
  refine lv_iload_n hx hb dX6_near_28 rfl (lv_at hl 3 rfl) ?_
  refine kx_cr (v := bI false) (va_runS (As := [.int (nI v)]) (rest := [.ref (am 0)]) ⟨hx, hb, hml, hown, hts⟩ (m_X6_isNoValue l dC dI am (mN M (0, M.2.2.2.1, M.2.2.2.2.1, M.2.2.2.2.2)) (nI v)) (va_cwS 1 hts gX6_near_X6_isNoValue rfl rfl rfl hdX6_isNoValue_1.2 ⟨Nat.le_of_ble_eq_true rfl, Nat.le_of_ble_eq_true rfl⟩) hX.preS rfl rfl hl.1 rfl (lv_room (Nat.le_of_ble_eq_true rfl)) dX6_near_29 ⟨Nat.le_of_ble_eq_true rfl, Nat.le_of_ble_eq_true rfl⟩) (fun _ h => h.trans (isNo_ok (by omega) (by omega))) ?_
  refine kb_if_ne (tgt := 44) hx hb dX6_near_32 (by decide) (fun k_4 => absurd k_4 (by decide)) (fun k_4 => ?_)
  refine lv_iload hx hb dX6_near_35 (lv_at hl 4 rfl) ?_
  refine lv_iconst (v := nI 3) hx hb dX6_near_37 (by decide) ?_
  refine kx_cr (v := bI true) (va_runS (As := [.int x9, .int (nI 3)]) (rest := [.ref (am 0)]) ⟨hx, hb, hml, hown, hts⟩ (m_X6_isNo l dC dI am (mN M (0, M.2.2.2.1, M.2.2.2.2.1, M.2.2.2.2.2)) x9 (nI 3)) (va_cwS 2 hts gX6_near_X6_isNo rfl rfl rfl hdX6_isNo_2.2 ⟨Nat.le_of_ble_eq_true rfl, Nat.le_of_ble_eq_true rfl⟩) hX.preS rfl rfl hl.1 rfl (lv_room (Nat.le_of_ble_eq_true rfl)) dX6_near_38 ⟨Nat.le_of_ble_eq_true rfl, Nat.le_of_ble_eq_true rfl⟩) (fun _ h => h.trans (isNo_bad hb9)) ?_
  refine kb_if_eq (tgt := 48) hx hb dX6_near_41 (by decide) (fun k_5 => absurd k_5 (by decide)) (fun k_5 => ?_)
  refine lv_iconst (v := nI 1) hx hb dX6_near_44 (by decide) ?_
  refine lv_goto (tgt := 49) hx hb dX6_near_45 (by decide) ?_
  refine lv_iconst (v := nI 2) hx hb dX6_near_49 (by decide) ?_
  refine km_ci (va_runV (As := [.int (nI 1), .int (nI 2)]) (rest := []) ⟨hx, hb, hml, hown, hts⟩ (m_X6_refuse l dC dI am (mN M (0, M.2.2.2.1, M.2.2.2.2.1, M.2.2.2.2.2)) true 2 (by omega) rfl) (cwV 2 hts gX6_near_X6_refuse rfl rfl rfl hdX6_refuse_2 ⟨Nat.le_of_ble_eq_true rfl, Nat.le_of_ble_eq_true rfl⟩) (hX.preObj) rfl rfl hl.1 rfl (lv_room (Nat.le_of_ble_eq_true rfl)) dX6_near_50 ⟨Nat.le_of_ble_eq_true rfl, Nat.le_of_ble_eq_true rfl⟩) hX (fun _ h => h) (fun r_ S_ H locs hw hX => ?_)
  obtain ⟨rfl, rfl⟩ := hw
  refine kb_if_eq (tgt := 58) hx hb dX6_near_53 (by decide) (fun k_6 => absurd k_6 (by decide)) (fun k_6 => ?_)
  refine lv_iconst (v := nI 0) hx hb dX6_near_56 (by decide) ?_
  exact W.iret (v := nI 0) hx hb hr (fun t9 ht9 hW9 => ⟨⟨_, (mN M (2, M.2.2.2.1, M.2.2.2.2.1, M.2.2.2.2.2)), rfl, rfl, hX.P ht9 hW9⟩, hX.2.2.2.F ht9⟩) hX.2.2.2.2.2 dX6_near_57
set_option maxHeartbeats 4000000 in
set_option maxRecDepth 100000 in
theorem m_X6_add (l : Launch) (dC : Nat → ClassId) (dI : Nat → Nat → Nat) (am : Nat → Nat) (M : MS) (j k : Nat) (z : Bool) (hj : j < 4) (hn : (M.2.1 j).2.2 < 5) : Met l yX6_add wsX6_add ({ frames := 0, cells := 0, slots := 0, locals := 0 } : Room) (va_Pc [.ref (am 0), .int (nI j), .int (nI k), .int (bI z)] (PM dC dI am M)) (va_Qv (fun M' => M' = mO M j (va_up (M.2.1 j).1 (M.2.1 j).2.2 k, va_up (M.2.1 j).2.1 (M.2.1 j).2.2 z, (M.2.1 j).2.2 + 1)) (PM dC dI am) (AM am)) 0 0 (AM am) := by
  refine Met.ofW (cc := cX6_add) (maxL := 4) (ret := none) pl_X6 rfl ?_
  intro p e s m args below meth c s₁ B hml hv
  obtain ⟨rfl, hPX⟩ := hv
  have hx := B.exec
  have hb := B.bytes
  have hr := B.returns
  have hts := atoms_spec (ws := wsX6_add) B.pre
  have hown : s.vm.findClass RX6 = some m.cls := findClass_of_methodNamed B.named
  have hlocks := B.notSynchronized
  have hin6 : ∀ w ∈ u_ws RX6 TX6 10, w ∈ wsX6_add := tu 1331 (by decide +kernel) rfl
  have hX := WM.of hPX
  have hl := lv_entry ([.ref (am 0), .int (nI j), .int (nI k), .int (bI z)]) (n := 4) (Nat.le_of_ble_eq_true rfl)
  rw [lg_entry_eq]
  generalize (lg_sl ([.ref (am 0), .int (nI j), .int (nI k), .int (bI z)]) ++ List.replicate (4 - (lg_sl ([.ref (am 0), .int (nI j), .int (nI k), .int (bI z)])).length) Slot.unset).toArray = ls at hl ⊢
  have hl : lv_has ls 4 [(0, .ref (am 0)), (1, .int (nI j)), (2, .int (nI k)), (3, .int (bI z))] := hl
  show W p l e ({ frames := 0, cells := 0, slots := 0, locals := 0 } : Room) s m ([.ref (am 0), .int (nI j), .int (nI k), .int (bI z)]).toArray below meth c s.heap [] 0 0 (MQ below (va_Qv (fun M' => M' = mO M j (va_up (M.2.1 j).1 (M.2.1 j).2.2 k, va_up (M.2.1 j).2.1 (M.2.1 j).2.2 z, (M.2.1 j).2.2 + 1)) (PM dC dI am) (AM am)) ([.ref (am 0), .int (nI j), .int (nI k), .int (bI z)]).toArray s 0 0 (AM am)) (F0 m 0 ls [])
  refine lv_aload_n hx hb dX6_add_0 rfl (lv_at hl 0 rfl) ?_
  refine km_gkeys hx hb hts hin6 hown hX (hts (.fieldLink RX6 21 "OrderlatticeModel" "keys" "[[I") (tm 725 (by decide +kernel) rfl)) dX6_add_1 ?_
  refine lv_iload_n hx hb dX6_add_4 rfl (lv_at hl 1 rfl) ?_
  refine km_ak hx hb hX (by omega) dX6_add_5 ?_
  refine lv_aload_n hx hb dX6_add_6 rfl (lv_at hl 0 rfl) ?_
  refine km_gsteps hx hb hts hin6 hown hX (hts (.fieldLink RX6 29 "OrderlatticeModel" "steps" "[I") (tm 724 (by decide +kernel) rfl)) dX6_add_7 ?_
  refine lv_iload_n hx hb dX6_add_10 rfl (lv_at hl 1 rfl) ?_
  refine km_lt (v := (M.2.1 j).2.2) hx hb hX (by omega) rfl dX6_add_11 ?_
  refine lv_iload_n hx hb dX6_add_12 rfl (lv_at hl 2 rfl) ?_
  refine km_sk (M' := (mO M j (va_up ((M.2.1 j).1) ((M.2.1 j).2.2) k, (M.2.1 j).2.1, (M.2.1 j).2.2))) hx hb hX (by omega) (by omega) rfl dX6_add_13 (fun H locs hX => ?_)
  refine lv_aload_n hx hb dX6_add_14 rfl (lv_at hl 0 rfl) ?_
  refine km_gdowns hx hb hts hin6 hown hX (hts (.fieldLink RX6 26 "OrderlatticeModel" "downs" "[[Z") (tm 726 (by decide +kernel) rfl)) dX6_add_15 ?_
  refine lv_iload_n hx hb dX6_add_18 rfl (lv_at hl 1 rfl) ?_
  refine km_ad hx hb hX (by omega) dX6_add_19 ?_
  refine lv_aload_n hx hb dX6_add_20 rfl (lv_at hl 0 rfl) ?_
  refine km_gsteps hx hb hts hin6 hown hX (hts (.fieldLink RX6 29 "OrderlatticeModel" "steps" "[I") (tm 724 (by decide +kernel) rfl)) dX6_add_21 ?_
  refine lv_iload_n hx hb dX6_add_24 rfl (lv_at hl 1 rfl) ?_
  refine km_lt (v := (M.2.1 j).2.2) hx hb hX (by omega) (by rw [mO_ord] <;> rfl) dX6_add_25 ?_
  refine lv_iload_n hx hb dX6_add_26 rfl (lv_at hl 3 rfl) ?_
  refine km_sd (M' := (mO M j (va_up ((M.2.1 j).1) ((M.2.1 j).2.2) k, va_up ((M.2.1 j).2.1) ((M.2.1 j).2.2) z, (M.2.1 j).2.2))) hx hb hX (by omega) (by omega) (by rw [mO_ord, mO_mO]) dX6_add_27 (fun H locs hX => ?_)
  refine lv_aload_n hx hb dX6_add_28 rfl (lv_at hl 0 rfl) ?_
  refine km_gsteps hx hb hts hin6 hown hX (hts (.fieldLink RX6 29 "OrderlatticeModel" "steps" "[I") (tm 724 (by decide +kernel) rfl)) dX6_add_29 ?_
  refine lv_iload_n hx hb dX6_add_32 rfl (lv_at hl 1 rfl) ?_
  refine lv_dup2_11 hx hb dX6_add_33 rfl rfl ?_
  refine km_lt (v := (M.2.1 j).2.2) hx hb hX (by omega) (by rw [mO_ord] <;> rfl) dX6_add_34 ?_
  refine lv_iconst (v := nI 1) hx hb dX6_add_35 (by decide) ?_
  refine kn_iadd hx hb dX6_add_36 ?_
  refine km_st (M' := (mO M j (va_up ((M.2.1 j).1) ((M.2.1 j).2.2) k, va_up ((M.2.1 j).2.1) ((M.2.1 j).2.2) z, (M.2.1 j).2.2 + 1))) hx hb hX  (by omega) (by rw [mO_ord, mO_mO]) dX6_add_37 (fun H locs hX => ?_)
  exact W.vret hx hb hr (fun t9 ht9 hW9 => ⟨⟨(mO M j (va_up ((M.2.1 j).1) ((M.2.1 j).2.2) k, va_up ((M.2.1 j).2.1) ((M.2.1 j).2.2) z, (M.2.1 j).2.2 + 1)), rfl, rfl, hX.P ht9 hW9⟩, hX.2.2.2.F ht9⟩) hX.2.2.2.2.2 dX6_add_38
set_option maxHeartbeats 4000000 in
set_option maxRecDepth 100000 in
theorem m_X6_step (l : Launch) (dC : Nat → ClassId) (dI : Nat → Nat → Nat) (am : Nat → Nat) (M : MS) (j : Nat) (k : Nat) (z : Bool) (hj : j < 4) (hk : k ≤ 7) (hI : InvM M) : Met l yX6_step wsX6_step ({ frames := 4, cells := 0, slots := 0, locals := 93 } : Room) (va_Pc [.ref (am 0), .int (nI j), .int (nI k), .int (bI z)] (PM dC dI am M)) (va_Qi (fun r M' => ((M.2.1 j).2.2 < 5 ∧ r = nI (classC (cM M' j)) ∧ M' = mO (thM M 0) j (va_up (M.2.1 j).1 (M.2.1 j).2.2 k, va_up (M.2.1 j).2.1 (M.2.1 j).2.2 z, (M.2.1 j).2.2 + 1)) ∨ (5 ≤ (M.2.1 j).2.2 ∧ r = -9 ∧ M' = refM M)) (PM dC dI am) (AM am)) 0 0 (AM am) := by
  refine Met.ofW (cc := cX6_step) (maxL := 4) (ret := (some .int)) pl_X6 rfl ?_
  intro p e s m args below meth c s₁ B hml hv
  obtain ⟨rfl, hPX⟩ := hv
  have hx := B.exec
  have hb := B.bytes
  have hr := B.returns
  have hts := atoms_spec (ws := wsX6_step) B.pre
  have hown : s.vm.findClass RX6 = some m.cls := findClass_of_methodNamed B.named
  have hlocks := B.notSynchronized
  have hin6 : ∀ w ∈ u_ws RX6 TX6 10, w ∈ wsX6_step := tu 1331 (by decide +kernel) rfl
  have hX := WM.of hPX
  have hl := lv_entry ([.ref (am 0), .int (nI j), .int (nI k), .int (bI z)]) (n := 4) (Nat.le_of_ble_eq_true rfl)
  rw [lg_entry_eq]
  generalize (lg_sl ([.ref (am 0), .int (nI j), .int (nI k), .int (bI z)]) ++ List.replicate (4 - (lg_sl ([.ref (am 0), .int (nI j), .int (nI k), .int (bI z)])).length) Slot.unset).toArray = ls at hl ⊢
  have hl : lv_has ls 4 [(0, .ref (am 0)), (1, .int (nI j)), (2, .int (nI k)), (3, .int (bI z))] := hl
  show W p l e ({ frames := 4, cells := 0, slots := 0, locals := 93 } : Room) s m ([.ref (am 0), .int (nI j), .int (nI k), .int (bI z)]).toArray below meth c s.heap [] 0 0 (MQ below (va_Qi (fun r M' => ((M.2.1 j).2.2 < 5 ∧ r = nI (classC (cM M' j)) ∧ M' = mO (thM M 0) j (va_up (M.2.1 j).1 (M.2.1 j).2.2 k, va_up (M.2.1 j).2.1 (M.2.1 j).2.2 z, (M.2.1 j).2.2 + 1)) ∨ (5 ≤ (M.2.1 j).2.2 ∧ r = -9 ∧ M' = refM M)) (PM dC dI am) (AM am)) ([.ref (am 0), .int (nI j), .int (nI k), .int (bI z)]).toArray s 0 0 (AM am)) (F0 m 0 ls [])
  have hn := (hI.2 j (by omega)).1
  refine lv_aload_n hx hb dX6_step_0 rfl (lv_at hl 0 rfl) ?_
  refine lv_iload_n hx hb dX6_step_1 rfl (lv_at hl 1 rfl) ?_
  refine kx_cr (v := bI false) (va_runS (As := [.int (nI j)]) (rest := [.ref (am 0)]) ⟨hx, hb, hml, hown, hts⟩ (m_X6_isNoOrder l dC dI am M (nI j)) (va_cwS 1 hts gX6_step_X6_isNoOrder rfl rfl rfl hdX6_isNoOrder_1.2 ⟨Nat.le_of_ble_eq_true rfl, Nat.le_of_ble_eq_true rfl⟩) hX.preS rfl rfl hl.1 rfl (lv_room (Nat.le_of_ble_eq_true rfl)) dX6_step_2 ⟨Nat.le_of_ble_eq_true rfl, Nat.le_of_ble_eq_true rfl⟩) (fun _ h => h.trans (isNo_ok (by omega) (by omega))) ?_
  refine lv_iconst (v := nI 1) hx hb dX6_step_5 (by decide) ?_
  refine km_ci (va_runV (As := [.int (bI false), .int (nI 1)]) (rest := []) ⟨hx, hb, hml, hown, hts⟩ (m_X6_start l dC dI am M false 1 (by omega)) (cwV 2 hts gX6_step_X6_start rfl rfl rfl hdX6_start_2 ⟨Nat.le_of_ble_eq_true rfl, Nat.le_of_ble_eq_true rfl⟩) (hX.preObj) rfl rfl hl.1 rfl (lv_room (Nat.le_of_ble_eq_true rfl)) dX6_step_6 ⟨Nat.le_of_ble_eq_true rfl, Nat.le_of_ble_eq_true rfl⟩) hX (fun _ h => h) (fun r_ S_ H locs hw hX => ?_)
  obtain ⟨rfl, rfl⟩ := hw
  refine kb_if_ne (tgt := 26) hx hb dX6_step_9 (by decide) (fun k_1 => absurd k_1 (by decide)) (fun k_1 => ?_)
  refine lv_aload_n hx hb dX6_step_12 rfl (lv_at hl 0 rfl) ?_
  refine lv_iload_n hx hb dX6_step_13 rfl (lv_at hl 2 rfl) ?_
  refine lv_bipush (v := nI 7) hx hb dX6_step_14 (by decide) ?_
  refine kx_cr (v := bI false) (va_runS (As := [.int (nI k), .int (nI 7)]) (rest := [.ref (am 0)]) ⟨hx, hb, hml, hown, hts⟩ (m_X6_isNo l dC dI am (mN M (0, M.2.2.2.1, M.2.2.2.2.1, M.2.2.2.2.2)) (nI k) (nI 7)) (va_cwS 2 hts gX6_step_X6_isNo rfl rfl rfl hdX6_isNo_2.2 ⟨Nat.le_of_ble_eq_true rfl, Nat.le_of_ble_eq_true rfl⟩) hX.preS rfl rfl hl.1 rfl (lv_room (Nat.le_of_ble_eq_true rfl)) dX6_step_16 ⟨Nat.le_of_ble_eq_true rfl, Nat.le_of_ble_eq_true rfl⟩) (fun _ h => h.trans (isNo_ok (by omega) (by omega))) ?_
  refine lv_iconst (v := nI 2) hx hb dX6_step_19 (by decide) ?_
  refine km_ci (va_runV (As := [.int (bI false), .int (nI 2)]) (rest := []) ⟨hx, hb, hml, hown, hts⟩ (m_X6_refuse l dC dI am (mN M (0, M.2.2.2.1, M.2.2.2.2.1, M.2.2.2.2.2)) false 2 (by omega) rfl) (cwV 2 hts gX6_step_X6_refuse rfl rfl rfl hdX6_refuse_2 ⟨Nat.le_of_ble_eq_true rfl, Nat.le_of_ble_eq_true rfl⟩) (hX.preObj) rfl rfl hl.1 rfl (lv_room (Nat.le_of_ble_eq_true rfl)) dX6_step_20 ⟨Nat.le_of_ble_eq_true rfl, Nat.le_of_ble_eq_true rfl⟩) hX (fun _ h => h) (fun r_ S_ H locs hw hX => ?_)
  obtain ⟨rfl, rfl⟩ := hw
  refine kb_if_eq (tgt := 28) hx hb dX6_step_23 (by decide) (fun k_2 => ?_) (fun k_2 => absurd k_2 (by decide))
  refine lv_aload_n hx hb dX6_step_28 rfl (lv_at hl 0 rfl) ?_
  refine km_gsteps hx hb hts hin6 hown hX (hts (.fieldLink RX6 29 "OrderlatticeModel" "steps" "[I") (tm 724 (by decide +kernel) rfl)) dX6_step_29 ?_
  refine lv_iload_n hx hb dX6_step_32 rfl (lv_at hl 1 rfl) ?_
  refine km_lt (v := (M.2.1 j).2.2) hx hb hX (by omega) rfl dX6_step_33 ?_
  refine lv_iconst (v := nI 5) hx hb dX6_step_34 (by decide) ?_
  refine kn_icmp_ne (tgt := 43) hx hb (by omega) (by omega) dX6_step_35 (by decide) (fun k_3 => ?_) (fun k_3 => ?_)
  · skip
    have hc := k_3
    refine lv_aload_n hx hb dX6_step_43 rfl (lv_at hl 0 rfl) ?_
    refine lv_iload_n hx hb dX6_step_44 rfl (lv_at hl 1 rfl) ?_
    refine lv_iload_n hx hb dX6_step_45 rfl (lv_at hl 2 rfl) ?_
    refine lv_iload_n hx hb dX6_step_46 rfl (lv_at hl 3 rfl) ?_
    refine km_cv (va_runV (As := [.int (nI j), .int (nI k), .int (bI z)]) (rest := []) ⟨hx, hb, hml, hown, hts⟩ (m_X6_add l dC dI am (mN M (0, M.2.2.2.1, M.2.2.2.2.1, M.2.2.2.2.2)) j k z (by omega) (show (M.2.1 j).2.2 < 5 by omega)) (cwV 3 hts gX6_step_X6_add rfl rfl rfl hdX6_add_3 ⟨Nat.le_of_ble_eq_true rfl, Nat.le_of_ble_eq_true rfl⟩) (hX.preObj) rfl rfl hl.1 rfl (lv_room (Nat.le_of_ble_eq_true rfl)) dX6_step_47 ⟨Nat.le_of_ble_eq_true rfl, Nat.le_of_ble_eq_true rfl⟩) hX (fun _ h => h) (fun S_ H locs hw hX => ?_)
    subst hw
    refine lv_aload_n hx hb dX6_step_50 rfl (lv_at hl 0 rfl) ?_
    refine lv_iload_n hx hb dX6_step_51 rfl (lv_at hl 1 rfl) ?_
    refine kx_cr (v := nI (classC (cM (mO (mN M (0, M.2.2.2.1, M.2.2.2.2.1, M.2.2.2.2.2)) j (va_up ((M.2.1 j).1) ((M.2.1 j).2.2) k, va_up ((M.2.1 j).2.1) ((M.2.1 j).2.2) z, (M.2.1 j).2.2 + 1)) j))) (va_runV (As := [.int (nI j)]) (rest := []) ⟨hx, hb, hml, hown, hts⟩ (m_X6_classesNow l dC dI am (mO (mN M (0, M.2.2.2.1, M.2.2.2.2.1, M.2.2.2.2.2)) j (va_up ((M.2.1 j).1) ((M.2.1 j).2.2) k, va_up ((M.2.1 j).2.1) ((M.2.1 j).2.2) z, (M.2.1 j).2.2 + 1)) j (by omega) (by rw [mO_ord]; exact ordM_add (hI.2 j (by omega)) (show (M.2.1 j).2.2 < 5 by omega) (by omega))) (cwV 1 hts gX6_step_X6_classesNow rfl rfl rfl hdX6_classesNow_1 ⟨Nat.le_of_ble_eq_true rfl, Nat.le_of_ble_eq_true rfl⟩) (hX.preObj) rfl rfl hl.1 rfl (lv_room (Nat.le_of_ble_eq_true rfl)) dX6_step_52 ⟨Nat.le_of_ble_eq_true rfl, Nat.le_of_ble_eq_true rfl⟩) (fun _ h => h) ?_
    exact W.iret (v := nI (classC (cM (mO (mN M (0, M.2.2.2.1, M.2.2.2.2.1, M.2.2.2.2.2)) j (va_up ((M.2.1 j).1) ((M.2.1 j).2.2) k, va_up ((M.2.1 j).2.1) ((M.2.1 j).2.2) z, (M.2.1 j).2.2 + 1)) j))) hx hb hr (fun t9 ht9 hW9 => ⟨⟨_, (mO (mN M (0, M.2.2.2.1, M.2.2.2.2.1, M.2.2.2.2.2)) j (va_up ((M.2.1 j).1) ((M.2.1 j).2.2) k, va_up ((M.2.1 j).2.1) ((M.2.1 j).2.2) z, (M.2.1 j).2.2 + 1)), rfl, (Or.inl ⟨by omega, rfl, rfl⟩), hX.P ht9 hW9⟩, hX.2.2.2.F ht9⟩) hX.2.2.2.2.2 dX6_step_55
  · skip
    have hc := k_3
    refine lv_aload_n hx hb dX6_step_38 rfl (lv_at hl 0 rfl) ?_
    refine km_ci (va_runV (As := []) (rest := []) ⟨hx, hb, hml, hown, hts⟩ (m_X6_no l dC dI am (mN M (0, M.2.2.2.1, M.2.2.2.2.1, M.2.2.2.2.2)) ) (cwV 0 hts gX6_step_X6_no rfl rfl rfl hdX6_no_0 ⟨Nat.le_of_ble_eq_true rfl, Nat.le_of_ble_eq_true rfl⟩) (hX.preObj) rfl rfl hl.1 rfl (lv_room (Nat.le_of_ble_eq_true rfl)) dX6_step_39 ⟨Nat.le_of_ble_eq_true rfl, Nat.le_of_ble_eq_true rfl⟩) hX (fun _ h => h) (fun r_ S_ H locs hw hX => ?_)
    obtain ⟨rfl, rfl⟩ := hw
    exact W.iret (v := (-9)) hx hb hr (fun t9 ht9 hW9 => ⟨⟨_, (mN M (0, M.2.2.2.1, M.2.2.2.2.1 + 1, M.2.2.2.2.2)), rfl, (Or.inr ⟨by omega, rfl, rfl⟩), hX.P ht9 hW9⟩, hX.2.2.2.F ht9⟩) hX.2.2.2.2.2 dX6_step_42
set_option maxHeartbeats 4000000 in
set_option maxRecDepth 100000 in
theorem m_X6_unstep (l : Launch) (dC : Nat → ClassId) (dI : Nat → Nat → Nat) (am : Nat → Nat) (M : MS) (j : Nat) (hj : j < 4) (hI : InvM M) : Met l yX6_unstep wsX6_unstep ({ frames := 2, cells := 0, slots := 0, locals := 44 } : Room) (va_Pc [.ref (am 0), .int (nI j)] (PM dC dI am M)) (va_Qi (fun r M' => ((M.2.1 j).2.2 ≠ 0 ∧ r = nI ((M.2.1 j).1 ((M.2.1 j).2.2 - 1)) ∧ M' = mO (thM M 0) j ((M.2.1 j).1, (M.2.1 j).2.1, (M.2.1 j).2.2 - 1)) ∨ ((M.2.1 j).2.2 = 0 ∧ r = -9 ∧ M' = refM M)) (PM dC dI am) (AM am)) 0 0 (AM am) := by
  refine Met.ofW (cc := cX6_unstep) (maxL := 2) (ret := (some .int)) pl_X6 rfl ?_
  intro p e s m args below meth c s₁ B hml hv
  obtain ⟨rfl, hPX⟩ := hv
  have hx := B.exec
  have hb := B.bytes
  have hr := B.returns
  have hts := atoms_spec (ws := wsX6_unstep) B.pre
  have hown : s.vm.findClass RX6 = some m.cls := findClass_of_methodNamed B.named
  have hlocks := B.notSynchronized
  have hin6 : ∀ w ∈ u_ws RX6 TX6 10, w ∈ wsX6_unstep := tu 1331 (by decide +kernel) rfl
  have hX := WM.of hPX
  have hl := lv_entry ([.ref (am 0), .int (nI j)]) (n := 2) (Nat.le_of_ble_eq_true rfl)
  rw [lg_entry_eq]
  generalize (lg_sl ([.ref (am 0), .int (nI j)]) ++ List.replicate (2 - (lg_sl ([.ref (am 0), .int (nI j)])).length) Slot.unset).toArray = ls at hl ⊢
  have hl : lv_has ls 2 [(0, .ref (am 0)), (1, .int (nI j))] := hl
  show W p l e ({ frames := 2, cells := 0, slots := 0, locals := 44 } : Room) s m ([.ref (am 0), .int (nI j)]).toArray below meth c s.heap [] 0 0 (MQ below (va_Qi (fun r M' => ((M.2.1 j).2.2 ≠ 0 ∧ r = nI ((M.2.1 j).1 ((M.2.1 j).2.2 - 1)) ∧ M' = mO (thM M 0) j ((M.2.1 j).1, (M.2.1 j).2.1, (M.2.1 j).2.2 - 1)) ∨ ((M.2.1 j).2.2 = 0 ∧ r = -9 ∧ M' = refM M)) (PM dC dI am) (AM am)) ([.ref (am 0), .int (nI j)]).toArray s 0 0 (AM am)) (F0 m 0 ls [])
  have hn := (hI.2 j (by omega)).1
  refine lv_aload_n hx hb dX6_unstep_0 rfl (lv_at hl 0 rfl) ?_
  refine lv_iload_n hx hb dX6_unstep_1 rfl (lv_at hl 1 rfl) ?_
  refine kx_cr (v := bI false) (va_runS (As := [.int (nI j)]) (rest := [.ref (am 0)]) ⟨hx, hb, hml, hown, hts⟩ (m_X6_isNoOrder l dC dI am M (nI j)) (va_cwS 1 hts gX6_unstep_X6_isNoOrder rfl rfl rfl hdX6_isNoOrder_1.2 ⟨Nat.le_of_ble_eq_true rfl, Nat.le_of_ble_eq_true rfl⟩) hX.preS rfl rfl hl.1 rfl (lv_room (Nat.le_of_ble_eq_true rfl)) dX6_unstep_2 ⟨Nat.le_of_ble_eq_true rfl, Nat.le_of_ble_eq_true rfl⟩) (fun _ h => h.trans (isNo_ok (by omega) (by omega))) ?_
  refine lv_iconst (v := nI 1) hx hb dX6_unstep_5 (by decide) ?_
  refine km_ci (va_runV (As := [.int (bI false), .int (nI 1)]) (rest := []) ⟨hx, hb, hml, hown, hts⟩ (m_X6_start l dC dI am M false 1 (by omega)) (cwV 2 hts gX6_unstep_X6_start rfl rfl rfl hdX6_start_2 ⟨Nat.le_of_ble_eq_true rfl, Nat.le_of_ble_eq_true rfl⟩) (hX.preObj) rfl rfl hl.1 rfl (lv_room (Nat.le_of_ble_eq_true rfl)) dX6_unstep_6 ⟨Nat.le_of_ble_eq_true rfl, Nat.le_of_ble_eq_true rfl⟩) hX (fun _ h => h) (fun r_ S_ H locs hw hX => ?_)
  obtain ⟨rfl, rfl⟩ := hw
  refine kb_if_eq (tgt := 14) hx hb dX6_unstep_9 (by decide) (fun k_1 => ?_) (fun k_1 => absurd k_1 (by decide))
  refine lv_aload_n hx hb dX6_unstep_14 rfl (lv_at hl 0 rfl) ?_
  refine km_gsteps hx hb hts hin6 hown hX (hts (.fieldLink RX6 29 "OrderlatticeModel" "steps" "[I") (tm 724 (by decide +kernel) rfl)) dX6_unstep_15 ?_
  refine lv_iload_n hx hb dX6_unstep_18 rfl (lv_at hl 1 rfl) ?_
  refine km_lt (v := (M.2.1 j).2.2) hx hb hX (by omega) rfl dX6_unstep_19 ?_
  refine kn_if_ne (tgt := 28) hx hb (by omega) dX6_unstep_20 (by decide) (fun k_2 => ?_) (fun k_2 => ?_)
  · skip
    have hc := k_2
    refine lv_aload_n hx hb dX6_unstep_28 rfl (lv_at hl 0 rfl) ?_
    refine km_gsteps hx hb hts hin6 hown hX (hts (.fieldLink RX6 29 "OrderlatticeModel" "steps" "[I") (tm 724 (by decide +kernel) rfl)) dX6_unstep_29 ?_
    refine lv_iload_n hx hb dX6_unstep_32 rfl (lv_at hl 1 rfl) ?_
    refine lv_dup2_11 hx hb dX6_unstep_33 rfl rfl ?_
    refine km_lt (v := (M.2.1 j).2.2) hx hb hX (by omega) rfl dX6_unstep_34 ?_
    refine lv_iconst (v := nI 1) hx hb dX6_unstep_35 (by decide) ?_
    refine kn_isub hx hb (by omega) dX6_unstep_36 ?_
    refine km_st (M' := (mO (mN M (0, M.2.2.2.1, M.2.2.2.2.1, M.2.2.2.2.2)) j ((M.2.1 j).1, (M.2.1 j).2.1, ((M.2.1 j).2.2) - 1))) hx hb hX  (by omega) rfl dX6_unstep_37 (fun H locs hX => ?_)
    refine lv_aload_n hx hb dX6_unstep_38 rfl (lv_at hl 0 rfl) ?_
    refine km_gkeys hx hb hts hin6 hown hX (hts (.fieldLink RX6 21 "OrderlatticeModel" "keys" "[[I") (tm 725 (by decide +kernel) rfl)) dX6_unstep_39 ?_
    refine lv_iload_n hx hb dX6_unstep_42 rfl (lv_at hl 1 rfl) ?_
    refine km_ak hx hb hX (by omega) dX6_unstep_43 ?_
    refine lv_aload_n hx hb dX6_unstep_44 rfl (lv_at hl 0 rfl) ?_
    refine km_gsteps hx hb hts hin6 hown hX (hts (.fieldLink RX6 29 "OrderlatticeModel" "steps" "[I") (tm 724 (by decide +kernel) rfl)) dX6_unstep_45 ?_
    refine lv_iload_n hx hb dX6_unstep_48 rfl (lv_at hl 1 rfl) ?_
    refine km_lt (v := ((M.2.1 j).2.2) - 1) hx hb hX (by omega) (by rw [mO_ord] <;> rfl) dX6_unstep_49 ?_
    refine km_lk (v := ((M.2.1 j).1) (((M.2.1 j).2.2) - 1)) hx hb hX (by omega) (by omega) (by rw [mO_ord] <;> rfl) dX6_unstep_50 ?_
    exact W.iret (v := nI (((M.2.1 j).1) (((M.2.1 j).2.2) - 1))) hx hb hr (fun t9 ht9 hW9 => ⟨⟨_, (mO (mN M (0, M.2.2.2.1, M.2.2.2.2.1, M.2.2.2.2.2)) j ((M.2.1 j).1, (M.2.1 j).2.1, ((M.2.1 j).2.2) - 1)), rfl, (Or.inl ⟨hc, rfl, rfl⟩), hX.P ht9 hW9⟩, hX.2.2.2.F ht9⟩) hX.2.2.2.2.2 dX6_unstep_51
  · skip
    have hc := k_2
    refine lv_aload_n hx hb dX6_unstep_23 rfl (lv_at hl 0 rfl) ?_
    refine km_ci (va_runV (As := []) (rest := []) ⟨hx, hb, hml, hown, hts⟩ (m_X6_no l dC dI am (mN M (0, M.2.2.2.1, M.2.2.2.2.1, M.2.2.2.2.2)) ) (cwV 0 hts gX6_unstep_X6_no rfl rfl rfl hdX6_no_0 ⟨Nat.le_of_ble_eq_true rfl, Nat.le_of_ble_eq_true rfl⟩) (hX.preObj) rfl rfl hl.1 rfl (lv_room (Nat.le_of_ble_eq_true rfl)) dX6_unstep_24 ⟨Nat.le_of_ble_eq_true rfl, Nat.le_of_ble_eq_true rfl⟩) hX (fun _ h => h) (fun r_ S_ H locs hw hX => ?_)
    obtain ⟨rfl, rfl⟩ := hw
    exact W.iret (v := (-9)) hx hb hr (fun t9 ht9 hW9 => ⟨⟨_, (mN M (0, M.2.2.2.1, M.2.2.2.2.1 + 1, M.2.2.2.2.2)), rfl, (Or.inr ⟨hc, rfl, rfl⟩), hX.P ht9 hW9⟩, hX.2.2.2.F ht9⟩) hX.2.2.2.2.2 dX6_unstep_27
set_option maxHeartbeats 4000000 in
set_option maxRecDepth 100000 in
theorem m_X6_wipe (l : Launch) (dC : Nat → ClassId) (dI : Nat → Nat → Nat) (am : Nat → Nat) (M : MS) (j : Nat) (hj : j < 4) (hI : InvM M) : Met l yX6_wipe wsX6_wipe ({ frames := 2, cells := 0, slots := 0, locals := 44 } : Room) (va_Pc [.ref (am 0), .int (nI j)] (PM dC dI am M)) (va_Qi (fun r M' => r = nI (M.2.1 j).2.2 ∧ M' = mO (thM M 0) j ((M.2.1 j).1, (M.2.1 j).2.1, 0)) (PM dC dI am) (AM am)) 0 0 (AM am) := by
  refine Met.ofW (cc := cX6_wipe) (maxL := 3) (ret := (some .int)) pl_X6 rfl ?_
  intro p e s m args below meth c s₁ B hml hv
  obtain ⟨rfl, hPX⟩ := hv
  have hx := B.exec
  have hb := B.bytes
  have hr := B.returns
  have hts := atoms_spec (ws := wsX6_wipe) B.pre
  have hown : s.vm.findClass RX6 = some m.cls := findClass_of_methodNamed B.named
  have hlocks := B.notSynchronized
  have hin6 : ∀ w ∈ u_ws RX6 TX6 10, w ∈ wsX6_wipe := tu 1331 (by decide +kernel) rfl
  have hX := WM.of hPX
  have hl := lv_entry ([.ref (am 0), .int (nI j)]) (n := 3) (Nat.le_of_ble_eq_true rfl)
  rw [lg_entry_eq]
  generalize (lg_sl ([.ref (am 0), .int (nI j)]) ++ List.replicate (3 - (lg_sl ([.ref (am 0), .int (nI j)])).length) Slot.unset).toArray = ls at hl ⊢
  have hl : lv_has ls 3 [(0, .ref (am 0)), (1, .int (nI j))] := hl
  show W p l e ({ frames := 2, cells := 0, slots := 0, locals := 44 } : Room) s m ([.ref (am 0), .int (nI j)]).toArray below meth c s.heap [] 0 0 (MQ below (va_Qi (fun r M' => r = nI (M.2.1 j).2.2 ∧ M' = mO (thM M 0) j ((M.2.1 j).1, (M.2.1 j).2.1, 0)) (PM dC dI am) (AM am)) ([.ref (am 0), .int (nI j)]).toArray s 0 0 (AM am)) (F0 m 0 ls [])
  have hn := (hI.2 j (by omega)).1
  refine lv_aload_n hx hb dX6_wipe_0 rfl (lv_at hl 0 rfl) ?_
  refine lv_iload_n hx hb dX6_wipe_1 rfl (lv_at hl 1 rfl) ?_
  refine kx_cr (v := bI false) (va_runS (As := [.int (nI j)]) (rest := [.ref (am 0)]) ⟨hx, hb, hml, hown, hts⟩ (m_X6_isNoOrder l dC dI am M (nI j)) (va_cwS 1 hts gX6_wipe_X6_isNoOrder rfl rfl rfl hdX6_isNoOrder_1.2 ⟨Nat.le_of_ble_eq_true rfl, Nat.le_of_ble_eq_true rfl⟩) hX.preS rfl rfl hl.1 rfl (lv_room (Nat.le_of_ble_eq_true rfl)) dX6_wipe_2 ⟨Nat.le_of_ble_eq_true rfl, Nat.le_of_ble_eq_true rfl⟩) (fun _ h => h.trans (isNo_ok (by omega) (by omega))) ?_
  refine lv_iconst (v := nI 1) hx hb dX6_wipe_5 (by decide) ?_
  refine km_ci (va_runV (As := [.int (bI false), .int (nI 1)]) (rest := []) ⟨hx, hb, hml, hown, hts⟩ (m_X6_start l dC dI am M false 1 (by omega)) (cwV 2 hts gX6_wipe_X6_start rfl rfl rfl hdX6_start_2 ⟨Nat.le_of_ble_eq_true rfl, Nat.le_of_ble_eq_true rfl⟩) (hX.preObj) rfl rfl hl.1 rfl (lv_room (Nat.le_of_ble_eq_true rfl)) dX6_wipe_6 ⟨Nat.le_of_ble_eq_true rfl, Nat.le_of_ble_eq_true rfl⟩) hX (fun _ h => h) (fun r_ S_ H locs hw hX => ?_)
  obtain ⟨rfl, rfl⟩ := hw
  refine kb_if_eq (tgt := 14) hx hb dX6_wipe_9 (by decide) (fun k_1 => ?_) (fun k_1 => absurd k_1 (by decide))
  refine lv_aload_n hx hb dX6_wipe_14 rfl (lv_at hl 0 rfl) ?_
  refine km_gsteps hx hb hts hin6 hown hX (hts (.fieldLink RX6 29 "OrderlatticeModel" "steps" "[I") (tm 724 (by decide +kernel) rfl)) dX6_wipe_15 ?_
  refine lv_iload_n hx hb dX6_wipe_18 rfl (lv_at hl 1 rfl) ?_
  refine km_lt (v := (M.2.1 j).2.2) hx hb hX (by omega) rfl dX6_wipe_19 ?_
  refine lv_istore_n (lv' := [(2, .int (nI ((M.2.1 j).2.2))), (0, .ref (am 0)), (1, .int (nI j))]) hx hb dX6_wipe_20 rfl hl (by decide) rfl (fun ls hl => ?_)
  refine lv_aload_n hx hb dX6_wipe_21 rfl (lv_at hl 1 rfl) ?_
  refine km_gsteps hx hb hts hin6 hown hX (hts (.fieldLink RX6 29 "OrderlatticeModel" "steps" "[I") (tm 724 (by decide +kernel) rfl)) dX6_wipe_22 ?_
  refine lv_iload_n hx hb dX6_wipe_25 rfl (lv_at hl 2 rfl) ?_
  refine lv_iconst (v := nI 0) hx hb dX6_wipe_26 (by decide) ?_
  refine km_st (M' := (mO (mN M (0, M.2.2.2.1, M.2.2.2.2.1, M.2.2.2.2.2)) j ((M.2.1 j).1, (M.2.1 j).2.1, 0))) hx hb hX  (by omega) rfl dX6_wipe_27 (fun H locs hX => ?_)
  refine lv_iload_n hx hb dX6_wipe_28 rfl (lv_at hl 0 rfl) ?_
  exact W.iret (v := nI ((M.2.1 j).2.2)) hx hb hr (fun t9 ht9 hW9 => ⟨⟨_, (mO (mN M (0, M.2.2.2.1, M.2.2.2.2.1, M.2.2.2.2.2)) j ((M.2.1 j).1, (M.2.1 j).2.1, 0)), rfl, ⟨rfl, rfl⟩, hX.P ht9 hW9⟩, hX.2.2.2.F ht9⟩) hX.2.2.2.2.2 dX6_wipe_29
set_option maxHeartbeats 4000000 in
set_option maxRecDepth 100000 in
theorem m_X6_copyOrder (l : Launch) (dC : Nat → ClassId) (dI : Nat → Nat → Nat) (am : Nat → Nat) (M : MS) (j : Nat) (j2 : Nat) (hj : j < 4) (hj2 : j2 < 4) (hI : InvM M) : Met l yX6_copyOrder wsX6_copyOrder ({ frames := 2, cells := 0, slots := 0, locals := 44 } : Room) (va_Pc [.ref (am 0), .int (nI j), .int (nI j2)] (PM dC dI am M)) (va_Qi (fun r M' => r = nI (M.2.1 j).2.2 ∧ M' = mO (thM M 0) j2 (ovl (M.2.1 j).1 (M.2.1 j2).1 (M.2.1 j).2.2, ovl (M.2.1 j).2.1 (M.2.1 j2).2.1 (M.2.1 j).2.2, (M.2.1 j).2.2)) (PM dC dI am) (AM am)) 0 0 (AM am) := by
  refine Met.ofW (cc := cX6_copyOrder) (maxL := 4) (ret := (some .int)) pl_X6 rfl ?_
  intro p e s m args below meth c s₁ B hml hv
  obtain ⟨rfl, hPX⟩ := hv
  have hx := B.exec
  have hb := B.bytes
  have hr := B.returns
  have hts := atoms_spec (ws := wsX6_copyOrder) B.pre
  have hown : s.vm.findClass RX6 = some m.cls := findClass_of_methodNamed B.named
  have hlocks := B.notSynchronized
  have hin6 : ∀ w ∈ u_ws RX6 TX6 10, w ∈ wsX6_copyOrder := tu 1331 (by decide +kernel) rfl
  have hX := WM.of hPX
  have hl := lv_entry ([.ref (am 0), .int (nI j), .int (nI j2)]) (n := 4) (Nat.le_of_ble_eq_true rfl)
  rw [lg_entry_eq]
  generalize (lg_sl ([.ref (am 0), .int (nI j), .int (nI j2)]) ++ List.replicate (4 - (lg_sl ([.ref (am 0), .int (nI j), .int (nI j2)])).length) Slot.unset).toArray = ls at hl ⊢
  have hl : lv_has ls 4 [(0, .ref (am 0)), (1, .int (nI j)), (2, .int (nI j2))] := hl
  show W p l e ({ frames := 2, cells := 0, slots := 0, locals := 44 } : Room) s m ([.ref (am 0), .int (nI j), .int (nI j2)]).toArray below meth c s.heap [] 0 0 (MQ below (va_Qi (fun r M' => r = nI (M.2.1 j).2.2 ∧ M' = mO (thM M 0) j2 (ovl (M.2.1 j).1 (M.2.1 j2).1 (M.2.1 j).2.2, ovl (M.2.1 j).2.1 (M.2.1 j2).2.1 (M.2.1 j).2.2, (M.2.1 j).2.2)) (PM dC dI am) (AM am)) ([.ref (am 0), .int (nI j), .int (nI j2)]).toArray s 0 0 (AM am)) (F0 m 0 ls [])
  have hn := (hI.2 j (by omega)).1
  refine lv_aload_n hx hb dX6_copyOrder_0 rfl (lv_at hl 0 rfl) ?_
  refine lv_iload_n hx hb dX6_copyOrder_1 rfl (lv_at hl 1 rfl) ?_
  refine kx_cr (v := bI false) (va_runS (As := [.int (nI j)]) (rest := [.ref (am 0)]) ⟨hx, hb, hml, hown, hts⟩ (m_X6_isNoOrder l dC dI am M (nI j)) (va_cwS 1 hts gX6_copyOrder_X6_isNoOrder rfl rfl rfl hdX6_isNoOrder_1.2 ⟨Nat.le_of_ble_eq_true rfl, Nat.le_of_ble_eq_true rfl⟩) hX.preS rfl rfl hl.1 rfl (lv_room (Nat.le_of_ble_eq_true rfl)) dX6_copyOrder_2 ⟨Nat.le_of_ble_eq_true rfl, Nat.le_of_ble_eq_true rfl⟩) (fun _ h => h.trans (isNo_ok (by omega) (by omega))) ?_
  refine kb_if_ne (tgt := 15) hx hb dX6_copyOrder_5 (by decide) (fun k_1 => absurd k_1 (by decide)) (fun k_1 => ?_)
  refine lv_iload_n hx hb dX6_copyOrder_8 rfl (lv_at hl 2 rfl) ?_
  refine kx_cr (v := bI false) (va_runS (As := [.int (nI j2)]) (rest := [.ref (am 0)]) ⟨hx, hb, hml, hown, hts⟩ (m_X6_isNoOrder l dC dI am M (nI j2)) (va_cwS 1 hts gX6_copyOrder_X6_isNoOrder rfl rfl rfl hdX6_isNoOrder_1.2 ⟨Nat.le_of_ble_eq_true rfl, Nat.le_of_ble_eq_true rfl⟩) hX.preS rfl rfl hl.1 rfl (lv_room (Nat.le_of_ble_eq_true rfl)) dX6_copyOrder_9 ⟨Nat.le_of_ble_eq_true rfl, Nat.le_of_ble_eq_true rfl⟩) (fun _ h => h.trans (isNo_ok (by omega) (by omega))) ?_
  refine kb_if_eq (tgt := 19) hx hb dX6_copyOrder_12 (by decide) (fun k_2 => ?_) (fun k_2 => absurd k_2 (by decide))
  refine lv_iconst (v := nI 0) hx hb dX6_copyOrder_19 (by decide) ?_
  refine lv_iconst (v := nI 1) hx hb dX6_copyOrder_20 (by decide) ?_
  refine km_ci (va_runV (As := [.int (nI 0), .int (nI 1)]) (rest := []) ⟨hx, hb, hml, hown, hts⟩ (m_X6_start l dC dI am M false 1 (by omega)) (cwV 2 hts gX6_copyOrder_X6_start rfl rfl rfl hdX6_start_2 ⟨Nat.le_of_ble_eq_true rfl, Nat.le_of_ble_eq_true rfl⟩) (hX.preObj) rfl rfl hl.1 rfl (lv_room (Nat.le_of_ble_eq_true rfl)) dX6_copyOrder_21 ⟨Nat.le_of_ble_eq_true rfl, Nat.le_of_ble_eq_true rfl⟩) hX (fun _ h => h) (fun r_ S_ H locs hw hX => ?_)
  obtain ⟨rfl, rfl⟩ := hw
  refine kb_if_eq (tgt := 29) hx hb dX6_copyOrder_24 (by decide) (fun k_3 => ?_) (fun k_3 => absurd k_3 (by decide))
  refine lv_iconst (v := nI 0) hx hb dX6_copyOrder_29 (by decide) ?_
  refine lv_istore_n (lv' := [(3, .int (nI 0)), (0, .ref (am 0)), (1, .int (nI j)), (2, .int (nI j2))]) hx hb dX6_copyOrder_30 rfl hl (by decide) rfl (fun ls hl => ?_)
  have loop31 : ∀ (fuel : Nat) (a : Nat) (ha : a ≤ (M.2.1 j).2.2) (H : Heap) (locs : List Loc), (M.2.1 j).2.2 - a < fuel → WM dC dI am (mO (mN M (0, M.2.2.2.1, M.2.2.2.2.1, M.2.2.2.2.2)) j2 (ovl (M.2.1 j).1 (M.2.1 j2).1 a, ovl (M.2.1 j).2.1 (M.2.1 j2).2.1 a, (M.2.1 j2).2.2)) [] (AM am) s H locs → ∀ ls : Array Slot, lv_has ls 4 [(0, .ref (am 0)), (1, .int (nI j)), (2, .int (nI j2)), (3, .int (nI a))] → W p l e ({ frames := 2, cells := 0, slots := 0, locals := 44 } : Room) s m ([.ref (am 0), .int (nI j), .int (nI j2)]).toArray below meth c H locs 0 0 (MQ below (va_Qi (fun r M' => r = nI (M.2.1 j).2.2 ∧ M' = mO (thM M 0) j2 (ovl (M.2.1 j).1 (M.2.1 j2).1 (M.2.1 j).2.2, ovl (M.2.1 j).2.1 (M.2.1 j2).2.1 (M.2.1 j).2.2, (M.2.1 j).2.2)) (PM dC dI am) (AM am)) ([.ref (am 0), .int (nI j), .int (nI j2)]).toArray s 0 0 (AM am)) (F0 m 31 ls []) := by
    intro fuel
    induction fuel with
    | zero => intro a ha H locs hf; exact absurd hf (Nat.not_lt_zero _)
    | succ fuel ih31 =>
      intro a ha H locs hf hX ls hl
      refine lv_iload_n hx hb dX6_copyOrder_31 rfl (lv_at hl 3 rfl) ?_
      refine lv_aload_n hx hb dX6_copyOrder_32 rfl (lv_at hl 0 rfl) ?_
      refine km_gsteps hx hb hts hin6 hown hX (hts (.fieldLink RX6 29 "OrderlatticeModel" "steps" "[I") (tm 724 (by decide +kernel) rfl)) dX6_copyOrder_33 ?_
      refine lv_iload_n hx hb dX6_copyOrder_36 rfl (lv_at hl 1 rfl) ?_
      refine km_lt (v := (M.2.1 j).2.2) hx hb hX (by omega) (copyO_size M j j2 _ _) dX6_copyOrder_37 ?_
      refine kn_icmp_ge (tgt := 79) hx hb (by omega) (by omega) dX6_copyOrder_38 (by decide) (fun k_4 => ?_) (fun k_4 => ?_)
      · skip
        refine lv_aload_n hx hb dX6_copyOrder_79 rfl (lv_at hl 0 rfl) ?_
        refine km_gsteps hx hb hts hin6 hown hX (hts (.fieldLink RX6 29 "OrderlatticeModel" "steps" "[I") (tm 724 (by decide +kernel) rfl)) dX6_copyOrder_80 ?_
        refine lv_iload_n hx hb dX6_copyOrder_83 rfl (lv_at hl 2 rfl) ?_
        refine lv_aload_n hx hb dX6_copyOrder_84 rfl (lv_at hl 0 rfl) ?_
        refine km_gsteps hx hb hts hin6 hown hX (hts (.fieldLink RX6 29 "OrderlatticeModel" "steps" "[I") (tm 724 (by decide +kernel) rfl)) dX6_copyOrder_85 ?_
        refine lv_iload_n hx hb dX6_copyOrder_88 rfl (lv_at hl 1 rfl) ?_
        refine km_lt (v := (M.2.1 j).2.2) hx hb hX (by omega) (copyO_size M j j2 _ _) dX6_copyOrder_89 ?_
        refine km_st (M' := (mO (mN M (0, M.2.2.2.1, M.2.2.2.2.1, M.2.2.2.2.2)) j2 (ovl (M.2.1 j).1 (M.2.1 j2).1 a, ovl (M.2.1 j).2.1 (M.2.1 j2).2.1 a, (M.2.1 j).2.2))) hx hb hX  (by omega) (by rw [mO_ord, mO_mO]) dX6_copyOrder_90 (fun H locs hX => ?_)
        refine lv_aload_n hx hb dX6_copyOrder_91 rfl (lv_at hl 0 rfl) ?_
        refine km_gsteps hx hb hts hin6 hown hX (hts (.fieldLink RX6 29 "OrderlatticeModel" "steps" "[I") (tm 724 (by decide +kernel) rfl)) dX6_copyOrder_92 ?_
        refine lv_iload_n hx hb dX6_copyOrder_95 rfl (lv_at hl 2 rfl) ?_
        refine km_lt (v := (M.2.1 j).2.2) hx hb hX (by omega) (by rw [mO_ord] <;> rfl) dX6_copyOrder_96 ?_
        exact W.iret (v := nI ((M.2.1 j).2.2)) hx hb hr (fun t9 ht9 hW9 => ⟨⟨_, (mO (mN M (0, M.2.2.2.1, M.2.2.2.2.1, M.2.2.2.2.2)) j2 (ovl (M.2.1 j).1 (M.2.1 j2).1 a, ovl (M.2.1 j).2.1 (M.2.1 j2).2.1 a, (M.2.1 j).2.2)), rfl, ⟨rfl, by rw [show a = (M.2.1 j).2.2 by omega]⟩, hX.P ht9 hW9⟩, hX.2.2.2.F ht9⟩) hX.2.2.2.2.2 dX6_copyOrder_97
      · skip
        refine lv_aload_n hx hb dX6_copyOrder_41 rfl (lv_at hl 0 rfl) ?_
        refine km_gkeys hx hb hts hin6 hown hX (hts (.fieldLink RX6 21 "OrderlatticeModel" "keys" "[[I") (tm 725 (by decide +kernel) rfl)) dX6_copyOrder_42 ?_
        refine lv_iload_n hx hb dX6_copyOrder_45 rfl (lv_at hl 2 rfl) ?_
        refine km_ak hx hb hX (by omega) dX6_copyOrder_46 ?_
        refine lv_iload_n hx hb dX6_copyOrder_47 rfl (lv_at hl 3 rfl) ?_
        refine lv_aload_n hx hb dX6_copyOrder_48 rfl (lv_at hl 0 rfl) ?_
        refine km_gkeys hx hb hts hin6 hown hX (hts (.fieldLink RX6 21 "OrderlatticeModel" "keys" "[[I") (tm 725 (by decide +kernel) rfl)) dX6_copyOrder_49 ?_
        refine lv_iload_n hx hb dX6_copyOrder_52 rfl (lv_at hl 1 rfl) ?_
        refine km_ak hx hb hX (by omega) dX6_copyOrder_53 ?_
        refine lv_iload_n hx hb dX6_copyOrder_54 rfl (lv_at hl 3 rfl) ?_
        refine km_lk (v := (M.2.1 j).1 a) hx hb hX (by omega) (by omega) (copyO_k M j j2 a _ _) dX6_copyOrder_55 ?_
        refine km_sk (M' := (mO (mN M (0, M.2.2.2.1, M.2.2.2.2.1, M.2.2.2.2.2)) j2 (va_up (ovl (M.2.1 j).1 (M.2.1 j2).1 a) a ((M.2.1 j).1 a), ovl (M.2.1 j).2.1 (M.2.1 j2).2.1 a, (M.2.1 j2).2.2))) hx hb hX (by omega) (by omega) (by rw [mO_ord, mO_mO]) dX6_copyOrder_56 (fun H locs hX => ?_)
        refine lv_aload_n hx hb dX6_copyOrder_57 rfl (lv_at hl 0 rfl) ?_
        refine km_gdowns hx hb hts hin6 hown hX (hts (.fieldLink RX6 26 "OrderlatticeModel" "downs" "[[Z") (tm 726 (by decide +kernel) rfl)) dX6_copyOrder_58 ?_
        refine lv_iload_n hx hb dX6_copyOrder_61 rfl (lv_at hl 2 rfl) ?_
        refine km_ad hx hb hX (by omega) dX6_copyOrder_62 ?_
        refine lv_iload_n hx hb dX6_copyOrder_63 rfl (lv_at hl 3 rfl) ?_
        refine lv_aload_n hx hb dX6_copyOrder_64 rfl (lv_at hl 0 rfl) ?_
        refine km_gdowns hx hb hts hin6 hown hX (hts (.fieldLink RX6 26 "OrderlatticeModel" "downs" "[[Z") (tm 726 (by decide +kernel) rfl)) dX6_copyOrder_65 ?_
        refine lv_iload_n hx hb dX6_copyOrder_68 rfl (lv_at hl 1 rfl) ?_
        refine km_ad hx hb hX (by omega) dX6_copyOrder_69 ?_
        refine lv_iload_n hx hb dX6_copyOrder_70 rfl (lv_at hl 3 rfl) ?_
        refine km_ld (z := (M.2.1 j).2.1 a) hx hb hX (by omega) (by omega) (copyO_d M j j2 a _ _) dX6_copyOrder_71 ?_
        refine km_sd (M' := (mO (mN M (0, M.2.2.2.1, M.2.2.2.2.1, M.2.2.2.2.2)) j2 (va_up (ovl (M.2.1 j).1 (M.2.1 j2).1 a) a ((M.2.1 j).1 a), va_up (ovl (M.2.1 j).2.1 (M.2.1 j2).2.1 a) a ((M.2.1 j).2.1 a), (M.2.1 j2).2.2))) hx hb hX (by omega) (by omega) (by rw [mO_ord, mO_mO]) dX6_copyOrder_72 (fun H locs hX => ?_)
        refine lv_iinc (v := nI (a + 1)) (lv' := [(3, .int (nI (a + 1))), (0, .ref (am 0)), (1, .int (nI j)), (2, .int (nI j2))]) hx hb dX6_copyOrder_73 hl (k := 3) rfl (nI_1 a) (by decide) rfl (fun ls hl => ?_)
        refine lv_goto (tgt := 31) hx hb dX6_copyOrder_76 (by decide) ?_
        exact ih31  (a + 1) (by omega) _ _ (by omega) (WM.eqS (by rw [ovl_up, ovl_up]) hX) _ (lv_sub hl [1, 2, 3, 0] rfl)
  exact loop31 ((M.2.1 j).2.2 + 1) 0 (by omega) _ _ (by omega) (WM.eqS (by rw [ovl_0, ovl_0]; exact (mO_self _ j2).symm) hX) _ (lv_sub hl [1, 2, 3, 0] rfl)
set_option maxHeartbeats 4000000 in
set_option maxRecDepth 100000 in
theorem m_X6_turn (l : Launch) (dC : Nat → ClassId) (dI : Nat → Nat → Nat) (am : Nat → Nat) (M : MS) (j : Nat) (hj : j < 4) (hI : InvM M) : Met l yX6_turn wsX6_turn ({ frames := 2, cells := 0, slots := 0, locals := 44 } : Room) (va_Pc [.ref (am 0), .int (nI j)] (PM dC dI am M)) (va_Qi (fun r M' => r = nI (cntB (fun k => !(M.2.1 j).2.1 k) (M.2.1 j).2.2) ∧ M' = mO (thM M 0) j ((M.2.1 j).1, ovl (fun k => !(M.2.1 j).2.1 k) (M.2.1 j).2.1 ((M.2.1 j).2.2), (M.2.1 j).2.2)) (PM dC dI am) (AM am)) 0 0 (AM am) := by
  refine Met.ofW (cc := cX6_turn) (maxL := 4) (ret := (some .int)) pl_X6 rfl ?_
  intro p e s m args below meth c s₁ B hml hv
  obtain ⟨rfl, hPX⟩ := hv
  have hx := B.exec
  have hb := B.bytes
  have hr := B.returns
  have hts := atoms_spec (ws := wsX6_turn) B.pre
  have hown : s.vm.findClass RX6 = some m.cls := findClass_of_methodNamed B.named
  have hlocks := B.notSynchronized
  have hin6 : ∀ w ∈ u_ws RX6 TX6 10, w ∈ wsX6_turn := tu 1331 (by decide +kernel) rfl
  have hX := WM.of hPX
  have hl := lv_entry ([.ref (am 0), .int (nI j)]) (n := 4) (Nat.le_of_ble_eq_true rfl)
  rw [lg_entry_eq]
  generalize (lg_sl ([.ref (am 0), .int (nI j)]) ++ List.replicate (4 - (lg_sl ([.ref (am 0), .int (nI j)])).length) Slot.unset).toArray = ls at hl ⊢
  have hl : lv_has ls 4 [(0, .ref (am 0)), (1, .int (nI j))] := hl
  show W p l e ({ frames := 2, cells := 0, slots := 0, locals := 44 } : Room) s m ([.ref (am 0), .int (nI j)]).toArray below meth c s.heap [] 0 0 (MQ below (va_Qi (fun r M' => r = nI (cntB (fun k => !(M.2.1 j).2.1 k) (M.2.1 j).2.2) ∧ M' = mO (thM M 0) j ((M.2.1 j).1, ovl (fun k => !(M.2.1 j).2.1 k) (M.2.1 j).2.1 ((M.2.1 j).2.2), (M.2.1 j).2.2)) (PM dC dI am) (AM am)) ([.ref (am 0), .int (nI j)]).toArray s 0 0 (AM am)) (F0 m 0 ls [])
  have hn := (hI.2 j (by omega)).1
  refine lv_aload_n hx hb dX6_turn_0 rfl (lv_at hl 0 rfl) ?_
  refine lv_iload_n hx hb dX6_turn_1 rfl (lv_at hl 1 rfl) ?_
  refine kx_cr (v := bI false) (va_runS (As := [.int (nI j)]) (rest := [.ref (am 0)]) ⟨hx, hb, hml, hown, hts⟩ (m_X6_isNoOrder l dC dI am M (nI j)) (va_cwS 1 hts gX6_turn_X6_isNoOrder rfl rfl rfl hdX6_isNoOrder_1.2 ⟨Nat.le_of_ble_eq_true rfl, Nat.le_of_ble_eq_true rfl⟩) hX.preS rfl rfl hl.1 rfl (lv_room (Nat.le_of_ble_eq_true rfl)) dX6_turn_2 ⟨Nat.le_of_ble_eq_true rfl, Nat.le_of_ble_eq_true rfl⟩) (fun _ h => h.trans (isNo_ok (by omega) (by omega))) ?_
  refine lv_iconst (v := nI 1) hx hb dX6_turn_5 (by decide) ?_
  refine km_ci (va_runV (As := [.int (bI false), .int (nI 1)]) (rest := []) ⟨hx, hb, hml, hown, hts⟩ (m_X6_start l dC dI am M false 1 (by omega)) (cwV 2 hts gX6_turn_X6_start rfl rfl rfl hdX6_start_2 ⟨Nat.le_of_ble_eq_true rfl, Nat.le_of_ble_eq_true rfl⟩) (hX.preObj) rfl rfl hl.1 rfl (lv_room (Nat.le_of_ble_eq_true rfl)) dX6_turn_6 ⟨Nat.le_of_ble_eq_true rfl, Nat.le_of_ble_eq_true rfl⟩) hX (fun _ h => h) (fun r_ S_ H locs hw hX => ?_)
  obtain ⟨rfl, rfl⟩ := hw
  refine kb_if_eq (tgt := 14) hx hb dX6_turn_9 (by decide) (fun k_1 => ?_) (fun k_1 => absurd k_1 (by decide))
  refine lv_iconst (v := nI 0) hx hb dX6_turn_14 (by decide) ?_
  refine lv_istore_n (lv' := [(2, .int (nI 0)), (0, .ref (am 0)), (1, .int (nI j))]) hx hb dX6_turn_15 rfl hl (by decide) rfl (fun ls hl => ?_)
  refine lv_iconst (v := nI 0) hx hb dX6_turn_16 (by decide) ?_
  refine lv_istore_n (lv' := [(3, .int (nI 0)), (2, .int (nI 0)), (0, .ref (am 0)), (1, .int (nI j))]) hx hb dX6_turn_17 rfl hl (by decide) rfl (fun ls hl => ?_)
  have loop18 : ∀ (fuel : Nat) (q a : Nat) (ha : a ≤ (M.2.1 j).2.2) (hq : q = cntB (fun k => !(M.2.1 j).2.1 k) a) (H : Heap) (locs : List Loc), (M.2.1 j).2.2 - a < fuel → WM dC dI am (mO (mN M (0, M.2.2.2.1, M.2.2.2.2.1, M.2.2.2.2.2)) j ((M.2.1 j).1, ovl (fun k => !(M.2.1 j).2.1 k) (M.2.1 j).2.1 a, (M.2.1 j).2.2)) [] (AM am) s H locs → ∀ ls : Array Slot, lv_has ls 4 [(0, .ref (am 0)), (1, .int (nI j)), (2, .int (nI q)), (3, .int (nI a))] → W p l e ({ frames := 2, cells := 0, slots := 0, locals := 44 } : Room) s m ([.ref (am 0), .int (nI j)]).toArray below meth c H locs 0 0 (MQ below (va_Qi (fun r M' => r = nI (cntB (fun k => !(M.2.1 j).2.1 k) (M.2.1 j).2.2) ∧ M' = mO (thM M 0) j ((M.2.1 j).1, ovl (fun k => !(M.2.1 j).2.1 k) (M.2.1 j).2.1 ((M.2.1 j).2.2), (M.2.1 j).2.2)) (PM dC dI am) (AM am)) ([.ref (am 0), .int (nI j)]).toArray s 0 0 (AM am)) (F0 m 18 ls []) := by
    intro fuel
    induction fuel with
    | zero => intro q a ha hq H locs hf; exact absurd hf (Nat.not_lt_zero _)
    | succ fuel ih18 =>
      intro q a ha hq H locs hf hX ls hl
      refine lv_iload_n hx hb dX6_turn_18 rfl (lv_at hl 3 rfl) ?_
      refine lv_aload_n hx hb dX6_turn_19 rfl (lv_at hl 0 rfl) ?_
      refine km_gsteps hx hb hts hin6 hown hX (hts (.fieldLink RX6 29 "OrderlatticeModel" "steps" "[I") (tm 724 (by decide +kernel) rfl)) dX6_turn_20 ?_
      refine lv_iload_n hx hb dX6_turn_23 rfl (lv_at hl 1 rfl) ?_
      refine km_lt (v := (M.2.1 j).2.2) hx hb hX (by omega) (by rw [mO_ord] <;> rfl) dX6_turn_24 ?_
      refine kn_icmp_ge (tgt := 77) hx hb (by omega) (by omega) dX6_turn_25 (by decide) (fun k_2 => ?_) (fun k_2 => ?_)
      · skip
        refine lv_iload_n hx hb dX6_turn_77 rfl (lv_at hl 2 rfl) ?_
        exact W.iret (v := nI q) hx hb hr (fun t9 ht9 hW9 => ⟨⟨_, (mO (mN M (0, M.2.2.2.1, M.2.2.2.2.1, M.2.2.2.2.2)) j ((M.2.1 j).1, ovl (fun k => !(M.2.1 j).2.1 k) (M.2.1 j).2.1 a, (M.2.1 j).2.2)), rfl, ⟨by rw [hq, show a = (M.2.1 j).2.2 by omega], by rw [show a = (M.2.1 j).2.2 by omega]⟩, hX.P ht9 hW9⟩, hX.2.2.2.F ht9⟩) hX.2.2.2.2.2 dX6_turn_78
      · skip
        refine lv_aload_n hx hb dX6_turn_28 rfl (lv_at hl 0 rfl) ?_
        refine km_gdowns hx hb hts hin6 hown hX (hts (.fieldLink RX6 26 "OrderlatticeModel" "downs" "[[Z") (tm 726 (by decide +kernel) rfl)) dX6_turn_29 ?_
        refine lv_iload_n hx hb dX6_turn_32 rfl (lv_at hl 1 rfl) ?_
        refine km_ad hx hb hX (by omega) dX6_turn_33 ?_
        refine lv_iload_n hx hb dX6_turn_34 rfl (lv_at hl 3 rfl) ?_
        refine lv_aload_n hx hb dX6_turn_35 rfl (lv_at hl 0 rfl) ?_
        refine km_gdowns hx hb hts hin6 hown hX (hts (.fieldLink RX6 26 "OrderlatticeModel" "downs" "[[Z") (tm 726 (by decide +kernel) rfl)) dX6_turn_36 ?_
        refine lv_iload_n hx hb dX6_turn_39 rfl (lv_at hl 1 rfl) ?_
        refine km_ad hx hb hX (by omega) dX6_turn_40 ?_
        refine lv_iload_n hx hb dX6_turn_41 rfl (lv_at hl 3 rfl) ?_
        refine km_ld (z := (M.2.1 j).2.1 a) hx hb hX (by omega) (by omega) (by rw [mO_ord]; exact ovl_out (f := (fun k => !(M.2.1 j).2.1 k)) (g := (M.2.1 j).2.1) (Nat.le_refl a)) dX6_turn_42 ?_
        refine kb_if_ne (tgt := 50) hx hb dX6_turn_43 (by decide) (fun k_3 => ?_) (fun k_3 => ?_)
        · skip
          have hc := k_3
          refine lv_iconst (v := bI false) hx hb dX6_turn_50 (by decide) ?_
          refine km_sd (M' := (mO (mN M (0, M.2.2.2.1, M.2.2.2.2.1, M.2.2.2.2.2)) j ((M.2.1 j).1, va_up (ovl (fun k => !(M.2.1 j).2.1 k) (M.2.1 j).2.1 a) a false, (M.2.1 j).2.2))) hx hb hX (by omega) (by omega) (by rw [mO_ord, mO_mO]) dX6_turn_51 (fun H locs hX => ?_)
          have hcn9 := cntB_le (fun k => !(M.2.1 j).2.1 k) a
          refine lv_iload_n hx hb dX6_turn_52 rfl (lv_at hl 2 rfl) ?_
          refine lv_aload_n hx hb dX6_turn_53 rfl (lv_at hl 0 rfl) ?_
          refine km_gdowns hx hb hts hin6 hown hX (hts (.fieldLink RX6 26 "OrderlatticeModel" "downs" "[[Z") (tm 726 (by decide +kernel) rfl)) dX6_turn_54 ?_
          refine lv_iload_n hx hb dX6_turn_57 rfl (lv_at hl 1 rfl) ?_
          refine km_ad hx hb hX (by omega) dX6_turn_58 ?_
          refine lv_iload_n hx hb dX6_turn_59 rfl (lv_at hl 3 rfl) ?_
          refine km_ld (z := false) hx hb hX (by omega) (by omega) (by rw [mO_ord]; exact va_up_self _ _ _) dX6_turn_60 ?_
          refine kb_if_eq (tgt := 68) hx hb dX6_turn_61 (by decide) (fun k_4 => ?_) (fun k_4 => absurd k_4 (by decide))
          refine lv_iconst (v := nI 0) hx hb dX6_turn_68 (by decide) ?_
          refine kn_iadd hx hb dX6_turn_69 ?_
          refine lv_istore_n (lv' := [(2, .int (nI (q + 0))), (0, .ref (am 0)), (1, .int (nI j)), (3, .int (nI a))]) hx hb dX6_turn_70 rfl hl (by decide) rfl (fun ls hl => ?_)
          refine lv_iinc (v := nI (a + 1)) (lv' := [(3, .int (nI (a + 1))), (2, .int (nI (q + 0))), (0, .ref (am 0)), (1, .int (nI j))]) hx hb dX6_turn_71 hl (k := 3) rfl (nI_1 a) (by decide) rfl (fun ls hl => ?_)
          refine lv_goto (tgt := 18) hx hb dX6_turn_74 (by decide) ?_
          exact ih18  (q + 0) (a + 1) (by omega) (by rw [cntB_f (by rw [hc]; rfl), hq]; rfl) _ _ (by omega) (WM.eqS (by rw [turn_f hc]) hX) _ (lv_sub hl [2, 3, 1, 0] rfl)
        · skip
          have hc := k_3
          refine lv_iconst (v := bI true) hx hb dX6_turn_46 (by decide) ?_
          refine lv_goto (tgt := 51) hx hb dX6_turn_47 (by decide) ?_
          refine km_sd (M' := (mO (mN M (0, M.2.2.2.1, M.2.2.2.2.1, M.2.2.2.2.2)) j ((M.2.1 j).1, va_up (ovl (fun k => !(M.2.1 j).2.1 k) (M.2.1 j).2.1 a) a true, (M.2.1 j).2.2))) hx hb hX (by omega) (by omega) (by rw [mO_ord, mO_mO]) dX6_turn_51 (fun H locs hX => ?_)
          have hcn9 := cntB_le (fun k => !(M.2.1 j).2.1 k) a
          refine lv_iload_n hx hb dX6_turn_52 rfl (lv_at hl 2 rfl) ?_
          refine lv_aload_n hx hb dX6_turn_53 rfl (lv_at hl 0 rfl) ?_
          refine km_gdowns hx hb hts hin6 hown hX (hts (.fieldLink RX6 26 "OrderlatticeModel" "downs" "[[Z") (tm 726 (by decide +kernel) rfl)) dX6_turn_54 ?_
          refine lv_iload_n hx hb dX6_turn_57 rfl (lv_at hl 1 rfl) ?_
          refine km_ad hx hb hX (by omega) dX6_turn_58 ?_
          refine lv_iload_n hx hb dX6_turn_59 rfl (lv_at hl 3 rfl) ?_
          refine km_ld (z := true) hx hb hX (by omega) (by omega) (by rw [mO_ord]; exact va_up_self _ _ _) dX6_turn_60 ?_
          refine kb_if_eq (tgt := 68) hx hb dX6_turn_61 (by decide) (fun k_5 => absurd k_5 (by decide)) (fun k_5 => ?_)
          refine lv_iconst (v := nI 1) hx hb dX6_turn_64 (by decide) ?_
          refine lv_goto (tgt := 69) hx hb dX6_turn_65 (by decide) ?_
          refine kn_iadd hx hb dX6_turn_69 ?_
          refine lv_istore_n (lv' := [(2, .int (nI (q + 1))), (0, .ref (am 0)), (1, .int (nI j)), (3, .int (nI a))]) hx hb dX6_turn_70 rfl hl (by decide) rfl (fun ls hl => ?_)
          refine lv_iinc (v := nI (a + 1)) (lv' := [(3, .int (nI (a + 1))), (2, .int (nI (q + 1))), (0, .ref (am 0)), (1, .int (nI j))]) hx hb dX6_turn_71 hl (k := 3) rfl (nI_1 a) (by decide) rfl (fun ls hl => ?_)
          refine lv_goto (tgt := 18) hx hb dX6_turn_74 (by decide) ?_
          exact ih18  (q + 1) (a + 1) (by omega) (by rw [cntB_t (by rw [hc]; rfl), hq]) _ _ (by omega) (WM.eqS (by rw [turn_t hc]) hX) _ (lv_sub hl [2, 3, 1, 0] rfl)
  exact loop18 ((M.2.1 j).2.2 + 1) 0 0 (by omega) rfl _ _ (by omega) (WM.eqS (by rw [ovl_0]; exact (mO_self _ j).symm) hX) _ (lv_sub hl [2, 3, 1, 0] rfl)
set_option maxHeartbeats 4000000 in
set_option maxRecDepth 100000 in
theorem m_X6_product (l : Launch) (dC : Nat → ClassId) (dI : Nat → Nat → Nat) (am : Nat → Nat) (M : MS) (j : Nat) (j2 : Nat) (j3 : Nat) (hj : j < 4) (hj2 : j2 < 4) (hj3 : j3 < 4) (hI : InvM M) : Met l yX6_product wsX6_product ({ frames := 4, cells := 2, slots := 10, locals := 93 } : Room) (va_Pc [.ref (am 0), .int (nI j), .int (nI j2), .int (nI j3)] (PM dC dI am M)) (va_Qi (fun r M' => ((M.2.1 j).2.2 + (M.2.1 j2).2.2 ≤ 5 ∧ r = nI (classC (cM M' j3)) ∧ M' = mO (thM M 0) j3 (ovl (prK (M.2.1 j).1 (M.2.1 j2).1 (M.2.1 j).2.2) (M.2.1 j3).1 ((M.2.1 j).2.2 + (M.2.1 j2).2.2), ovl (prK (M.2.1 j).2.1 (M.2.1 j2).2.1 (M.2.1 j).2.2) (M.2.1 j3).2.1 ((M.2.1 j).2.2 + (M.2.1 j2).2.2), ((M.2.1 j).2.2 + (M.2.1 j2).2.2))) ∨ (5 < (M.2.1 j).2.2 + (M.2.1 j2).2.2 ∧ r = -9 ∧ M' = refM M)) (PM dC dI am) (AM am)) 2 10 (AM am) := by
  refine Met.ofW (cc := cX6_product) (maxL := 9) (ret := (some .int)) pl_X6 rfl ?_
  intro p e s m args below meth c s₁ B hml hv
  obtain ⟨rfl, hPX⟩ := hv
  have hx := B.exec
  have hb := B.bytes
  have hr := B.returns
  have hts := atoms_spec (ws := wsX6_product) B.pre
  have hown : s.vm.findClass RX6 = some m.cls := findClass_of_methodNamed B.named
  have hlocks := B.notSynchronized
  have hin6 : ∀ w ∈ u_ws RX6 TX6 10, w ∈ wsX6_product := tu 1331 (by decide +kernel) rfl
  have hX := WM.ofY hPX
  have hl := lv_entry ([.ref (am 0), .int (nI j), .int (nI j2), .int (nI j3)]) (n := 9) (Nat.le_of_ble_eq_true rfl)
  rw [lg_entry_eq]
  generalize (lg_sl ([.ref (am 0), .int (nI j), .int (nI j2), .int (nI j3)]) ++ List.replicate (9 - (lg_sl ([.ref (am 0), .int (nI j), .int (nI j2), .int (nI j3)])).length) Slot.unset).toArray = ls at hl ⊢
  have hl : lv_has ls 9 [(0, .ref (am 0)), (1, .int (nI j)), (2, .int (nI j2)), (3, .int (nI j3))] := hl
  show W p l e ({ frames := 4, cells := 2, slots := 10, locals := 93 } : Room) s m ([.ref (am 0), .int (nI j), .int (nI j2), .int (nI j3)]).toArray below meth c s.heap [] 0 0 (MQ below (va_Qi (fun r M' => ((M.2.1 j).2.2 + (M.2.1 j2).2.2 ≤ 5 ∧ r = nI (classC (cM M' j3)) ∧ M' = mO (thM M 0) j3 (ovl (prK (M.2.1 j).1 (M.2.1 j2).1 (M.2.1 j).2.2) (M.2.1 j3).1 ((M.2.1 j).2.2 + (M.2.1 j2).2.2), ovl (prK (M.2.1 j).2.1 (M.2.1 j2).2.1 (M.2.1 j).2.2) (M.2.1 j3).2.1 ((M.2.1 j).2.2 + (M.2.1 j2).2.2), ((M.2.1 j).2.2 + (M.2.1 j2).2.2))) ∨ (5 < (M.2.1 j).2.2 + (M.2.1 j2).2.2 ∧ r = -9 ∧ M' = refM M)) (PM dC dI am) (AM am)) ([.ref (am 0), .int (nI j), .int (nI j2), .int (nI j3)]).toArray s 2 10 (AM am)) (F0 m 0 ls [])
  have hn := (hI.2 j (by omega)).1
  have hn2 := (hI.2 j2 (by omega)).1
  refine lv_aload_n hx hb dX6_product_0 rfl (lv_at hl 0 rfl) ?_
  refine lv_iload_n hx hb dX6_product_1 rfl (lv_at hl 1 rfl) ?_
  refine kx_cr (v := bI false) (va_runS (As := [.int (nI j)]) (rest := [.ref (am 0)]) ⟨hx, hb, hml, hown, hts⟩ (m_X6_isNoOrder l dC dI am M (nI j)) (va_cwS 1 hts gX6_product_X6_isNoOrder rfl rfl rfl hdX6_isNoOrder_1.2 ⟨Nat.le_of_ble_eq_true rfl, Nat.le_of_ble_eq_true rfl⟩) hX.preS rfl rfl hl.1 rfl (lv_room (Nat.le_of_ble_eq_true rfl)) dX6_product_2 ⟨by show _ ≤ 2; omega, by show _ ≤ 10; omega⟩) (fun _ h => h.trans (isNo_ok (by omega) (by omega))) ?_
  refine kb_if_ne (tgt := 22) hx hb dX6_product_5 (by decide) (fun k_1 => absurd k_1 (by decide)) (fun k_1 => ?_)
  refine lv_iload_n hx hb dX6_product_8 rfl (lv_at hl 2 rfl) ?_
  refine kx_cr (v := bI false) (va_runS (As := [.int (nI j2)]) (rest := [.ref (am 0)]) ⟨hx, hb, hml, hown, hts⟩ (m_X6_isNoOrder l dC dI am M (nI j2)) (va_cwS 1 hts gX6_product_X6_isNoOrder rfl rfl rfl hdX6_isNoOrder_1.2 ⟨Nat.le_of_ble_eq_true rfl, Nat.le_of_ble_eq_true rfl⟩) hX.preS rfl rfl hl.1 rfl (lv_room (Nat.le_of_ble_eq_true rfl)) dX6_product_9 ⟨by show _ ≤ 2; omega, by show _ ≤ 10; omega⟩) (fun _ h => h.trans (isNo_ok (by omega) (by omega))) ?_
  refine kb_if_ne (tgt := 22) hx hb dX6_product_12 (by decide) (fun k_2 => absurd k_2 (by decide)) (fun k_2 => ?_)
  refine lv_iload_n hx hb dX6_product_15 rfl (lv_at hl 3 rfl) ?_
  refine kx_cr (v := bI false) (va_runS (As := [.int (nI j3)]) (rest := [.ref (am 0)]) ⟨hx, hb, hml, hown, hts⟩ (m_X6_isNoOrder l dC dI am M (nI j3)) (va_cwS 1 hts gX6_product_X6_isNoOrder rfl rfl rfl hdX6_isNoOrder_1.2 ⟨Nat.le_of_ble_eq_true rfl, Nat.le_of_ble_eq_true rfl⟩) hX.preS rfl rfl hl.1 rfl (lv_room (Nat.le_of_ble_eq_true rfl)) dX6_product_16 ⟨by show _ ≤ 2; omega, by show _ ≤ 10; omega⟩) (fun _ h => h.trans (isNo_ok (by omega) (by omega))) ?_
  refine kb_if_eq (tgt := 26) hx hb dX6_product_19 (by decide) (fun k_3 => ?_) (fun k_3 => absurd k_3 (by decide))
  refine lv_iconst (v := nI 0) hx hb dX6_product_26 (by decide) ?_
  refine lv_iconst (v := nI 1) hx hb dX6_product_27 (by decide) ?_
  refine km_ci (va_runV (As := [.int (nI 0), .int (nI 1)]) (rest := []) ⟨hx, hb, hml, hown, hts⟩ (m_X6_start l dC dI am M false 1 (by omega)) (cwV 2 hts gX6_product_X6_start rfl rfl rfl hdX6_start_2 ⟨Nat.le_of_ble_eq_true rfl, Nat.le_of_ble_eq_true rfl⟩) (hX.preObj) rfl rfl hl.1 rfl (lv_room (Nat.le_of_ble_eq_true rfl)) dX6_product_28 ⟨by show _ ≤ 2; omega, by show _ ≤ 10; omega⟩) hX (fun _ h => Or.inl h) (fun r_ S_ H locs hw hX => ?_)
  obtain ⟨rfl, rfl⟩ := hw
  refine kb_if_eq (tgt := 36) hx hb dX6_product_31 (by decide) (fun k_4 => ?_) (fun k_4 => absurd k_4 (by decide))
  refine lv_aload_n hx hb dX6_product_36 rfl (lv_at hl 0 rfl) ?_
  refine km_gsteps hx hb hts hin6 hown hX (hts (.fieldLink RX6 29 "OrderlatticeModel" "steps" "[I") (tm 724 (by decide +kernel) rfl)) dX6_product_37 ?_
  refine lv_iload_n hx hb dX6_product_40 rfl (lv_at hl 1 rfl) ?_
  refine km_lt (v := (M.2.1 j).2.2) hx hb hX (by omega) rfl dX6_product_41 ?_
  refine lv_aload_n hx hb dX6_product_42 rfl (lv_at hl 0 rfl) ?_
  refine km_gsteps hx hb hts hin6 hown hX (hts (.fieldLink RX6 29 "OrderlatticeModel" "steps" "[I") (tm 724 (by decide +kernel) rfl)) dX6_product_43 ?_
  refine lv_iload_n hx hb dX6_product_46 rfl (lv_at hl 2 rfl) ?_
  refine km_lt (v := (M.2.1 j2).2.2) hx hb hX (by omega) rfl dX6_product_47 ?_
  refine kn_iadd hx hb dX6_product_48 ?_
  refine lv_istore (lv' := [(4, .int (nI ((M.2.1 j).2.2 + ((M.2.1 j2).2.2)))), (0, .ref (am 0)), (1, .int (nI j)), (2, .int (nI j2)), (3, .int (nI j3))]) hx hb dX6_product_49 hl (by decide) rfl (fun ls hl => ?_)
  refine lv_iload hx hb dX6_product_51 (lv_at hl 0 rfl) ?_
  refine lv_iconst (v := nI 5) hx hb dX6_product_53 (by decide) ?_
  refine kn_icmp_le (tgt := 62) hx hb (by omega) (by omega) dX6_product_54 (by decide) (fun k_5 => ?_) (fun k_5 => ?_)
  · skip
    have hc := k_5
    refine lv_iload hx hb dX6_product_62 (lv_at hl 0 rfl) ?_
    refine km_newI hx hb (hts (.arrayClass .int) (tm 24 (by decide +kernel) rfl)) hX (fun q hq => Or.inr hq) (by omega) (by show _ ≤ 2; omega) (by show _ ≤ 10; omega) dX6_product_64 (fun q_1 H hX => ?_)
    replace hX : WM dC dI am (mN M (0, M.2.2.2.1, M.2.2.2.2.1, M.2.2.2.2.2)) [(q_1, .inl (dC 20, (M.2.1 j).2.2 + ((M.2.1 j2).2.2), .inl (fun k => nI ((fun _ => 0) k))))] (AY am s.heap.size) s H _ := hX
    refine lv_astore (lv' := [(5, .ref q_1), (4, .int (nI ((M.2.1 j).2.2 + ((M.2.1 j2).2.2)))), (0, .ref (am 0)), (1, .int (nI j)), (2, .int (nI j2)), (3, .int (nI j3))]) hx hb dX6_product_66 hl (by decide) rfl (fun ls hl => ?_)
    refine lv_iload hx hb dX6_product_68 (lv_at hl 1 rfl) ?_
    refine km_newZ hx hb (hts (.arrayClass .boolean) (tm 32 (by decide +kernel) rfl)) hX (fun q hq => Or.inr hq) (by omega) (by show _ ≤ 2; omega) (by show _ ≤ 10; omega) dX6_product_70 (fun q_2 H hX => ?_)
    replace hX : WM dC dI am (mN M (0, M.2.2.2.1, M.2.2.2.2.1, M.2.2.2.2.2)) [(q_1, .inl (dC 20, (M.2.1 j).2.2 + ((M.2.1 j2).2.2), .inl (fun k => nI ((fun _ => 0) k)))), (q_2, .inl (dC 21, (M.2.1 j).2.2 + ((M.2.1 j2).2.2), .inl (fun k => bI ((fun _ => false) k))))] (AY am s.heap.size) s H _ := hX
    refine lv_astore (lv' := [(6, .ref q_2), (5, .ref q_1), (4, .int (nI ((M.2.1 j).2.2 + ((M.2.1 j2).2.2)))), (0, .ref (am 0)), (1, .int (nI j)), (2, .int (nI j2)), (3, .int (nI j3))]) hx hb dX6_product_72 hl (by decide) rfl (fun ls hl => ?_)
    refine lv_iconst (v := nI 0) hx hb dX6_product_74 (by decide) ?_
    refine lv_istore (lv' := [(7, .int (nI 0)), (6, .ref q_2), (5, .ref q_1), (4, .int (nI ((M.2.1 j).2.2 + ((M.2.1 j2).2.2)))), (0, .ref (am 0)), (1, .int (nI j)), (2, .int (nI j2)), (3, .int (nI j3))]) hx hb dX6_product_75 hl (by decide) rfl (fun ls hl => ?_)
    have loop77 : ∀ (fuel : Nat) (f1 : Nat → Nat) (g1 : Nat → Bool) (a : Nat) (ha : a ≤ (M.2.1 j).2.2 + (M.2.1 j2).2.2) (hF1 : ∀ x, x < a → f1 x = (prK (M.2.1 j).1 (M.2.1 j2).1 (M.2.1 j).2.2) x) (hg : ∀ x, x < a → g1 x = (prK (M.2.1 j).2.1 (M.2.1 j2).2.1 (M.2.1 j).2.2) x) (H : Heap) (locs : List Loc), (M.2.1 j).2.2 + (M.2.1 j2).2.2 - a < fuel → WM dC dI am (mN M (0, M.2.2.2.1, M.2.2.2.2.1, M.2.2.2.2.2)) [(q_1, .inl (dC 20, (M.2.1 j).2.2 + (M.2.1 j2).2.2, .inl (fun k => nI (f1 k)))), (q_2, .inl (dC 21, (M.2.1 j).2.2 + (M.2.1 j2).2.2, .inl (fun k => bI (g1 k))))] (AY am s.heap.size) s H locs → ∀ ls : Array Slot, lv_has ls 9 [(0, .ref (am 0)), (1, .int (nI j)), (2, .int (nI j2)), (3, .int (nI j3)), (4, .int (nI ((M.2.1 j).2.2 + (M.2.1 j2).2.2))), (5, .ref q_1), (6, .ref q_2), (7, .int (nI a))] → W p l e ({ frames := 4, cells := 2, slots := 10, locals := 93 } : Room) s m ([.ref (am 0), .int (nI j), .int (nI j2), .int (nI j3)]).toArray below meth c H locs (0 + 1 + 1) (0 + ((M.2.1 j).2.2 + (M.2.1 j2).2.2) + ((M.2.1 j).2.2 + (M.2.1 j2).2.2)) (MQ below (va_Qi (fun r M' => ((M.2.1 j).2.2 + (M.2.1 j2).2.2 ≤ 5 ∧ r = nI (classC (cM M' j3)) ∧ M' = mO (thM M 0) j3 (ovl (prK (M.2.1 j).1 (M.2.1 j2).1 (M.2.1 j).2.2) (M.2.1 j3).1 ((M.2.1 j).2.2 + (M.2.1 j2).2.2), ovl (prK (M.2.1 j).2.1 (M.2.1 j2).2.1 (M.2.1 j).2.2) (M.2.1 j3).2.1 ((M.2.1 j).2.2 + (M.2.1 j2).2.2), ((M.2.1 j).2.2 + (M.2.1 j2).2.2))) ∨ (5 < (M.2.1 j).2.2 + (M.2.1 j2).2.2 ∧ r = -9 ∧ M' = refM M)) (PM dC dI am) (AM am)) ([.ref (am 0), .int (nI j), .int (nI j2), .int (nI j3)]).toArray s 2 10 (AM am)) (F0 m 77 ls []) := by
      intro fuel
      induction fuel with
      | zero => intro f1 g1 a ha hF1 hg H locs hf; exact absurd hf (Nat.not_lt_zero _)
      | succ fuel ih77 =>
        intro f1 g1 a ha hF1 hg H locs hf hX ls hl
        refine lv_iload hx hb dX6_product_77 (lv_at hl 7 rfl) ?_
        refine lv_iload hx hb dX6_product_79 (lv_at hl 4 rfl) ?_
        refine kn_icmp_ge (tgt := 184) hx hb (by omega) (by omega) dX6_product_81 (by decide) (fun k_6 => ?_) (fun k_6 => ?_)
        · skip
          refine lv_aload_n hx hb dX6_product_184 rfl (lv_at hl 0 rfl) ?_
          refine km_gsteps hx hb hts hin6 hown hX (hts (.fieldLink RX6 29 "OrderlatticeModel" "steps" "[I") (tm 724 (by decide +kernel) rfl)) dX6_product_185 ?_
          refine lv_iload_n hx hb dX6_product_188 rfl (lv_at hl 3 rfl) ?_
          refine lv_iconst (v := nI 0) hx hb dX6_product_189 (by decide) ?_
          refine km_st (M' := (mO (mN M (0, M.2.2.2.1, M.2.2.2.2.1, M.2.2.2.2.2)) j3 ((M.2.1 j3).1, (M.2.1 j3).2.1, 0))) hx hb hX  (by omega) rfl dX6_product_190 (fun H locs hX => ?_)
          refine lv_iconst (v := nI 0) hx hb dX6_product_191 (by decide) ?_
          refine lv_istore (lv' := [(7, .int (nI 0)), (0, .ref (am 0)), (1, .int (nI j)), (2, .int (nI j2)), (3, .int (nI j3)), (4, .int (nI ((M.2.1 j).2.2 + (M.2.1 j2).2.2))), (5, .ref q_1), (6, .ref q_2)]) hx hb dX6_product_192 hl (by decide) rfl (fun ls hl => ?_)
          have loop194 : ∀ (fuel : Nat) (a : Nat) (ha9 : a ≤ (M.2.1 j).2.2 + (M.2.1 j2).2.2) (hF1 : ∀ x, x < (M.2.1 j).2.2 + (M.2.1 j2).2.2 → f1 x = (prK (M.2.1 j).1 (M.2.1 j2).1 (M.2.1 j).2.2) x) (hg : ∀ x, x < (M.2.1 j).2.2 + (M.2.1 j2).2.2 → g1 x = (prK (M.2.1 j).2.1 (M.2.1 j2).2.1 (M.2.1 j).2.2) x) (H : Heap) (locs : List Loc), (M.2.1 j).2.2 + (M.2.1 j2).2.2 - a < fuel → WM dC dI am (mO (mN M (0, M.2.2.2.1, M.2.2.2.2.1, M.2.2.2.2.2)) j3 (ovl (prK (M.2.1 j).1 (M.2.1 j2).1 (M.2.1 j).2.2) (M.2.1 j3).1 a, ovl (prK (M.2.1 j).2.1 (M.2.1 j2).2.1 (M.2.1 j).2.2) (M.2.1 j3).2.1 a, a)) [(q_1, .inl (dC 20, (M.2.1 j).2.2 + (M.2.1 j2).2.2, .inl (fun k => nI (f1 k)))), (q_2, .inl (dC 21, (M.2.1 j).2.2 + (M.2.1 j2).2.2, .inl (fun k => bI (g1 k))))] (AY am s.heap.size) s H locs → ∀ ls : Array Slot, lv_has ls 9 [(0, .ref (am 0)), (1, .int (nI j)), (2, .int (nI j2)), (3, .int (nI j3)), (4, .int (nI ((M.2.1 j).2.2 + (M.2.1 j2).2.2))), (5, .ref q_1), (6, .ref q_2), (7, .int (nI a))] → W p l e ({ frames := 4, cells := 2, slots := 10, locals := 93 } : Room) s m ([.ref (am 0), .int (nI j), .int (nI j2), .int (nI j3)]).toArray below meth c H locs (0 + 1 + 1) (0 + ((M.2.1 j).2.2 + (M.2.1 j2).2.2) + ((M.2.1 j).2.2 + (M.2.1 j2).2.2)) (MQ below (va_Qi (fun r M' => ((M.2.1 j).2.2 + (M.2.1 j2).2.2 ≤ 5 ∧ r = nI (classC (cM M' j3)) ∧ M' = mO (thM M 0) j3 (ovl (prK (M.2.1 j).1 (M.2.1 j2).1 (M.2.1 j).2.2) (M.2.1 j3).1 ((M.2.1 j).2.2 + (M.2.1 j2).2.2), ovl (prK (M.2.1 j).2.1 (M.2.1 j2).2.1 (M.2.1 j).2.2) (M.2.1 j3).2.1 ((M.2.1 j).2.2 + (M.2.1 j2).2.2), ((M.2.1 j).2.2 + (M.2.1 j2).2.2))) ∨ (5 < (M.2.1 j).2.2 + (M.2.1 j2).2.2 ∧ r = -9 ∧ M' = refM M)) (PM dC dI am) (AM am)) ([.ref (am 0), .int (nI j), .int (nI j2), .int (nI j3)]).toArray s 2 10 (AM am)) (F0 m 194 ls []) := by
            intro fuel
            induction fuel with
            | zero => intro a ha9 hF1 hg H locs hf; exact absurd hf (Nat.not_lt_zero _)
            | succ fuel ih194 =>
              intro a ha9 hF1 hg H locs hf hX ls hl
              refine lv_iload hx hb dX6_product_194 (lv_at hl 7 rfl) ?_
              refine lv_iload hx hb dX6_product_196 (lv_at hl 4 rfl) ?_
              refine kn_icmp_ge (tgt := 222) hx hb (by omega) (by omega) dX6_product_198 (by decide) (fun k_7 => ?_) (fun k_7 => ?_)
              · skip
                refine lv_aload_n hx hb dX6_product_222 rfl (lv_at hl 0 rfl) ?_
                refine lv_iload_n hx hb dX6_product_223 rfl (lv_at hl 3 rfl) ?_
                refine kx_cr (v := nI (classC (cM (mO (mN M (0, M.2.2.2.1, M.2.2.2.2.1, M.2.2.2.2.2)) j3 (ovl (prK (M.2.1 j).1 (M.2.1 j2).1 (M.2.1 j).2.2) (M.2.1 j3).1 a, ovl (prK (M.2.1 j).2.1 (M.2.1 j2).2.1 (M.2.1 j).2.2) (M.2.1 j3).2.1 a, a)) j3))) (va_runV (As := [.int (nI j3)]) (rest := []) ⟨hx, hb, hml, hown, hts⟩ (m_X6_classesNow l dC dI am (mO (mN M (0, M.2.2.2.1, M.2.2.2.2.1, M.2.2.2.2.2)) j3 (ovl (prK (M.2.1 j).1 (M.2.1 j2).1 (M.2.1 j).2.2) (M.2.1 j3).1 a, ovl (prK (M.2.1 j).2.1 (M.2.1 j2).2.1 (M.2.1 j).2.2) (M.2.1 j3).2.1 a, a)) j3 (by omega) (by rw [mO_ord, show a = (M.2.1 j).2.2 + (M.2.1 j2).2.2 by omega]; exact ordM_prod (hI.2 j (by omega)) (hI.2 j2 (by omega)) (hI.2 j3 (by omega)) hc)) (cwV 1 hts gX6_product_X6_classesNow rfl rfl rfl hdX6_classesNow_1 ⟨Nat.le_of_ble_eq_true rfl, Nat.le_of_ble_eq_true rfl⟩) (hX.preObj) rfl rfl hl.1 rfl (lv_room (Nat.le_of_ble_eq_true rfl)) dX6_product_224 ⟨by show _ ≤ 2; omega, by show _ ≤ 10; omega⟩) (fun _ h => h) ?_
                exact W.widen (k := 2) (n := 10) (by omega) (by omega) (W.filt (fun locs1 hl1 => W.iret (v := nI (classC (cM (mO (mN M (0, M.2.2.2.1, M.2.2.2.2.1, M.2.2.2.2.2)) j3 (ovl (prK (M.2.1 j).1 (M.2.1 j2).1 (M.2.1 j).2.2) (M.2.1 j3).1 a, ovl (prK (M.2.1 j).2.1 (M.2.1 j2).2.1 (M.2.1 j).2.2) (M.2.1 j3).2.1 a, a)) j3))) hx hb hr (fun t9 ht9 hW9 => ⟨⟨_, (mO (mN M (0, M.2.2.2.1, M.2.2.2.2.1, M.2.2.2.2.2)) j3 (ovl (prK (M.2.1 j).1 (M.2.1 j2).1 (M.2.1 j).2.2) (M.2.1 j3).1 a, ovl (prK (M.2.1 j).2.1 (M.2.1 j2).2.1 (M.2.1 j).2.2) (M.2.1 j3).2.1 a, a)), rfl, (Or.inl ⟨hc, rfl, by rw [show a = (M.2.1 j).2.2 + (M.2.1 j2).2.2 by omega]⟩), hX.P ht9 hW9⟩, (hX.2.2.2.F ht9).Y⟩) (free_Y hX.2.2.2 hl1) dX6_product_227))
              · skip
                refine lv_aload_n hx hb dX6_product_201 rfl (lv_at hl 0 rfl) ?_
                refine lv_iload_n hx hb dX6_product_202 rfl (lv_at hl 3 rfl) ?_
                refine lv_aload hx hb dX6_product_203 (lv_at hl 5 rfl) ?_
                refine lv_iload hx hb dX6_product_205 (lv_at hl 7 rfl) ?_
                refine kl_li (j := 0) (f := f1) hx hb hX rfl (by omega) (by omega) dX6_product_207 ?_
                rw [show f1 a = (prK (M.2.1 j).1 (M.2.1 j2).1 (M.2.1 j).2.2) a from hF1 a (by omega)]
                refine lv_aload hx hb dX6_product_208 (lv_at hl 6 rfl) ?_
                refine lv_iload hx hb dX6_product_210 (lv_at hl 7 rfl) ?_
                refine kl_lz (j := 1) (f := g1) hx hb hX rfl (by omega) (by omega) dX6_product_212 ?_
                rw [show g1 a = (prK (M.2.1 j).2.1 (M.2.1 j2).2.1 (M.2.1 j).2.2) a from hg a (by omega)]
                refine km_cv (va_runV (As := [.int (nI j3), .int (nI ((prK (M.2.1 j).1 (M.2.1 j2).1 (M.2.1 j).2.2) a)), .int (bI ((prK (M.2.1 j).2.1 (M.2.1 j2).2.1 (M.2.1 j).2.2) a))]) (rest := []) ⟨hx, hb, hml, hown, hts⟩ (m_X6_add l dC dI am (mO (mN M (0, M.2.2.2.1, M.2.2.2.2.1, M.2.2.2.2.2)) j3 (ovl (prK (M.2.1 j).1 (M.2.1 j2).1 (M.2.1 j).2.2) (M.2.1 j3).1 a, ovl (prK (M.2.1 j).2.1 (M.2.1 j2).2.1 (M.2.1 j).2.2) (M.2.1 j3).2.1 a, a)) j3 ((prK (M.2.1 j).1 (M.2.1 j2).1 (M.2.1 j).2.2) a) ((prK (M.2.1 j).2.1 (M.2.1 j2).2.1 (M.2.1 j).2.2) a) (by omega) (by rw [mO_ord]; show a < 5; omega)) (cwV 3 hts gX6_product_X6_add rfl rfl rfl hdX6_add_3 ⟨Nat.le_of_ble_eq_true rfl, Nat.le_of_ble_eq_true rfl⟩) (hX.preObj) rfl rfl hl.1 rfl (lv_room (Nat.le_of_ble_eq_true rfl)) dX6_product_213 ⟨by show _ ≤ 2; omega, by show _ ≤ 10; omega⟩) hX (fun _ h => Or.inl h) (fun S_ H locs hw hX => ?_)
                rw [mO_ord, mO_mO] at hw
                subst hw
                refine lv_iinc (v := nI (a + 1)) (lv' := [(7, .int (nI (a + 1))), (0, .ref (am 0)), (1, .int (nI j)), (2, .int (nI j2)), (3, .int (nI j3)), (4, .int (nI ((M.2.1 j).2.2 + (M.2.1 j2).2.2))), (5, .ref q_1), (6, .ref q_2)]) hx hb dX6_product_216 hl (k := 7) rfl (nI_1 a) (by decide) rfl (fun ls hl => ?_)
                refine lv_goto (tgt := 194) hx hb dX6_product_219 (by decide) ?_
                exact ih194  (a + 1) (by omega) (fun x h => hF1 x (by omega)) (fun x h => hg x (by omega)) _ _ (by omega) (WM.eqS (by rw [ovl_up, ovl_up]) hX) _ (lv_sub hl [1, 2, 3, 4, 5, 6, 7, 0] rfl)
          exact loop194 ((M.2.1 j).2.2 + (M.2.1 j2).2.2 + 1) 0 (by omega) (fun x h => hF1 x (by omega)) (fun x h => hg x (by omega)) _ _ (by omega) (WM.eqS (by rw [ovl_0, ovl_0]) hX) _ (lv_sub hl [1, 2, 3, 4, 5, 6, 7, 0] rfl)
        · skip
          refine lv_iload hx hb dX6_product_84 (lv_at hl 7 rfl) ?_
          refine lv_aload_n hx hb dX6_product_86 rfl (lv_at hl 0 rfl) ?_
          refine km_gsteps hx hb hts hin6 hown hX (hts (.fieldLink RX6 29 "OrderlatticeModel" "steps" "[I") (tm 724 (by decide +kernel) rfl)) dX6_product_87 ?_
          refine lv_iload_n hx hb dX6_product_90 rfl (lv_at hl 1 rfl) ?_
          refine km_lt (v := (M.2.1 j).2.2) hx hb hX (by omega) rfl dX6_product_91 ?_
          refine kn_icmp_ge (tgt := 99) hx hb (by omega) (by omega) dX6_product_92 (by decide) (fun k_8 => ?_) (fun k_8 => ?_)
          · skip
            have hk1 := k_8
            refine lv_iconst (v := nI 0) hx hb dX6_product_99 (by decide) ?_
            refine lv_istore (lv' := [(8, .int (nI 0)), (0, .ref (am 0)), (1, .int (nI j)), (2, .int (nI j2)), (3, .int (nI j3)), (4, .int (nI ((M.2.1 j).2.2 + (M.2.1 j2).2.2))), (5, .ref q_1), (6, .ref q_2), (7, .int (nI a))]) hx hb dX6_product_100 hl (by decide) rfl (fun ls hl => ?_)
            refine lv_aload hx hb dX6_product_102 (lv_at hl 6 rfl) ?_
            refine lv_iload hx hb dX6_product_104 (lv_at hl 8 rfl) ?_
            refine lv_iload hx hb dX6_product_106 (lv_at hl 0 rfl) ?_
            refine kn_if_eq (tgt := 123) hx hb (by omega) dX6_product_108 (by decide) (fun k_9 => ?_) (fun k_9 => absurd k_9 (by omega))
            refine lv_aload_n hx hb dX6_product_123 rfl (lv_at hl 1 rfl) ?_
            refine km_gkeys hx hb hts hin6 hown hX (hts (.fieldLink RX6 21 "OrderlatticeModel" "keys" "[[I") (tm 725 (by decide +kernel) rfl)) dX6_product_124 ?_
            refine lv_iload_n hx hb dX6_product_127 rfl (lv_at hl 3 rfl) ?_
            refine km_ak hx hb hX (by omega) dX6_product_128 ?_
            refine lv_iload hx hb dX6_product_129 (lv_at hl 8 rfl) ?_
            refine lv_aload_n hx hb dX6_product_131 rfl (lv_at hl 1 rfl) ?_
            refine km_gsteps hx hb hts hin6 hown hX (hts (.fieldLink RX6 29 "OrderlatticeModel" "steps" "[I") (tm 724 (by decide +kernel) rfl)) dX6_product_132 ?_
            refine lv_iload_n hx hb dX6_product_135 rfl (lv_at hl 2 rfl) ?_
            refine km_lt (v := (M.2.1 j).2.2) hx hb hX (by omega) rfl dX6_product_136 ?_
            refine kn_isub hx hb (by omega) dX6_product_137 ?_
            refine km_lk (v := ((M.2.1 j2).1) (a - ((M.2.1 j).2.2))) hx hb hX (by omega) (by omega) rfl dX6_product_138 ?_
            refine kl_si (j := 0) (f := f1) hx hb hX rfl (by omega) (by omega) dX6_product_139 (fun H locs hX => ?_)
            replace hX : WM dC dI am (mN M (0, M.2.2.2.1, M.2.2.2.2.1, M.2.2.2.2.2)) [(q_1, .inl (dC 20, (M.2.1 j).2.2 + (M.2.1 j2).2.2, .inl (fun k => nI ((va_up f1 a (((M.2.1 j2).1) (a - ((M.2.1 j).2.2)))) k)))), (q_2, .inl (dC 21, (M.2.1 j).2.2 + (M.2.1 j2).2.2, .inl (fun k => bI (g1 k))))] (AY am s.heap.size) s H locs := hX
            refine lv_aload hx hb dX6_product_140 (lv_at hl 7 rfl) ?_
            refine lv_iload hx hb dX6_product_142 (lv_at hl 8 rfl) ?_
            refine lv_iload hx hb dX6_product_144 (lv_at hl 0 rfl) ?_
            refine kn_if_eq (tgt := 161) hx hb (by omega) dX6_product_146 (by decide) (fun k_10 => ?_) (fun k_10 => absurd k_10 (by omega))
            refine lv_aload_n hx hb dX6_product_161 rfl (lv_at hl 1 rfl) ?_
            refine km_gdowns hx hb hts hin6 hown hX (hts (.fieldLink RX6 26 "OrderlatticeModel" "downs" "[[Z") (tm 726 (by decide +kernel) rfl)) dX6_product_162 ?_
            refine lv_iload_n hx hb dX6_product_165 rfl (lv_at hl 3 rfl) ?_
            refine km_ad hx hb hX (by omega) dX6_product_166 ?_
            refine lv_iload hx hb dX6_product_167 (lv_at hl 8 rfl) ?_
            refine lv_aload_n hx hb dX6_product_169 rfl (lv_at hl 1 rfl) ?_
            refine km_gsteps hx hb hts hin6 hown hX (hts (.fieldLink RX6 29 "OrderlatticeModel" "steps" "[I") (tm 724 (by decide +kernel) rfl)) dX6_product_170 ?_
            refine lv_iload_n hx hb dX6_product_173 rfl (lv_at hl 2 rfl) ?_
            refine km_lt (v := (M.2.1 j).2.2) hx hb hX (by omega) rfl dX6_product_174 ?_
            refine kn_isub hx hb (by omega) dX6_product_175 ?_
            refine km_ld (z := ((M.2.1 j2).2.1) (a - ((M.2.1 j).2.2))) hx hb hX (by omega) (by omega) rfl dX6_product_176 ?_
            refine kl_sz (j := 1) (f := g1) hx hb hX rfl (by omega) (by omega) dX6_product_177 (fun H locs hX => ?_)
            replace hX : WM dC dI am (mN M (0, M.2.2.2.1, M.2.2.2.2.1, M.2.2.2.2.2)) [(q_1, .inl (dC 20, (M.2.1 j).2.2 + (M.2.1 j2).2.2, .inl (fun k => nI ((va_up f1 a (((M.2.1 j2).1) (a - ((M.2.1 j).2.2)))) k)))), (q_2, .inl (dC 21, (M.2.1 j).2.2 + (M.2.1 j2).2.2, .inl (fun k => bI ((va_up g1 a (((M.2.1 j2).2.1) (a - ((M.2.1 j).2.2)))) k))))] (AY am s.heap.size) s H locs := hX
            refine lv_iinc (v := nI (a + 1)) (lv' := [(7, .int (nI (a + 1))), (8, .int (nI 0)), (0, .ref (am 0)), (1, .int (nI j)), (2, .int (nI j2)), (3, .int (nI j3)), (4, .int (nI ((M.2.1 j).2.2 + (M.2.1 j2).2.2))), (5, .ref q_1), (6, .ref q_2)]) hx hb dX6_product_178 hl (k := 8) rfl (nI_1 a) (by decide) rfl (fun ls hl => ?_)
            refine lv_goto (tgt := 77) hx hb dX6_product_181 (by decide) ?_
            exact ih77  (va_up f1 a (((M.2.1 j2).1) (a - ((M.2.1 j).2.2)))) (va_up g1 a (((M.2.1 j2).2.1) (a - ((M.2.1 j).2.2)))) (a + 1) (by omega) (upd_p hF1 (prK_hi (by omega)).symm) (upd_p hg (prK_hi (by omega)).symm) _ _ (by omega) hX _ (lv_sub hl [2, 3, 4, 5, 6, 7, 8, 0] rfl)
          · skip
            have hk1 := k_8
            refine lv_iconst (v := nI 1) hx hb dX6_product_95 (by decide) ?_
            refine lv_goto (tgt := 100) hx hb dX6_product_96 (by decide) ?_
            refine lv_istore (lv' := [(8, .int (nI 1)), (0, .ref (am 0)), (1, .int (nI j)), (2, .int (nI j2)), (3, .int (nI j3)), (4, .int (nI ((M.2.1 j).2.2 + (M.2.1 j2).2.2))), (5, .ref q_1), (6, .ref q_2), (7, .int (nI a))]) hx hb dX6_product_100 hl (by decide) rfl (fun ls hl => ?_)
            refine lv_aload hx hb dX6_product_102 (lv_at hl 6 rfl) ?_
            refine lv_iload hx hb dX6_product_104 (lv_at hl 8 rfl) ?_
            refine lv_iload hx hb dX6_product_106 (lv_at hl 0 rfl) ?_
            refine kn_if_eq (tgt := 123) hx hb (by omega) dX6_product_108 (by decide) (fun k_11 => absurd k_11 (by omega)) (fun k_11 => ?_)
            refine lv_aload_n hx hb dX6_product_111 rfl (lv_at hl 1 rfl) ?_
            refine km_gkeys hx hb hts hin6 hown hX (hts (.fieldLink RX6 21 "OrderlatticeModel" "keys" "[[I") (tm 725 (by decide +kernel) rfl)) dX6_product_112 ?_
            refine lv_iload_n hx hb dX6_product_115 rfl (lv_at hl 2 rfl) ?_
            refine km_ak hx hb hX (by omega) dX6_product_116 ?_
            refine lv_iload hx hb dX6_product_117 (lv_at hl 8 rfl) ?_
            refine km_lk (v := ((M.2.1 j).1) a) hx hb hX (by omega) (by omega) rfl dX6_product_119 ?_
            refine lv_goto (tgt := 139) hx hb dX6_product_120 (by decide) ?_
            refine kl_si (j := 0) (f := f1) hx hb hX rfl (by omega) (by omega) dX6_product_139 (fun H locs hX => ?_)
            replace hX : WM dC dI am (mN M (0, M.2.2.2.1, M.2.2.2.2.1, M.2.2.2.2.2)) [(q_1, .inl (dC 20, (M.2.1 j).2.2 + (M.2.1 j2).2.2, .inl (fun k => nI ((va_up f1 a (((M.2.1 j).1) a)) k)))), (q_2, .inl (dC 21, (M.2.1 j).2.2 + (M.2.1 j2).2.2, .inl (fun k => bI (g1 k))))] (AY am s.heap.size) s H locs := hX
            refine lv_aload hx hb dX6_product_140 (lv_at hl 7 rfl) ?_
            refine lv_iload hx hb dX6_product_142 (lv_at hl 8 rfl) ?_
            refine lv_iload hx hb dX6_product_144 (lv_at hl 0 rfl) ?_
            refine kn_if_eq (tgt := 161) hx hb (by omega) dX6_product_146 (by decide) (fun k_12 => absurd k_12 (by omega)) (fun k_12 => ?_)
            refine lv_aload_n hx hb dX6_product_149 rfl (lv_at hl 1 rfl) ?_
            refine km_gdowns hx hb hts hin6 hown hX (hts (.fieldLink RX6 26 "OrderlatticeModel" "downs" "[[Z") (tm 726 (by decide +kernel) rfl)) dX6_product_150 ?_
            refine lv_iload_n hx hb dX6_product_153 rfl (lv_at hl 2 rfl) ?_
            refine km_ad hx hb hX (by omega) dX6_product_154 ?_
            refine lv_iload hx hb dX6_product_155 (lv_at hl 8 rfl) ?_
            refine km_ld (z := ((M.2.1 j).2.1) a) hx hb hX (by omega) (by omega) rfl dX6_product_157 ?_
            refine lv_goto (tgt := 177) hx hb dX6_product_158 (by decide) ?_
            refine kl_sz (j := 1) (f := g1) hx hb hX rfl (by omega) (by omega) dX6_product_177 (fun H locs hX => ?_)
            replace hX : WM dC dI am (mN M (0, M.2.2.2.1, M.2.2.2.2.1, M.2.2.2.2.2)) [(q_1, .inl (dC 20, (M.2.1 j).2.2 + (M.2.1 j2).2.2, .inl (fun k => nI ((va_up f1 a (((M.2.1 j).1) a)) k)))), (q_2, .inl (dC 21, (M.2.1 j).2.2 + (M.2.1 j2).2.2, .inl (fun k => bI ((va_up g1 a (((M.2.1 j).2.1) a)) k))))] (AY am s.heap.size) s H locs := hX
            refine lv_iinc (v := nI (a + 1)) (lv' := [(7, .int (nI (a + 1))), (8, .int (nI 1)), (0, .ref (am 0)), (1, .int (nI j)), (2, .int (nI j2)), (3, .int (nI j3)), (4, .int (nI ((M.2.1 j).2.2 + (M.2.1 j2).2.2))), (5, .ref q_1), (6, .ref q_2)]) hx hb dX6_product_178 hl (k := 8) rfl (nI_1 a) (by decide) rfl (fun ls hl => ?_)
            refine lv_goto (tgt := 77) hx hb dX6_product_181 (by decide) ?_
            exact ih77  (va_up f1 a (((M.2.1 j).1) a)) (va_up g1 a (((M.2.1 j).2.1) a)) (a + 1) (by omega) (upd_p hF1 (prK_lo (by omega)).symm) (upd_p hg (prK_lo (by omega)).symm) _ _ (by omega) hX _ (lv_sub hl [2, 3, 4, 5, 6, 7, 8, 0] rfl)
    exact loop77 ((M.2.1 j).2.2 + (M.2.1 j2).2.2 + 1) (fun _ => 0) (fun _ => false) 0 (by omega) (fun x h => absurd h (Nat.not_lt_zero x)) (fun x h => absurd h (Nat.not_lt_zero x)) _ _ (by omega) (WM.eqS rfl hX) _ (lv_sub hl [4, 5, 6, 7, 3, 2, 1, 0] rfl)
  · skip
    have hc := k_5
    refine lv_aload_n hx hb dX6_product_57 rfl (lv_at hl 1 rfl) ?_
    refine km_ci (va_runV (As := []) (rest := []) ⟨hx, hb, hml, hown, hts⟩ (m_X6_no l dC dI am (mN M (0, M.2.2.2.1, M.2.2.2.2.1, M.2.2.2.2.2)) ) (cwV 0 hts gX6_product_X6_no rfl rfl rfl hdX6_no_0 ⟨Nat.le_of_ble_eq_true rfl, Nat.le_of_ble_eq_true rfl⟩) (hX.preObj) rfl rfl hl.1 rfl (lv_room (Nat.le_of_ble_eq_true rfl)) dX6_product_58 ⟨by show _ ≤ 2; omega, by show _ ≤ 10; omega⟩) hX (fun _ h => Or.inl h) (fun r_ S_ H locs hw hX => ?_)
    obtain ⟨rfl, rfl⟩ := hw
    exact W.widen (k := 2) (n := 10) (by omega) (by omega) (W.filt (fun locs1 hl1 => W.iret (v := (-9)) hx hb hr (fun t9 ht9 hW9 => ⟨⟨_, (mN M (0, M.2.2.2.1, M.2.2.2.2.1 + 1, M.2.2.2.2.2)), rfl, (Or.inr ⟨by omega, rfl, rfl⟩), hX.P ht9 hW9⟩, (hX.2.2.2.F ht9).Y⟩) (free_Y hX.2.2.2 hl1) dX6_product_61))
set_option maxHeartbeats 4000000 in
set_option maxRecDepth 100000 in
theorem o_X6_step_1 (l : Launch) (dC : Nat → ClassId) (dI : Nat → Nat → Nat) (am : Nat → Nat) (M : MS) (x9 : Int32) (y1 : Int32) (z : Bool) (hb9 : x9 < 0 ∨ nI 4 ≤ x9) (hI : InvM M) : Met l yX6_step wsX6_step ({ frames := 4, cells := 0, slots := 0, locals := 93 } : Room) (va_Pc [.ref (am 0), .int x9, .int y1, .int (bI z)] (PM dC dI am M)) (va_Qi (fun r M' => M' = thM M 1) (PM dC dI am) (AM am)) 0 0 (AM am) := by
  refine Met.ofW (cc := cX6_step) (maxL := 4) (ret := (some .int)) pl_X6 rfl ?_
  intro p e s m args below meth c s₁ B hml hv
  obtain ⟨rfl, hPX⟩ := hv
  have hx := B.exec
  have hb := B.bytes
  have hr := B.returns
  have hts := atoms_spec (ws := wsX6_step) B.pre
  have hown : s.vm.findClass RX6 = some m.cls := findClass_of_methodNamed B.named
  have hlocks := B.notSynchronized
  have hin6 : ∀ w ∈ u_ws RX6 TX6 10, w ∈ wsX6_step := tu 1331 (by decide +kernel) rfl
  have hX := WM.of hPX
  have hl := lv_entry ([.ref (am 0), .int x9, .int y1, .int (bI z)]) (n := 4) (Nat.le_of_ble_eq_true rfl)
  rw [lg_entry_eq]
  generalize (lg_sl ([.ref (am 0), .int x9, .int y1, .int (bI z)]) ++ List.replicate (4 - (lg_sl ([.ref (am 0), .int x9, .int y1, .int (bI z)])).length) Slot.unset).toArray = ls at hl ⊢
  have hl : lv_has ls 4 [(0, .ref (am 0)), (1, .int x9), (2, .int y1), (3, .int (bI z))] := hl
  show W p l e ({ frames := 4, cells := 0, slots := 0, locals := 93 } : Room) s m ([.ref (am 0), .int x9, .int y1, .int (bI z)]).toArray below meth c s.heap [] 0 0 (MQ below (va_Qi (fun r M' => M' = thM M 1) (PM dC dI am) (AM am)) ([.ref (am 0), .int x9, .int y1, .int (bI z)]).toArray s 0 0 (AM am)) (F0 m 0 ls [])
  refine lv_aload_n hx hb dX6_step_0 rfl (lv_at hl 0 rfl) ?_
  refine lv_iload_n hx hb dX6_step_1 rfl (lv_at hl 1 rfl) ?_
  refine kx_cr (v := bI true) (va_runS (As := [.int x9]) (rest := [.ref (am 0)]) ⟨hx, hb, hml, hown, hts⟩ (m_X6_isNoOrder l dC dI am M x9) (va_cwS 1 hts gX6_step_X6_isNoOrder rfl rfl rfl hdX6_isNoOrder_1.2 ⟨Nat.le_of_ble_eq_true rfl, Nat.le_of_ble_eq_true rfl⟩) hX.preS rfl rfl hl.1 rfl (lv_room (Nat.le_of_ble_eq_true rfl)) dX6_step_2 ⟨Nat.le_of_ble_eq_true rfl, Nat.le_of_ble_eq_true rfl⟩) (fun _ h => h.trans (isNo_bad (isNo_o hb9))) ?_
  refine lv_iconst (v := nI 1) hx hb dX6_step_5 (by decide) ?_
  refine km_ci (va_runV (As := [.int (bI true), .int (nI 1)]) (rest := []) ⟨hx, hb, hml, hown, hts⟩ (m_X6_start l dC dI am M true 1 (by omega)) (cwV 2 hts gX6_step_X6_start rfl rfl rfl hdX6_start_2 ⟨Nat.le_of_ble_eq_true rfl, Nat.le_of_ble_eq_true rfl⟩) (hX.preObj) rfl rfl hl.1 rfl (lv_room (Nat.le_of_ble_eq_true rfl)) dX6_step_6 ⟨Nat.le_of_ble_eq_true rfl, Nat.le_of_ble_eq_true rfl⟩) hX (fun _ h => h) (fun r_ S_ H locs hw hX => ?_)
  obtain ⟨rfl, rfl⟩ := hw
  refine kb_if_ne (tgt := 26) hx hb dX6_step_9 (by decide) (fun k_1 => ?_) (fun k_1 => absurd k_1 (by decide))
  refine lv_iconst (v := nI 0) hx hb dX6_step_26 (by decide) ?_
  exact W.iret (v := nI 0) hx hb hr (fun t9 ht9 hW9 => ⟨⟨_, (mN M (1, M.2.2.2.1, M.2.2.2.2.1, M.2.2.2.2.2)), rfl, rfl, hX.P ht9 hW9⟩, hX.2.2.2.F ht9⟩) hX.2.2.2.2.2 dX6_step_27
set_option maxHeartbeats 4000000 in
set_option maxRecDepth 100000 in
theorem o_X6_step_2 (l : Launch) (dC : Nat → ClassId) (dI : Nat → Nat → Nat) (am : Nat → Nat) (M : MS) (j : Nat) (x9 : Int32) (z : Bool) (hj : j < 4) (hb9 : x9 < 0 ∨ nI 7 < x9) (hI : InvM M) : Met l yX6_step wsX6_step ({ frames := 4, cells := 0, slots := 0, locals := 93 } : Room) (va_Pc [.ref (am 0), .int (nI j), .int x9, .int (bI z)] (PM dC dI am M)) (va_Qi (fun r M' => M' = thM M 2) (PM dC dI am) (AM am)) 0 0 (AM am) := by
  refine Met.ofW (cc := cX6_step) (maxL := 4) (ret := (some .int)) pl_X6 rfl ?_
  intro p e s m args below meth c s₁ B hml hv
  obtain ⟨rfl, hPX⟩ := hv
  have hx := B.exec
  have hb := B.bytes
  have hr := B.returns
  have hts := atoms_spec (ws := wsX6_step) B.pre
  have hown : s.vm.findClass RX6 = some m.cls := findClass_of_methodNamed B.named
  have hlocks := B.notSynchronized
  have hin6 : ∀ w ∈ u_ws RX6 TX6 10, w ∈ wsX6_step := tu 1331 (by decide +kernel) rfl
  have hX := WM.of hPX
  have hl := lv_entry ([.ref (am 0), .int (nI j), .int x9, .int (bI z)]) (n := 4) (Nat.le_of_ble_eq_true rfl)
  rw [lg_entry_eq]
  generalize (lg_sl ([.ref (am 0), .int (nI j), .int x9, .int (bI z)]) ++ List.replicate (4 - (lg_sl ([.ref (am 0), .int (nI j), .int x9, .int (bI z)])).length) Slot.unset).toArray = ls at hl ⊢
  have hl : lv_has ls 4 [(0, .ref (am 0)), (1, .int (nI j)), (2, .int x9), (3, .int (bI z))] := hl
  show W p l e ({ frames := 4, cells := 0, slots := 0, locals := 93 } : Room) s m ([.ref (am 0), .int (nI j), .int x9, .int (bI z)]).toArray below meth c s.heap [] 0 0 (MQ below (va_Qi (fun r M' => M' = thM M 2) (PM dC dI am) (AM am)) ([.ref (am 0), .int (nI j), .int x9, .int (bI z)]).toArray s 0 0 (AM am)) (F0 m 0 ls [])
  refine lv_aload_n hx hb dX6_step_0 rfl (lv_at hl 0 rfl) ?_
  refine lv_iload_n hx hb dX6_step_1 rfl (lv_at hl 1 rfl) ?_
  refine kx_cr (v := bI false) (va_runS (As := [.int (nI j)]) (rest := [.ref (am 0)]) ⟨hx, hb, hml, hown, hts⟩ (m_X6_isNoOrder l dC dI am M (nI j)) (va_cwS 1 hts gX6_step_X6_isNoOrder rfl rfl rfl hdX6_isNoOrder_1.2 ⟨Nat.le_of_ble_eq_true rfl, Nat.le_of_ble_eq_true rfl⟩) hX.preS rfl rfl hl.1 rfl (lv_room (Nat.le_of_ble_eq_true rfl)) dX6_step_2 ⟨Nat.le_of_ble_eq_true rfl, Nat.le_of_ble_eq_true rfl⟩) (fun _ h => h.trans (isNo_ok (by omega) (by omega))) ?_
  refine lv_iconst (v := nI 1) hx hb dX6_step_5 (by decide) ?_
  refine km_ci (va_runV (As := [.int (bI false), .int (nI 1)]) (rest := []) ⟨hx, hb, hml, hown, hts⟩ (m_X6_start l dC dI am M false 1 (by omega)) (cwV 2 hts gX6_step_X6_start rfl rfl rfl hdX6_start_2 ⟨Nat.le_of_ble_eq_true rfl, Nat.le_of_ble_eq_true rfl⟩) (hX.preObj) rfl rfl hl.1 rfl (lv_room (Nat.le_of_ble_eq_true rfl)) dX6_step_6 ⟨Nat.le_of_ble_eq_true rfl, Nat.le_of_ble_eq_true rfl⟩) hX (fun _ h => h) (fun r_ S_ H locs hw hX => ?_)
  obtain ⟨rfl, rfl⟩ := hw
  refine kb_if_ne (tgt := 26) hx hb dX6_step_9 (by decide) (fun k_1 => absurd k_1 (by decide)) (fun k_1 => ?_)
  refine lv_aload_n hx hb dX6_step_12 rfl (lv_at hl 0 rfl) ?_
  refine lv_iload_n hx hb dX6_step_13 rfl (lv_at hl 2 rfl) ?_
  refine lv_bipush (v := nI 7) hx hb dX6_step_14 (by decide) ?_
  refine kx_cr (v := bI true) (va_runS (As := [.int x9, .int (nI 7)]) (rest := [.ref (am 0)]) ⟨hx, hb, hml, hown, hts⟩ (m_X6_isNo l dC dI am (mN M (0, M.2.2.2.1, M.2.2.2.2.1, M.2.2.2.2.2)) x9 (nI 7)) (va_cwS 2 hts gX6_step_X6_isNo rfl rfl rfl hdX6_isNo_2.2 ⟨Nat.le_of_ble_eq_true rfl, Nat.le_of_ble_eq_true rfl⟩) hX.preS rfl rfl hl.1 rfl (lv_room (Nat.le_of_ble_eq_true rfl)) dX6_step_16 ⟨Nat.le_of_ble_eq_true rfl, Nat.le_of_ble_eq_true rfl⟩) (fun _ h => h.trans (isNo_bad hb9)) ?_
  refine lv_iconst (v := nI 2) hx hb dX6_step_19 (by decide) ?_
  refine km_ci (va_runV (As := [.int (bI true), .int (nI 2)]) (rest := []) ⟨hx, hb, hml, hown, hts⟩ (m_X6_refuse l dC dI am (mN M (0, M.2.2.2.1, M.2.2.2.2.1, M.2.2.2.2.2)) true 2 (by omega) rfl) (cwV 2 hts gX6_step_X6_refuse rfl rfl rfl hdX6_refuse_2 ⟨Nat.le_of_ble_eq_true rfl, Nat.le_of_ble_eq_true rfl⟩) (hX.preObj) rfl rfl hl.1 rfl (lv_room (Nat.le_of_ble_eq_true rfl)) dX6_step_20 ⟨Nat.le_of_ble_eq_true rfl, Nat.le_of_ble_eq_true rfl⟩) hX (fun _ h => h) (fun r_ S_ H locs hw hX => ?_)
  obtain ⟨rfl, rfl⟩ := hw
  refine kb_if_eq (tgt := 28) hx hb dX6_step_23 (by decide) (fun k_2 => absurd k_2 (by decide)) (fun k_2 => ?_)
  refine lv_iconst (v := nI 0) hx hb dX6_step_26 (by decide) ?_
  exact W.iret (v := nI 0) hx hb hr (fun t9 ht9 hW9 => ⟨⟨_, (mN M (2, M.2.2.2.1, M.2.2.2.2.1, M.2.2.2.2.2)), rfl, rfl, hX.P ht9 hW9⟩, hX.2.2.2.F ht9⟩) hX.2.2.2.2.2 dX6_step_27
set_option maxHeartbeats 4000000 in
set_option maxRecDepth 100000 in
theorem o_X6_unstep_1 (l : Launch) (dC : Nat → ClassId) (dI : Nat → Nat → Nat) (am : Nat → Nat) (M : MS) (x9 : Int32) (hb9 : x9 < 0 ∨ nI 4 ≤ x9) (hI : InvM M) : Met l yX6_unstep wsX6_unstep ({ frames := 2, cells := 0, slots := 0, locals := 44 } : Room) (va_Pc [.ref (am 0), .int x9] (PM dC dI am M)) (va_Qi (fun r M' => M' = thM M 1) (PM dC dI am) (AM am)) 0 0 (AM am) := by
  refine Met.ofW (cc := cX6_unstep) (maxL := 2) (ret := (some .int)) pl_X6 rfl ?_
  intro p e s m args below meth c s₁ B hml hv
  obtain ⟨rfl, hPX⟩ := hv
  have hx := B.exec
  have hb := B.bytes
  have hr := B.returns
  have hts := atoms_spec (ws := wsX6_unstep) B.pre
  have hown : s.vm.findClass RX6 = some m.cls := findClass_of_methodNamed B.named
  have hlocks := B.notSynchronized
  have hin6 : ∀ w ∈ u_ws RX6 TX6 10, w ∈ wsX6_unstep := tu 1331 (by decide +kernel) rfl
  have hX := WM.of hPX
  have hl := lv_entry ([.ref (am 0), .int x9]) (n := 2) (Nat.le_of_ble_eq_true rfl)
  rw [lg_entry_eq]
  generalize (lg_sl ([.ref (am 0), .int x9]) ++ List.replicate (2 - (lg_sl ([.ref (am 0), .int x9])).length) Slot.unset).toArray = ls at hl ⊢
  have hl : lv_has ls 2 [(0, .ref (am 0)), (1, .int x9)] := hl
  show W p l e ({ frames := 2, cells := 0, slots := 0, locals := 44 } : Room) s m ([.ref (am 0), .int x9]).toArray below meth c s.heap [] 0 0 (MQ below (va_Qi (fun r M' => M' = thM M 1) (PM dC dI am) (AM am)) ([.ref (am 0), .int x9]).toArray s 0 0 (AM am)) (F0 m 0 ls [])
  refine lv_aload_n hx hb dX6_unstep_0 rfl (lv_at hl 0 rfl) ?_
  refine lv_iload_n hx hb dX6_unstep_1 rfl (lv_at hl 1 rfl) ?_
  refine kx_cr (v := bI true) (va_runS (As := [.int x9]) (rest := [.ref (am 0)]) ⟨hx, hb, hml, hown, hts⟩ (m_X6_isNoOrder l dC dI am M x9) (va_cwS 1 hts gX6_unstep_X6_isNoOrder rfl rfl rfl hdX6_isNoOrder_1.2 ⟨Nat.le_of_ble_eq_true rfl, Nat.le_of_ble_eq_true rfl⟩) hX.preS rfl rfl hl.1 rfl (lv_room (Nat.le_of_ble_eq_true rfl)) dX6_unstep_2 ⟨Nat.le_of_ble_eq_true rfl, Nat.le_of_ble_eq_true rfl⟩) (fun _ h => h.trans (isNo_bad (isNo_o hb9))) ?_
  refine lv_iconst (v := nI 1) hx hb dX6_unstep_5 (by decide) ?_
  refine km_ci (va_runV (As := [.int (bI true), .int (nI 1)]) (rest := []) ⟨hx, hb, hml, hown, hts⟩ (m_X6_start l dC dI am M true 1 (by omega)) (cwV 2 hts gX6_unstep_X6_start rfl rfl rfl hdX6_start_2 ⟨Nat.le_of_ble_eq_true rfl, Nat.le_of_ble_eq_true rfl⟩) (hX.preObj) rfl rfl hl.1 rfl (lv_room (Nat.le_of_ble_eq_true rfl)) dX6_unstep_6 ⟨Nat.le_of_ble_eq_true rfl, Nat.le_of_ble_eq_true rfl⟩) hX (fun _ h => h) (fun r_ S_ H locs hw hX => ?_)
  obtain ⟨rfl, rfl⟩ := hw
  refine kb_if_eq (tgt := 14) hx hb dX6_unstep_9 (by decide) (fun k_1 => absurd k_1 (by decide)) (fun k_1 => ?_)
  refine lv_iconst (v := nI 0) hx hb dX6_unstep_12 (by decide) ?_
  exact W.iret (v := nI 0) hx hb hr (fun t9 ht9 hW9 => ⟨⟨_, (mN M (1, M.2.2.2.1, M.2.2.2.2.1, M.2.2.2.2.2)), rfl, rfl, hX.P ht9 hW9⟩, hX.2.2.2.F ht9⟩) hX.2.2.2.2.2 dX6_unstep_13
set_option maxHeartbeats 4000000 in
set_option maxRecDepth 100000 in
theorem o_X6_wipe_1 (l : Launch) (dC : Nat → ClassId) (dI : Nat → Nat → Nat) (am : Nat → Nat) (M : MS) (x9 : Int32) (hb9 : x9 < 0 ∨ nI 4 ≤ x9) (hI : InvM M) : Met l yX6_wipe wsX6_wipe ({ frames := 2, cells := 0, slots := 0, locals := 44 } : Room) (va_Pc [.ref (am 0), .int x9] (PM dC dI am M)) (va_Qi (fun r M' => M' = thM M 1) (PM dC dI am) (AM am)) 0 0 (AM am) := by
  refine Met.ofW (cc := cX6_wipe) (maxL := 3) (ret := (some .int)) pl_X6 rfl ?_
  intro p e s m args below meth c s₁ B hml hv
  obtain ⟨rfl, hPX⟩ := hv
  have hx := B.exec
  have hb := B.bytes
  have hr := B.returns
  have hts := atoms_spec (ws := wsX6_wipe) B.pre
  have hown : s.vm.findClass RX6 = some m.cls := findClass_of_methodNamed B.named
  have hlocks := B.notSynchronized
  have hin6 : ∀ w ∈ u_ws RX6 TX6 10, w ∈ wsX6_wipe := tu 1331 (by decide +kernel) rfl
  have hX := WM.of hPX
  have hl := lv_entry ([.ref (am 0), .int x9]) (n := 3) (Nat.le_of_ble_eq_true rfl)
  rw [lg_entry_eq]
  generalize (lg_sl ([.ref (am 0), .int x9]) ++ List.replicate (3 - (lg_sl ([.ref (am 0), .int x9])).length) Slot.unset).toArray = ls at hl ⊢
  have hl : lv_has ls 3 [(0, .ref (am 0)), (1, .int x9)] := hl
  show W p l e ({ frames := 2, cells := 0, slots := 0, locals := 44 } : Room) s m ([.ref (am 0), .int x9]).toArray below meth c s.heap [] 0 0 (MQ below (va_Qi (fun r M' => M' = thM M 1) (PM dC dI am) (AM am)) ([.ref (am 0), .int x9]).toArray s 0 0 (AM am)) (F0 m 0 ls [])
  refine lv_aload_n hx hb dX6_wipe_0 rfl (lv_at hl 0 rfl) ?_
  refine lv_iload_n hx hb dX6_wipe_1 rfl (lv_at hl 1 rfl) ?_
  refine kx_cr (v := bI true) (va_runS (As := [.int x9]) (rest := [.ref (am 0)]) ⟨hx, hb, hml, hown, hts⟩ (m_X6_isNoOrder l dC dI am M x9) (va_cwS 1 hts gX6_wipe_X6_isNoOrder rfl rfl rfl hdX6_isNoOrder_1.2 ⟨Nat.le_of_ble_eq_true rfl, Nat.le_of_ble_eq_true rfl⟩) hX.preS rfl rfl hl.1 rfl (lv_room (Nat.le_of_ble_eq_true rfl)) dX6_wipe_2 ⟨Nat.le_of_ble_eq_true rfl, Nat.le_of_ble_eq_true rfl⟩) (fun _ h => h.trans (isNo_bad (isNo_o hb9))) ?_
  refine lv_iconst (v := nI 1) hx hb dX6_wipe_5 (by decide) ?_
  refine km_ci (va_runV (As := [.int (bI true), .int (nI 1)]) (rest := []) ⟨hx, hb, hml, hown, hts⟩ (m_X6_start l dC dI am M true 1 (by omega)) (cwV 2 hts gX6_wipe_X6_start rfl rfl rfl hdX6_start_2 ⟨Nat.le_of_ble_eq_true rfl, Nat.le_of_ble_eq_true rfl⟩) (hX.preObj) rfl rfl hl.1 rfl (lv_room (Nat.le_of_ble_eq_true rfl)) dX6_wipe_6 ⟨Nat.le_of_ble_eq_true rfl, Nat.le_of_ble_eq_true rfl⟩) hX (fun _ h => h) (fun r_ S_ H locs hw hX => ?_)
  obtain ⟨rfl, rfl⟩ := hw
  refine kb_if_eq (tgt := 14) hx hb dX6_wipe_9 (by decide) (fun k_1 => absurd k_1 (by decide)) (fun k_1 => ?_)
  refine lv_iconst (v := nI 0) hx hb dX6_wipe_12 (by decide) ?_
  exact W.iret (v := nI 0) hx hb hr (fun t9 ht9 hW9 => ⟨⟨_, (mN M (1, M.2.2.2.1, M.2.2.2.2.1, M.2.2.2.2.2)), rfl, rfl, hX.P ht9 hW9⟩, hX.2.2.2.F ht9⟩) hX.2.2.2.2.2 dX6_wipe_13
set_option maxHeartbeats 4000000 in
set_option maxRecDepth 100000 in
theorem o_X6_copyOrder_1 (l : Launch) (dC : Nat → ClassId) (dI : Nat → Nat → Nat) (am : Nat → Nat) (M : MS) (x9 : Int32) (y1 : Int32) (hb9 : x9 < 0 ∨ nI 4 ≤ x9) (hI : InvM M) : Met l yX6_copyOrder wsX6_copyOrder ({ frames := 2, cells := 0, slots := 0, locals := 44 } : Room) (va_Pc [.ref (am 0), .int x9, .int y1] (PM dC dI am M)) (va_Qi (fun r M' => M' = thM M 1) (PM dC dI am) (AM am)) 0 0 (AM am) := by
  refine Met.ofW (cc := cX6_copyOrder) (maxL := 4) (ret := (some .int)) pl_X6 rfl ?_
  intro p e s m args below meth c s₁ B hml hv
  obtain ⟨rfl, hPX⟩ := hv
  have hx := B.exec
  have hb := B.bytes
  have hr := B.returns
  have hts := atoms_spec (ws := wsX6_copyOrder) B.pre
  have hown : s.vm.findClass RX6 = some m.cls := findClass_of_methodNamed B.named
  have hlocks := B.notSynchronized
  have hin6 : ∀ w ∈ u_ws RX6 TX6 10, w ∈ wsX6_copyOrder := tu 1331 (by decide +kernel) rfl
  have hX := WM.of hPX
  have hl := lv_entry ([.ref (am 0), .int x9, .int y1]) (n := 4) (Nat.le_of_ble_eq_true rfl)
  rw [lg_entry_eq]
  generalize (lg_sl ([.ref (am 0), .int x9, .int y1]) ++ List.replicate (4 - (lg_sl ([.ref (am 0), .int x9, .int y1])).length) Slot.unset).toArray = ls at hl ⊢
  have hl : lv_has ls 4 [(0, .ref (am 0)), (1, .int x9), (2, .int y1)] := hl
  show W p l e ({ frames := 2, cells := 0, slots := 0, locals := 44 } : Room) s m ([.ref (am 0), .int x9, .int y1]).toArray below meth c s.heap [] 0 0 (MQ below (va_Qi (fun r M' => M' = thM M 1) (PM dC dI am) (AM am)) ([.ref (am 0), .int x9, .int y1]).toArray s 0 0 (AM am)) (F0 m 0 ls [])
  refine lv_aload_n hx hb dX6_copyOrder_0 rfl (lv_at hl 0 rfl) ?_
  refine lv_iload_n hx hb dX6_copyOrder_1 rfl (lv_at hl 1 rfl) ?_
  refine kx_cr (v := bI true) (va_runS (As := [.int x9]) (rest := [.ref (am 0)]) ⟨hx, hb, hml, hown, hts⟩ (m_X6_isNoOrder l dC dI am M x9) (va_cwS 1 hts gX6_copyOrder_X6_isNoOrder rfl rfl rfl hdX6_isNoOrder_1.2 ⟨Nat.le_of_ble_eq_true rfl, Nat.le_of_ble_eq_true rfl⟩) hX.preS rfl rfl hl.1 rfl (lv_room (Nat.le_of_ble_eq_true rfl)) dX6_copyOrder_2 ⟨Nat.le_of_ble_eq_true rfl, Nat.le_of_ble_eq_true rfl⟩) (fun _ h => h.trans (isNo_bad (isNo_o hb9))) ?_
  refine kb_if_ne (tgt := 15) hx hb dX6_copyOrder_5 (by decide) (fun k_1 => ?_) (fun k_1 => absurd k_1 (by decide))
  refine lv_iconst (v := nI 1) hx hb dX6_copyOrder_15 (by decide) ?_
  refine lv_goto (tgt := 20) hx hb dX6_copyOrder_16 (by decide) ?_
  refine lv_iconst (v := nI 1) hx hb dX6_copyOrder_20 (by decide) ?_
  refine km_ci (va_runV (As := [.int (nI 1), .int (nI 1)]) (rest := []) ⟨hx, hb, hml, hown, hts⟩ (m_X6_start l dC dI am M true 1 (by omega)) (cwV 2 hts gX6_copyOrder_X6_start rfl rfl rfl hdX6_start_2 ⟨Nat.le_of_ble_eq_true rfl, Nat.le_of_ble_eq_true rfl⟩) (hX.preObj) rfl rfl hl.1 rfl (lv_room (Nat.le_of_ble_eq_true rfl)) dX6_copyOrder_21 ⟨Nat.le_of_ble_eq_true rfl, Nat.le_of_ble_eq_true rfl⟩) hX (fun _ h => h) (fun r_ S_ H locs hw hX => ?_)
  obtain ⟨rfl, rfl⟩ := hw
  refine kb_if_eq (tgt := 29) hx hb dX6_copyOrder_24 (by decide) (fun k_2 => absurd k_2 (by decide)) (fun k_2 => ?_)
  refine lv_iconst (v := nI 0) hx hb dX6_copyOrder_27 (by decide) ?_
  exact W.iret (v := nI 0) hx hb hr (fun t9 ht9 hW9 => ⟨⟨_, (mN M (1, M.2.2.2.1, M.2.2.2.2.1, M.2.2.2.2.2)), rfl, rfl, hX.P ht9 hW9⟩, hX.2.2.2.F ht9⟩) hX.2.2.2.2.2 dX6_copyOrder_28
set_option maxHeartbeats 4000000 in
set_option maxRecDepth 100000 in
theorem o_X6_copyOrder_2 (l : Launch) (dC : Nat → ClassId) (dI : Nat → Nat → Nat) (am : Nat → Nat) (M : MS) (j : Nat) (x9 : Int32) (hj : j < 4) (hb9 : x9 < 0 ∨ nI 4 ≤ x9) (hI : InvM M) : Met l yX6_copyOrder wsX6_copyOrder ({ frames := 2, cells := 0, slots := 0, locals := 44 } : Room) (va_Pc [.ref (am 0), .int (nI j), .int x9] (PM dC dI am M)) (va_Qi (fun r M' => M' = thM M 1) (PM dC dI am) (AM am)) 0 0 (AM am) := by
  refine Met.ofW (cc := cX6_copyOrder) (maxL := 4) (ret := (some .int)) pl_X6 rfl ?_
  intro p e s m args below meth c s₁ B hml hv
  obtain ⟨rfl, hPX⟩ := hv
  have hx := B.exec
  have hb := B.bytes
  have hr := B.returns
  have hts := atoms_spec (ws := wsX6_copyOrder) B.pre
  have hown : s.vm.findClass RX6 = some m.cls := findClass_of_methodNamed B.named
  have hlocks := B.notSynchronized
  have hin6 : ∀ w ∈ u_ws RX6 TX6 10, w ∈ wsX6_copyOrder := tu 1331 (by decide +kernel) rfl
  have hX := WM.of hPX
  have hl := lv_entry ([.ref (am 0), .int (nI j), .int x9]) (n := 4) (Nat.le_of_ble_eq_true rfl)
  rw [lg_entry_eq]
  generalize (lg_sl ([.ref (am 0), .int (nI j), .int x9]) ++ List.replicate (4 - (lg_sl ([.ref (am 0), .int (nI j), .int x9])).length) Slot.unset).toArray = ls at hl ⊢
  have hl : lv_has ls 4 [(0, .ref (am 0)), (1, .int (nI j)), (2, .int x9)] := hl
  show W p l e ({ frames := 2, cells := 0, slots := 0, locals := 44 } : Room) s m ([.ref (am 0), .int (nI j), .int x9]).toArray below meth c s.heap [] 0 0 (MQ below (va_Qi (fun r M' => M' = thM M 1) (PM dC dI am) (AM am)) ([.ref (am 0), .int (nI j), .int x9]).toArray s 0 0 (AM am)) (F0 m 0 ls [])
  refine lv_aload_n hx hb dX6_copyOrder_0 rfl (lv_at hl 0 rfl) ?_
  refine lv_iload_n hx hb dX6_copyOrder_1 rfl (lv_at hl 1 rfl) ?_
  refine kx_cr (v := bI false) (va_runS (As := [.int (nI j)]) (rest := [.ref (am 0)]) ⟨hx, hb, hml, hown, hts⟩ (m_X6_isNoOrder l dC dI am M (nI j)) (va_cwS 1 hts gX6_copyOrder_X6_isNoOrder rfl rfl rfl hdX6_isNoOrder_1.2 ⟨Nat.le_of_ble_eq_true rfl, Nat.le_of_ble_eq_true rfl⟩) hX.preS rfl rfl hl.1 rfl (lv_room (Nat.le_of_ble_eq_true rfl)) dX6_copyOrder_2 ⟨Nat.le_of_ble_eq_true rfl, Nat.le_of_ble_eq_true rfl⟩) (fun _ h => h.trans (isNo_ok (by omega) (by omega))) ?_
  refine kb_if_ne (tgt := 15) hx hb dX6_copyOrder_5 (by decide) (fun k_1 => absurd k_1 (by decide)) (fun k_1 => ?_)
  refine lv_iload_n hx hb dX6_copyOrder_8 rfl (lv_at hl 2 rfl) ?_
  refine kx_cr (v := bI true) (va_runS (As := [.int x9]) (rest := [.ref (am 0)]) ⟨hx, hb, hml, hown, hts⟩ (m_X6_isNoOrder l dC dI am M x9) (va_cwS 1 hts gX6_copyOrder_X6_isNoOrder rfl rfl rfl hdX6_isNoOrder_1.2 ⟨Nat.le_of_ble_eq_true rfl, Nat.le_of_ble_eq_true rfl⟩) hX.preS rfl rfl hl.1 rfl (lv_room (Nat.le_of_ble_eq_true rfl)) dX6_copyOrder_9 ⟨Nat.le_of_ble_eq_true rfl, Nat.le_of_ble_eq_true rfl⟩) (fun _ h => h.trans (isNo_bad (isNo_o hb9))) ?_
  refine kb_if_eq (tgt := 19) hx hb dX6_copyOrder_12 (by decide) (fun k_2 => absurd k_2 (by decide)) (fun k_2 => ?_)
  refine lv_iconst (v := nI 1) hx hb dX6_copyOrder_15 (by decide) ?_
  refine lv_goto (tgt := 20) hx hb dX6_copyOrder_16 (by decide) ?_
  refine lv_iconst (v := nI 1) hx hb dX6_copyOrder_20 (by decide) ?_
  refine km_ci (va_runV (As := [.int (nI 1), .int (nI 1)]) (rest := []) ⟨hx, hb, hml, hown, hts⟩ (m_X6_start l dC dI am M true 1 (by omega)) (cwV 2 hts gX6_copyOrder_X6_start rfl rfl rfl hdX6_start_2 ⟨Nat.le_of_ble_eq_true rfl, Nat.le_of_ble_eq_true rfl⟩) (hX.preObj) rfl rfl hl.1 rfl (lv_room (Nat.le_of_ble_eq_true rfl)) dX6_copyOrder_21 ⟨Nat.le_of_ble_eq_true rfl, Nat.le_of_ble_eq_true rfl⟩) hX (fun _ h => h) (fun r_ S_ H locs hw hX => ?_)
  obtain ⟨rfl, rfl⟩ := hw
  refine kb_if_eq (tgt := 29) hx hb dX6_copyOrder_24 (by decide) (fun k_3 => absurd k_3 (by decide)) (fun k_3 => ?_)
  refine lv_iconst (v := nI 0) hx hb dX6_copyOrder_27 (by decide) ?_
  exact W.iret (v := nI 0) hx hb hr (fun t9 ht9 hW9 => ⟨⟨_, (mN M (1, M.2.2.2.1, M.2.2.2.2.1, M.2.2.2.2.2)), rfl, rfl, hX.P ht9 hW9⟩, hX.2.2.2.F ht9⟩) hX.2.2.2.2.2 dX6_copyOrder_28
set_option maxHeartbeats 4000000 in
set_option maxRecDepth 100000 in
theorem o_X6_turn_1 (l : Launch) (dC : Nat → ClassId) (dI : Nat → Nat → Nat) (am : Nat → Nat) (M : MS) (x9 : Int32) (hb9 : x9 < 0 ∨ nI 4 ≤ x9) (hI : InvM M) : Met l yX6_turn wsX6_turn ({ frames := 2, cells := 0, slots := 0, locals := 44 } : Room) (va_Pc [.ref (am 0), .int x9] (PM dC dI am M)) (va_Qi (fun r M' => M' = thM M 1) (PM dC dI am) (AM am)) 0 0 (AM am) := by
  refine Met.ofW (cc := cX6_turn) (maxL := 4) (ret := (some .int)) pl_X6 rfl ?_
  intro p e s m args below meth c s₁ B hml hv
  obtain ⟨rfl, hPX⟩ := hv
  have hx := B.exec
  have hb := B.bytes
  have hr := B.returns
  have hts := atoms_spec (ws := wsX6_turn) B.pre
  have hown : s.vm.findClass RX6 = some m.cls := findClass_of_methodNamed B.named
  have hlocks := B.notSynchronized
  have hin6 : ∀ w ∈ u_ws RX6 TX6 10, w ∈ wsX6_turn := tu 1331 (by decide +kernel) rfl
  have hX := WM.of hPX
  have hl := lv_entry ([.ref (am 0), .int x9]) (n := 4) (Nat.le_of_ble_eq_true rfl)
  rw [lg_entry_eq]
  generalize (lg_sl ([.ref (am 0), .int x9]) ++ List.replicate (4 - (lg_sl ([.ref (am 0), .int x9])).length) Slot.unset).toArray = ls at hl ⊢
  have hl : lv_has ls 4 [(0, .ref (am 0)), (1, .int x9)] := hl
  show W p l e ({ frames := 2, cells := 0, slots := 0, locals := 44 } : Room) s m ([.ref (am 0), .int x9]).toArray below meth c s.heap [] 0 0 (MQ below (va_Qi (fun r M' => M' = thM M 1) (PM dC dI am) (AM am)) ([.ref (am 0), .int x9]).toArray s 0 0 (AM am)) (F0 m 0 ls [])
  refine lv_aload_n hx hb dX6_turn_0 rfl (lv_at hl 0 rfl) ?_
  refine lv_iload_n hx hb dX6_turn_1 rfl (lv_at hl 1 rfl) ?_
  refine kx_cr (v := bI true) (va_runS (As := [.int x9]) (rest := [.ref (am 0)]) ⟨hx, hb, hml, hown, hts⟩ (m_X6_isNoOrder l dC dI am M x9) (va_cwS 1 hts gX6_turn_X6_isNoOrder rfl rfl rfl hdX6_isNoOrder_1.2 ⟨Nat.le_of_ble_eq_true rfl, Nat.le_of_ble_eq_true rfl⟩) hX.preS rfl rfl hl.1 rfl (lv_room (Nat.le_of_ble_eq_true rfl)) dX6_turn_2 ⟨Nat.le_of_ble_eq_true rfl, Nat.le_of_ble_eq_true rfl⟩) (fun _ h => h.trans (isNo_bad (isNo_o hb9))) ?_
  refine lv_iconst (v := nI 1) hx hb dX6_turn_5 (by decide) ?_
  refine km_ci (va_runV (As := [.int (bI true), .int (nI 1)]) (rest := []) ⟨hx, hb, hml, hown, hts⟩ (m_X6_start l dC dI am M true 1 (by omega)) (cwV 2 hts gX6_turn_X6_start rfl rfl rfl hdX6_start_2 ⟨Nat.le_of_ble_eq_true rfl, Nat.le_of_ble_eq_true rfl⟩) (hX.preObj) rfl rfl hl.1 rfl (lv_room (Nat.le_of_ble_eq_true rfl)) dX6_turn_6 ⟨Nat.le_of_ble_eq_true rfl, Nat.le_of_ble_eq_true rfl⟩) hX (fun _ h => h) (fun r_ S_ H locs hw hX => ?_)
  obtain ⟨rfl, rfl⟩ := hw
  refine kb_if_eq (tgt := 14) hx hb dX6_turn_9 (by decide) (fun k_1 => absurd k_1 (by decide)) (fun k_1 => ?_)
  refine lv_iconst (v := nI 0) hx hb dX6_turn_12 (by decide) ?_
  exact W.iret (v := nI 0) hx hb hr (fun t9 ht9 hW9 => ⟨⟨_, (mN M (1, M.2.2.2.1, M.2.2.2.2.1, M.2.2.2.2.2)), rfl, rfl, hX.P ht9 hW9⟩, hX.2.2.2.F ht9⟩) hX.2.2.2.2.2 dX6_turn_13
set_option maxHeartbeats 4000000 in
set_option maxRecDepth 100000 in
theorem o_X6_product_1 (l : Launch) (dC : Nat → ClassId) (dI : Nat → Nat → Nat) (am : Nat → Nat) (M : MS) (x9 : Int32) (y1 : Int32) (y2 : Int32) (hb9 : x9 < 0 ∨ nI 4 ≤ x9) (hI : InvM M) : Met l yX6_product wsX6_product ({ frames := 4, cells := 2, slots := 10, locals := 93 } : Room) (va_Pc [.ref (am 0), .int x9, .int y1, .int y2] (PM dC dI am M)) (va_Qi (fun r M' => M' = thM M 1) (PM dC dI am) (AM am)) 2 10 (AM am) := by
  refine Met.ofW (cc := cX6_product) (maxL := 9) (ret := (some .int)) pl_X6 rfl ?_
  intro p e s m args below meth c s₁ B hml hv
  obtain ⟨rfl, hPX⟩ := hv
  have hx := B.exec
  have hb := B.bytes
  have hr := B.returns
  have hts := atoms_spec (ws := wsX6_product) B.pre
  have hown : s.vm.findClass RX6 = some m.cls := findClass_of_methodNamed B.named
  have hlocks := B.notSynchronized
  have hin6 : ∀ w ∈ u_ws RX6 TX6 10, w ∈ wsX6_product := tu 1331 (by decide +kernel) rfl
  have hX := WM.of hPX
  have hl := lv_entry ([.ref (am 0), .int x9, .int y1, .int y2]) (n := 9) (Nat.le_of_ble_eq_true rfl)
  rw [lg_entry_eq]
  generalize (lg_sl ([.ref (am 0), .int x9, .int y1, .int y2]) ++ List.replicate (9 - (lg_sl ([.ref (am 0), .int x9, .int y1, .int y2])).length) Slot.unset).toArray = ls at hl ⊢
  have hl : lv_has ls 9 [(0, .ref (am 0)), (1, .int x9), (2, .int y1), (3, .int y2)] := hl
  show W p l e ({ frames := 4, cells := 2, slots := 10, locals := 93 } : Room) s m ([.ref (am 0), .int x9, .int y1, .int y2]).toArray below meth c s.heap [] 0 0 (MQ below (va_Qi (fun r M' => M' = thM M 1) (PM dC dI am) (AM am)) ([.ref (am 0), .int x9, .int y1, .int y2]).toArray s 2 10 (AM am)) (F0 m 0 ls [])
  refine lv_aload_n hx hb dX6_product_0 rfl (lv_at hl 0 rfl) ?_
  refine lv_iload_n hx hb dX6_product_1 rfl (lv_at hl 1 rfl) ?_
  refine kx_cr (v := bI true) (va_runS (As := [.int x9]) (rest := [.ref (am 0)]) ⟨hx, hb, hml, hown, hts⟩ (m_X6_isNoOrder l dC dI am M x9) (va_cwS 1 hts gX6_product_X6_isNoOrder rfl rfl rfl hdX6_isNoOrder_1.2 ⟨Nat.le_of_ble_eq_true rfl, Nat.le_of_ble_eq_true rfl⟩) hX.preS rfl rfl hl.1 rfl (lv_room (Nat.le_of_ble_eq_true rfl)) dX6_product_2 ⟨Nat.le_of_ble_eq_true rfl, Nat.le_of_ble_eq_true rfl⟩) (fun _ h => h.trans (isNo_bad (isNo_o hb9))) ?_
  refine kb_if_ne (tgt := 22) hx hb dX6_product_5 (by decide) (fun k_1 => ?_) (fun k_1 => absurd k_1 (by decide))
  refine lv_iconst (v := nI 1) hx hb dX6_product_22 (by decide) ?_
  refine lv_goto (tgt := 27) hx hb dX6_product_23 (by decide) ?_
  refine lv_iconst (v := nI 1) hx hb dX6_product_27 (by decide) ?_
  refine km_ci (va_runV (As := [.int (nI 1), .int (nI 1)]) (rest := []) ⟨hx, hb, hml, hown, hts⟩ (m_X6_start l dC dI am M true 1 (by omega)) (cwV 2 hts gX6_product_X6_start rfl rfl rfl hdX6_start_2 ⟨Nat.le_of_ble_eq_true rfl, Nat.le_of_ble_eq_true rfl⟩) (hX.preObj) rfl rfl hl.1 rfl (lv_room (Nat.le_of_ble_eq_true rfl)) dX6_product_28 ⟨Nat.le_of_ble_eq_true rfl, Nat.le_of_ble_eq_true rfl⟩) hX (fun _ h => h) (fun r_ S_ H locs hw hX => ?_)
  obtain ⟨rfl, rfl⟩ := hw
  refine kb_if_eq (tgt := 36) hx hb dX6_product_31 (by decide) (fun k_2 => absurd k_2 (by decide)) (fun k_2 => ?_)
  refine lv_iconst (v := nI 0) hx hb dX6_product_34 (by decide) ?_
  exact W.widen (k := 2) (n := 10) (by simp) (by simp) (W.iret (v := nI 0) hx hb hr (fun t9 ht9 hW9 => ⟨⟨_, (mN M (1, M.2.2.2.1, M.2.2.2.2.1, M.2.2.2.2.2)), rfl, rfl, hX.P ht9 hW9⟩, hX.2.2.2.F ht9⟩) hX.2.2.2.2.2 dX6_product_35)
set_option maxHeartbeats 4000000 in
set_option maxRecDepth 100000 in
theorem o_X6_product_2 (l : Launch) (dC : Nat → ClassId) (dI : Nat → Nat → Nat) (am : Nat → Nat) (M : MS) (j : Nat) (x9 : Int32) (y2 : Int32) (hj : j < 4) (hb9 : x9 < 0 ∨ nI 4 ≤ x9) (hI : InvM M) : Met l yX6_product wsX6_product ({ frames := 4, cells := 2, slots := 10, locals := 93 } : Room) (va_Pc [.ref (am 0), .int (nI j), .int x9, .int y2] (PM dC dI am M)) (va_Qi (fun r M' => M' = thM M 1) (PM dC dI am) (AM am)) 2 10 (AM am) := by
  refine Met.ofW (cc := cX6_product) (maxL := 9) (ret := (some .int)) pl_X6 rfl ?_
  intro p e s m args below meth c s₁ B hml hv
  obtain ⟨rfl, hPX⟩ := hv
  have hx := B.exec
  have hb := B.bytes
  have hr := B.returns
  have hts := atoms_spec (ws := wsX6_product) B.pre
  have hown : s.vm.findClass RX6 = some m.cls := findClass_of_methodNamed B.named
  have hlocks := B.notSynchronized
  have hin6 : ∀ w ∈ u_ws RX6 TX6 10, w ∈ wsX6_product := tu 1331 (by decide +kernel) rfl
  have hX := WM.of hPX
  have hl := lv_entry ([.ref (am 0), .int (nI j), .int x9, .int y2]) (n := 9) (Nat.le_of_ble_eq_true rfl)
  rw [lg_entry_eq]
  generalize (lg_sl ([.ref (am 0), .int (nI j), .int x9, .int y2]) ++ List.replicate (9 - (lg_sl ([.ref (am 0), .int (nI j), .int x9, .int y2])).length) Slot.unset).toArray = ls at hl ⊢
  have hl : lv_has ls 9 [(0, .ref (am 0)), (1, .int (nI j)), (2, .int x9), (3, .int y2)] := hl
  show W p l e ({ frames := 4, cells := 2, slots := 10, locals := 93 } : Room) s m ([.ref (am 0), .int (nI j), .int x9, .int y2]).toArray below meth c s.heap [] 0 0 (MQ below (va_Qi (fun r M' => M' = thM M 1) (PM dC dI am) (AM am)) ([.ref (am 0), .int (nI j), .int x9, .int y2]).toArray s 2 10 (AM am)) (F0 m 0 ls [])
  refine lv_aload_n hx hb dX6_product_0 rfl (lv_at hl 0 rfl) ?_
  refine lv_iload_n hx hb dX6_product_1 rfl (lv_at hl 1 rfl) ?_
  refine kx_cr (v := bI false) (va_runS (As := [.int (nI j)]) (rest := [.ref (am 0)]) ⟨hx, hb, hml, hown, hts⟩ (m_X6_isNoOrder l dC dI am M (nI j)) (va_cwS 1 hts gX6_product_X6_isNoOrder rfl rfl rfl hdX6_isNoOrder_1.2 ⟨Nat.le_of_ble_eq_true rfl, Nat.le_of_ble_eq_true rfl⟩) hX.preS rfl rfl hl.1 rfl (lv_room (Nat.le_of_ble_eq_true rfl)) dX6_product_2 ⟨Nat.le_of_ble_eq_true rfl, Nat.le_of_ble_eq_true rfl⟩) (fun _ h => h.trans (isNo_ok (by omega) (by omega))) ?_
  refine kb_if_ne (tgt := 22) hx hb dX6_product_5 (by decide) (fun k_1 => absurd k_1 (by decide)) (fun k_1 => ?_)
  refine lv_iload_n hx hb dX6_product_8 rfl (lv_at hl 2 rfl) ?_
  refine kx_cr (v := bI true) (va_runS (As := [.int x9]) (rest := [.ref (am 0)]) ⟨hx, hb, hml, hown, hts⟩ (m_X6_isNoOrder l dC dI am M x9) (va_cwS 1 hts gX6_product_X6_isNoOrder rfl rfl rfl hdX6_isNoOrder_1.2 ⟨Nat.le_of_ble_eq_true rfl, Nat.le_of_ble_eq_true rfl⟩) hX.preS rfl rfl hl.1 rfl (lv_room (Nat.le_of_ble_eq_true rfl)) dX6_product_9 ⟨Nat.le_of_ble_eq_true rfl, Nat.le_of_ble_eq_true rfl⟩) (fun _ h => h.trans (isNo_bad (isNo_o hb9))) ?_
  refine kb_if_ne (tgt := 22) hx hb dX6_product_12 (by decide) (fun k_2 => ?_) (fun k_2 => absurd k_2 (by decide))
  refine lv_iconst (v := nI 1) hx hb dX6_product_22 (by decide) ?_
  refine lv_goto (tgt := 27) hx hb dX6_product_23 (by decide) ?_
  refine lv_iconst (v := nI 1) hx hb dX6_product_27 (by decide) ?_
  refine km_ci (va_runV (As := [.int (nI 1), .int (nI 1)]) (rest := []) ⟨hx, hb, hml, hown, hts⟩ (m_X6_start l dC dI am M true 1 (by omega)) (cwV 2 hts gX6_product_X6_start rfl rfl rfl hdX6_start_2 ⟨Nat.le_of_ble_eq_true rfl, Nat.le_of_ble_eq_true rfl⟩) (hX.preObj) rfl rfl hl.1 rfl (lv_room (Nat.le_of_ble_eq_true rfl)) dX6_product_28 ⟨Nat.le_of_ble_eq_true rfl, Nat.le_of_ble_eq_true rfl⟩) hX (fun _ h => h) (fun r_ S_ H locs hw hX => ?_)
  obtain ⟨rfl, rfl⟩ := hw
  refine kb_if_eq (tgt := 36) hx hb dX6_product_31 (by decide) (fun k_3 => absurd k_3 (by decide)) (fun k_3 => ?_)
  refine lv_iconst (v := nI 0) hx hb dX6_product_34 (by decide) ?_
  exact W.widen (k := 2) (n := 10) (by simp) (by simp) (W.iret (v := nI 0) hx hb hr (fun t9 ht9 hW9 => ⟨⟨_, (mN M (1, M.2.2.2.1, M.2.2.2.2.1, M.2.2.2.2.2)), rfl, rfl, hX.P ht9 hW9⟩, hX.2.2.2.F ht9⟩) hX.2.2.2.2.2 dX6_product_35)
set_option maxHeartbeats 4000000 in
set_option maxRecDepth 100000 in
theorem o_X6_product_3 (l : Launch) (dC : Nat → ClassId) (dI : Nat → Nat → Nat) (am : Nat → Nat) (M : MS) (j : Nat) (j2 : Nat) (x9 : Int32) (hj : j < 4) (hj2 : j2 < 4) (hb9 : x9 < 0 ∨ nI 4 ≤ x9) (hI : InvM M) : Met l yX6_product wsX6_product ({ frames := 4, cells := 2, slots := 10, locals := 93 } : Room) (va_Pc [.ref (am 0), .int (nI j), .int (nI j2), .int x9] (PM dC dI am M)) (va_Qi (fun r M' => M' = thM M 1) (PM dC dI am) (AM am)) 2 10 (AM am) := by
  refine Met.ofW (cc := cX6_product) (maxL := 9) (ret := (some .int)) pl_X6 rfl ?_
  intro p e s m args below meth c s₁ B hml hv
  obtain ⟨rfl, hPX⟩ := hv
  have hx := B.exec
  have hb := B.bytes
  have hr := B.returns
  have hts := atoms_spec (ws := wsX6_product) B.pre
  have hown : s.vm.findClass RX6 = some m.cls := findClass_of_methodNamed B.named
  have hlocks := B.notSynchronized
  have hin6 : ∀ w ∈ u_ws RX6 TX6 10, w ∈ wsX6_product := tu 1331 (by decide +kernel) rfl
  have hX := WM.of hPX
  have hl := lv_entry ([.ref (am 0), .int (nI j), .int (nI j2), .int x9]) (n := 9) (Nat.le_of_ble_eq_true rfl)
  rw [lg_entry_eq]
  generalize (lg_sl ([.ref (am 0), .int (nI j), .int (nI j2), .int x9]) ++ List.replicate (9 - (lg_sl ([.ref (am 0), .int (nI j), .int (nI j2), .int x9])).length) Slot.unset).toArray = ls at hl ⊢
  have hl : lv_has ls 9 [(0, .ref (am 0)), (1, .int (nI j)), (2, .int (nI j2)), (3, .int x9)] := hl
  show W p l e ({ frames := 4, cells := 2, slots := 10, locals := 93 } : Room) s m ([.ref (am 0), .int (nI j), .int (nI j2), .int x9]).toArray below meth c s.heap [] 0 0 (MQ below (va_Qi (fun r M' => M' = thM M 1) (PM dC dI am) (AM am)) ([.ref (am 0), .int (nI j), .int (nI j2), .int x9]).toArray s 2 10 (AM am)) (F0 m 0 ls [])
  refine lv_aload_n hx hb dX6_product_0 rfl (lv_at hl 0 rfl) ?_
  refine lv_iload_n hx hb dX6_product_1 rfl (lv_at hl 1 rfl) ?_
  refine kx_cr (v := bI false) (va_runS (As := [.int (nI j)]) (rest := [.ref (am 0)]) ⟨hx, hb, hml, hown, hts⟩ (m_X6_isNoOrder l dC dI am M (nI j)) (va_cwS 1 hts gX6_product_X6_isNoOrder rfl rfl rfl hdX6_isNoOrder_1.2 ⟨Nat.le_of_ble_eq_true rfl, Nat.le_of_ble_eq_true rfl⟩) hX.preS rfl rfl hl.1 rfl (lv_room (Nat.le_of_ble_eq_true rfl)) dX6_product_2 ⟨Nat.le_of_ble_eq_true rfl, Nat.le_of_ble_eq_true rfl⟩) (fun _ h => h.trans (isNo_ok (by omega) (by omega))) ?_
  refine kb_if_ne (tgt := 22) hx hb dX6_product_5 (by decide) (fun k_1 => absurd k_1 (by decide)) (fun k_1 => ?_)
  refine lv_iload_n hx hb dX6_product_8 rfl (lv_at hl 2 rfl) ?_
  refine kx_cr (v := bI false) (va_runS (As := [.int (nI j2)]) (rest := [.ref (am 0)]) ⟨hx, hb, hml, hown, hts⟩ (m_X6_isNoOrder l dC dI am M (nI j2)) (va_cwS 1 hts gX6_product_X6_isNoOrder rfl rfl rfl hdX6_isNoOrder_1.2 ⟨Nat.le_of_ble_eq_true rfl, Nat.le_of_ble_eq_true rfl⟩) hX.preS rfl rfl hl.1 rfl (lv_room (Nat.le_of_ble_eq_true rfl)) dX6_product_9 ⟨Nat.le_of_ble_eq_true rfl, Nat.le_of_ble_eq_true rfl⟩) (fun _ h => h.trans (isNo_ok (by omega) (by omega))) ?_
  refine kb_if_ne (tgt := 22) hx hb dX6_product_12 (by decide) (fun k_2 => absurd k_2 (by decide)) (fun k_2 => ?_)
  refine lv_iload_n hx hb dX6_product_15 rfl (lv_at hl 3 rfl) ?_
  refine kx_cr (v := bI true) (va_runS (As := [.int x9]) (rest := [.ref (am 0)]) ⟨hx, hb, hml, hown, hts⟩ (m_X6_isNoOrder l dC dI am M x9) (va_cwS 1 hts gX6_product_X6_isNoOrder rfl rfl rfl hdX6_isNoOrder_1.2 ⟨Nat.le_of_ble_eq_true rfl, Nat.le_of_ble_eq_true rfl⟩) hX.preS rfl rfl hl.1 rfl (lv_room (Nat.le_of_ble_eq_true rfl)) dX6_product_16 ⟨Nat.le_of_ble_eq_true rfl, Nat.le_of_ble_eq_true rfl⟩) (fun _ h => h.trans (isNo_bad (isNo_o hb9))) ?_
  refine kb_if_eq (tgt := 26) hx hb dX6_product_19 (by decide) (fun k_3 => absurd k_3 (by decide)) (fun k_3 => ?_)
  refine lv_iconst (v := nI 1) hx hb dX6_product_22 (by decide) ?_
  refine lv_goto (tgt := 27) hx hb dX6_product_23 (by decide) ?_
  refine lv_iconst (v := nI 1) hx hb dX6_product_27 (by decide) ?_
  refine km_ci (va_runV (As := [.int (nI 1), .int (nI 1)]) (rest := []) ⟨hx, hb, hml, hown, hts⟩ (m_X6_start l dC dI am M true 1 (by omega)) (cwV 2 hts gX6_product_X6_start rfl rfl rfl hdX6_start_2 ⟨Nat.le_of_ble_eq_true rfl, Nat.le_of_ble_eq_true rfl⟩) (hX.preObj) rfl rfl hl.1 rfl (lv_room (Nat.le_of_ble_eq_true rfl)) dX6_product_28 ⟨Nat.le_of_ble_eq_true rfl, Nat.le_of_ble_eq_true rfl⟩) hX (fun _ h => h) (fun r_ S_ H locs hw hX => ?_)
  obtain ⟨rfl, rfl⟩ := hw
  refine kb_if_eq (tgt := 36) hx hb dX6_product_31 (by decide) (fun k_4 => absurd k_4 (by decide)) (fun k_4 => ?_)
  refine lv_iconst (v := nI 0) hx hb dX6_product_34 (by decide) ?_
  exact W.widen (k := 2) (n := 10) (by simp) (by simp) (W.iret (v := nI 0) hx hb hr (fun t9 ht9 hW9 => ⟨⟨_, (mN M (1, M.2.2.2.1, M.2.2.2.2.1, M.2.2.2.2.2)), rfl, rfl, hX.P ht9 hW9⟩, hX.2.2.2.F ht9⟩) hX.2.2.2.2.2 dX6_product_35)
set_option maxHeartbeats 4000000 in
set_option maxRecDepth 100000 in
theorem o_X6_tellApart_1 (l : Launch) (dC : Nat → ClassId) (dI : Nat → Nat → Nat) (am : Nat → Nat) (M : MS) (x9 : Int32) (y1 : Int32) (y2 : Int32) (hb9 : x9 < 0 ∨ nI 4 ≤ x9) (hI : InvM M) : Met l yX6_tellApart wsX6_tellApart ({ frames := 4, cells := 0, slots := 0, locals := 93 } : Room) (va_Pc [.ref (am 0), .int x9, .int y1, .int y2] (PM dC dI am M)) (va_Qi (fun r M' => M' = thM M 1) (PM dC dI am) (AM am)) 0 0 (AM am) := by
  refine Met.ofW (cc := cX6_tellApart) (maxL := 8) (ret := (some .int)) pl_X6 rfl ?_
  intro p e s m args below meth c s₁ B hml hv
  obtain ⟨rfl, hPX⟩ := hv
  have hx := B.exec
  have hb := B.bytes
  have hr := B.returns
  have hts := atoms_spec (ws := wsX6_tellApart) B.pre
  have hown : s.vm.findClass RX6 = some m.cls := findClass_of_methodNamed B.named
  have hlocks := B.notSynchronized
  have hin6 : ∀ w ∈ u_ws RX6 TX6 10, w ∈ wsX6_tellApart := tu 1331 (by decide +kernel) rfl
  have hX := WM.of hPX
  have hl := lv_entry ([.ref (am 0), .int x9, .int y1, .int y2]) (n := 8) (Nat.le_of_ble_eq_true rfl)
  rw [lg_entry_eq]
  generalize (lg_sl ([.ref (am 0), .int x9, .int y1, .int y2]) ++ List.replicate (8 - (lg_sl ([.ref (am 0), .int x9, .int y1, .int y2])).length) Slot.unset).toArray = ls at hl ⊢
  have hl : lv_has ls 8 [(0, .ref (am 0)), (1, .int x9), (2, .int y1), (3, .int y2)] := hl
  show W p l e ({ frames := 4, cells := 0, slots := 0, locals := 93 } : Room) s m ([.ref (am 0), .int x9, .int y1, .int y2]).toArray below meth c s.heap [] 0 0 (MQ below (va_Qi (fun r M' => M' = thM M 1) (PM dC dI am) (AM am)) ([.ref (am 0), .int x9, .int y1, .int y2]).toArray s 0 0 (AM am)) (F0 m 0 ls [])
  refine lv_aload_n hx hb dX6_tellApart_0 rfl (lv_at hl 0 rfl) ?_
  refine lv_iload_n hx hb dX6_tellApart_1 rfl (lv_at hl 1 rfl) ?_
  refine kx_cr (v := bI true) (va_runS (As := [.int x9]) (rest := [.ref (am 0)]) ⟨hx, hb, hml, hown, hts⟩ (m_X6_isNoOrder l dC dI am M x9) (va_cwS 1 hts gX6_tellApart_X6_isNoOrder rfl rfl rfl hdX6_isNoOrder_1.2 ⟨Nat.le_of_ble_eq_true rfl, Nat.le_of_ble_eq_true rfl⟩) hX.preS rfl rfl hl.1 rfl (lv_room (Nat.le_of_ble_eq_true rfl)) dX6_tellApart_2 ⟨Nat.le_of_ble_eq_true rfl, Nat.le_of_ble_eq_true rfl⟩) (fun _ h => h.trans (isNo_bad (isNo_o hb9))) ?_
  refine lv_iconst (v := nI 1) hx hb dX6_tellApart_5 (by decide) ?_
  refine km_ci (va_runV (As := [.int (bI true), .int (nI 1)]) (rest := []) ⟨hx, hb, hml, hown, hts⟩ (m_X6_start l dC dI am M true 1 (by omega)) (cwV 2 hts gX6_tellApart_X6_start rfl rfl rfl hdX6_start_2 ⟨Nat.le_of_ble_eq_true rfl, Nat.le_of_ble_eq_true rfl⟩) (hX.preObj) rfl rfl hl.1 rfl (lv_room (Nat.le_of_ble_eq_true rfl)) dX6_tellApart_6 ⟨Nat.le_of_ble_eq_true rfl, Nat.le_of_ble_eq_true rfl⟩) hX (fun _ h => h) (fun r_ S_ H locs hw hX => ?_)
  obtain ⟨rfl, rfl⟩ := hw
  refine kb_if_ne (tgt := 39) hx hb dX6_tellApart_9 (by decide) (fun k_1 => ?_) (fun k_1 => absurd k_1 (by decide))
  refine lv_iconst (v := nI 0) hx hb dX6_tellApart_39 (by decide) ?_
  exact W.iret (v := nI 0) hx hb hr (fun t9 ht9 hW9 => ⟨⟨_, (mN M (1, M.2.2.2.1, M.2.2.2.2.1, M.2.2.2.2.2)), rfl, rfl, hX.P ht9 hW9⟩, hX.2.2.2.F ht9⟩) hX.2.2.2.2.2 dX6_tellApart_40
set_option maxHeartbeats 4000000 in
set_option maxRecDepth 100000 in
theorem o_X6_tellApart_2 (l : Launch) (dC : Nat → ClassId) (dI : Nat → Nat → Nat) (am : Nat → Nat) (M : MS) (j : Nat) (x9 : Int32) (y2 : Int32) (hj : j < 4) (hb9 : x9 < 0 ∨ nI 15 < x9) (hI : InvM M) : Met l yX6_tellApart wsX6_tellApart ({ frames := 4, cells := 0, slots := 0, locals := 93 } : Room) (va_Pc [.ref (am 0), .int (nI j), .int x9, .int y2] (PM dC dI am M)) (va_Qi (fun r M' => M' = thM M 2) (PM dC dI am) (AM am)) 0 0 (AM am) := by
  refine Met.ofW (cc := cX6_tellApart) (maxL := 8) (ret := (some .int)) pl_X6 rfl ?_
  intro p e s m args below meth c s₁ B hml hv
  obtain ⟨rfl, hPX⟩ := hv
  have hx := B.exec
  have hb := B.bytes
  have hr := B.returns
  have hts := atoms_spec (ws := wsX6_tellApart) B.pre
  have hown : s.vm.findClass RX6 = some m.cls := findClass_of_methodNamed B.named
  have hlocks := B.notSynchronized
  have hin6 : ∀ w ∈ u_ws RX6 TX6 10, w ∈ wsX6_tellApart := tu 1331 (by decide +kernel) rfl
  have hX := WM.of hPX
  have hl := lv_entry ([.ref (am 0), .int (nI j), .int x9, .int y2]) (n := 8) (Nat.le_of_ble_eq_true rfl)
  rw [lg_entry_eq]
  generalize (lg_sl ([.ref (am 0), .int (nI j), .int x9, .int y2]) ++ List.replicate (8 - (lg_sl ([.ref (am 0), .int (nI j), .int x9, .int y2])).length) Slot.unset).toArray = ls at hl ⊢
  have hl : lv_has ls 8 [(0, .ref (am 0)), (1, .int (nI j)), (2, .int x9), (3, .int y2)] := hl
  show W p l e ({ frames := 4, cells := 0, slots := 0, locals := 93 } : Room) s m ([.ref (am 0), .int (nI j), .int x9, .int y2]).toArray below meth c s.heap [] 0 0 (MQ below (va_Qi (fun r M' => M' = thM M 2) (PM dC dI am) (AM am)) ([.ref (am 0), .int (nI j), .int x9, .int y2]).toArray s 0 0 (AM am)) (F0 m 0 ls [])
  refine lv_aload_n hx hb dX6_tellApart_0 rfl (lv_at hl 0 rfl) ?_
  refine lv_iload_n hx hb dX6_tellApart_1 rfl (lv_at hl 1 rfl) ?_
  refine kx_cr (v := bI false) (va_runS (As := [.int (nI j)]) (rest := [.ref (am 0)]) ⟨hx, hb, hml, hown, hts⟩ (m_X6_isNoOrder l dC dI am M (nI j)) (va_cwS 1 hts gX6_tellApart_X6_isNoOrder rfl rfl rfl hdX6_isNoOrder_1.2 ⟨Nat.le_of_ble_eq_true rfl, Nat.le_of_ble_eq_true rfl⟩) hX.preS rfl rfl hl.1 rfl (lv_room (Nat.le_of_ble_eq_true rfl)) dX6_tellApart_2 ⟨Nat.le_of_ble_eq_true rfl, Nat.le_of_ble_eq_true rfl⟩) (fun _ h => h.trans (isNo_ok (by omega) (by omega))) ?_
  refine lv_iconst (v := nI 1) hx hb dX6_tellApart_5 (by decide) ?_
  refine km_ci (va_runV (As := [.int (bI false), .int (nI 1)]) (rest := []) ⟨hx, hb, hml, hown, hts⟩ (m_X6_start l dC dI am M false 1 (by omega)) (cwV 2 hts gX6_tellApart_X6_start rfl rfl rfl hdX6_start_2 ⟨Nat.le_of_ble_eq_true rfl, Nat.le_of_ble_eq_true rfl⟩) (hX.preObj) rfl rfl hl.1 rfl (lv_room (Nat.le_of_ble_eq_true rfl)) dX6_tellApart_6 ⟨Nat.le_of_ble_eq_true rfl, Nat.le_of_ble_eq_true rfl⟩) hX (fun _ h => h) (fun r_ S_ H locs hw hX => ?_)
  obtain ⟨rfl, rfl⟩ := hw
  refine kb_if_ne (tgt := 39) hx hb dX6_tellApart_9 (by decide) (fun k_1 => absurd k_1 (by decide)) (fun k_1 => ?_)
  refine lv_aload_n hx hb dX6_tellApart_12 rfl (lv_at hl 0 rfl) ?_
  refine lv_iload_n hx hb dX6_tellApart_13 rfl (lv_at hl 2 rfl) ?_
  refine kx_cr (v := bI true) (va_runS (As := [.int x9]) (rest := [.ref (am 0)]) ⟨hx, hb, hml, hown, hts⟩ (m_X6_isNoValue l dC dI am (mN M (0, M.2.2.2.1, M.2.2.2.2.1, M.2.2.2.2.2)) x9) (va_cwS 1 hts gX6_tellApart_X6_isNoValue rfl rfl rfl hdX6_isNoValue_1.2 ⟨Nat.le_of_ble_eq_true rfl, Nat.le_of_ble_eq_true rfl⟩) hX.preS rfl rfl hl.1 rfl (lv_room (Nat.le_of_ble_eq_true rfl)) dX6_tellApart_14 ⟨Nat.le_of_ble_eq_true rfl, Nat.le_of_ble_eq_true rfl⟩) (fun _ h => h.trans (isNo_bad hb9)) ?_
  refine kb_if_ne (tgt := 27) hx hb dX6_tellApart_17 (by decide) (fun k_2 => ?_) (fun k_2 => absurd k_2 (by decide))
  refine lv_iconst (v := nI 1) hx hb dX6_tellApart_27 (by decide) ?_
  refine lv_goto (tgt := 32) hx hb dX6_tellApart_28 (by decide) ?_
  refine lv_iconst (v := nI 2) hx hb dX6_tellApart_32 (by decide) ?_
  refine km_ci (va_runV (As := [.int (nI 1), .int (nI 2)]) (rest := []) ⟨hx, hb, hml, hown, hts⟩ (m_X6_refuse l dC dI am (mN M (0, M.2.2.2.1, M.2.2.2.2.1, M.2.2.2.2.2)) true 2 (by omega) rfl) (cwV 2 hts gX6_tellApart_X6_refuse rfl rfl rfl hdX6_refuse_2 ⟨Nat.le_of_ble_eq_true rfl, Nat.le_of_ble_eq_true rfl⟩) (hX.preObj) rfl rfl hl.1 rfl (lv_room (Nat.le_of_ble_eq_true rfl)) dX6_tellApart_33 ⟨Nat.le_of_ble_eq_true rfl, Nat.le_of_ble_eq_true rfl⟩) hX (fun _ h => h) (fun r_ S_ H locs hw hX => ?_)
  obtain ⟨rfl, rfl⟩ := hw
  refine kb_if_eq (tgt := 41) hx hb dX6_tellApart_36 (by decide) (fun k_3 => absurd k_3 (by decide)) (fun k_3 => ?_)
  refine lv_iconst (v := nI 0) hx hb dX6_tellApart_39 (by decide) ?_
  exact W.iret (v := nI 0) hx hb hr (fun t9 ht9 hW9 => ⟨⟨_, (mN M (2, M.2.2.2.1, M.2.2.2.2.1, M.2.2.2.2.2)), rfl, rfl, hX.P ht9 hW9⟩, hX.2.2.2.F ht9⟩) hX.2.2.2.2.2 dX6_tellApart_40
set_option maxHeartbeats 4000000 in
set_option maxRecDepth 100000 in
theorem o_X6_tellApart_3 (l : Launch) (dC : Nat → ClassId) (dI : Nat → Nat → Nat) (am : Nat → Nat) (M : MS) (j : Nat) (v : Nat) (x9 : Int32) (hj : j < 4) (hv : v < 16) (hb9 : x9 < 0 ∨ nI 15 < x9) (hI : InvM M) : Met l yX6_tellApart wsX6_tellApart ({ frames := 4, cells := 0, slots := 0, locals := 93 } : Room) (va_Pc [.ref (am 0), .int (nI j), .int (nI v), .int x9] (PM dC dI am M)) (va_Qi (fun r M' => M' = thM M 2) (PM dC dI am) (AM am)) 0 0 (AM am) := by
  refine Met.ofW (cc := cX6_tellApart) (maxL := 8) (ret := (some .int)) pl_X6 rfl ?_
  intro p e s m args below meth c s₁ B hml hv
  obtain ⟨rfl, hPX⟩ := hv
  have hx := B.exec
  have hb := B.bytes
  have hr := B.returns
  have hts := atoms_spec (ws := wsX6_tellApart) B.pre
  have hown : s.vm.findClass RX6 = some m.cls := findClass_of_methodNamed B.named
  have hlocks := B.notSynchronized
  have hin6 : ∀ w ∈ u_ws RX6 TX6 10, w ∈ wsX6_tellApart := tu 1331 (by decide +kernel) rfl
  have hX := WM.of hPX
  have hl := lv_entry ([.ref (am 0), .int (nI j), .int (nI v), .int x9]) (n := 8) (Nat.le_of_ble_eq_true rfl)
  rw [lg_entry_eq]
  generalize (lg_sl ([.ref (am 0), .int (nI j), .int (nI v), .int x9]) ++ List.replicate (8 - (lg_sl ([.ref (am 0), .int (nI j), .int (nI v), .int x9])).length) Slot.unset).toArray = ls at hl ⊢
  have hl : lv_has ls 8 [(0, .ref (am 0)), (1, .int (nI j)), (2, .int (nI v)), (3, .int x9)] := hl
  show W p l e ({ frames := 4, cells := 0, slots := 0, locals := 93 } : Room) s m ([.ref (am 0), .int (nI j), .int (nI v), .int x9]).toArray below meth c s.heap [] 0 0 (MQ below (va_Qi (fun r M' => M' = thM M 2) (PM dC dI am) (AM am)) ([.ref (am 0), .int (nI j), .int (nI v), .int x9]).toArray s 0 0 (AM am)) (F0 m 0 ls [])
  refine lv_aload_n hx hb dX6_tellApart_0 rfl (lv_at hl 0 rfl) ?_
  refine lv_iload_n hx hb dX6_tellApart_1 rfl (lv_at hl 1 rfl) ?_
  refine kx_cr (v := bI false) (va_runS (As := [.int (nI j)]) (rest := [.ref (am 0)]) ⟨hx, hb, hml, hown, hts⟩ (m_X6_isNoOrder l dC dI am M (nI j)) (va_cwS 1 hts gX6_tellApart_X6_isNoOrder rfl rfl rfl hdX6_isNoOrder_1.2 ⟨Nat.le_of_ble_eq_true rfl, Nat.le_of_ble_eq_true rfl⟩) hX.preS rfl rfl hl.1 rfl (lv_room (Nat.le_of_ble_eq_true rfl)) dX6_tellApart_2 ⟨Nat.le_of_ble_eq_true rfl, Nat.le_of_ble_eq_true rfl⟩) (fun _ h => h.trans (isNo_ok (by omega) (by omega))) ?_
  refine lv_iconst (v := nI 1) hx hb dX6_tellApart_5 (by decide) ?_
  refine km_ci (va_runV (As := [.int (bI false), .int (nI 1)]) (rest := []) ⟨hx, hb, hml, hown, hts⟩ (m_X6_start l dC dI am M false 1 (by omega)) (cwV 2 hts gX6_tellApart_X6_start rfl rfl rfl hdX6_start_2 ⟨Nat.le_of_ble_eq_true rfl, Nat.le_of_ble_eq_true rfl⟩) (hX.preObj) rfl rfl hl.1 rfl (lv_room (Nat.le_of_ble_eq_true rfl)) dX6_tellApart_6 ⟨Nat.le_of_ble_eq_true rfl, Nat.le_of_ble_eq_true rfl⟩) hX (fun _ h => h) (fun r_ S_ H locs hw hX => ?_)
  obtain ⟨rfl, rfl⟩ := hw
  refine kb_if_ne (tgt := 39) hx hb dX6_tellApart_9 (by decide) (fun k_1 => absurd k_1 (by decide)) (fun k_1 => ?_)
  refine lv_aload_n hx hb dX6_tellApart_12 rfl (lv_at hl 0 rfl) ?_
  refine lv_iload_n hx hb dX6_tellApart_13 rfl (lv_at hl 2 rfl) ?_
  refine kx_cr (v := bI false) (va_runS (As := [.int (nI v)]) (rest := [.ref (am 0)]) ⟨hx, hb, hml, hown, hts⟩ (m_X6_isNoValue l dC dI am (mN M (0, M.2.2.2.1, M.2.2.2.2.1, M.2.2.2.2.2)) (nI v)) (va_cwS 1 hts gX6_tellApart_X6_isNoValue rfl rfl rfl hdX6_isNoValue_1.2 ⟨Nat.le_of_ble_eq_true rfl, Nat.le_of_ble_eq_true rfl⟩) hX.preS rfl rfl hl.1 rfl (lv_room (Nat.le_of_ble_eq_true rfl)) dX6_tellApart_14 ⟨Nat.le_of_ble_eq_true rfl, Nat.le_of_ble_eq_true rfl⟩) (fun _ h => h.trans (isNo_ok (by omega) (by omega))) ?_
  refine kb_if_ne (tgt := 27) hx hb dX6_tellApart_17 (by decide) (fun k_2 => absurd k_2 (by decide)) (fun k_2 => ?_)
  refine lv_iload_n hx hb dX6_tellApart_20 rfl (lv_at hl 3 rfl) ?_
  refine kx_cr (v := bI true) (va_runS (As := [.int x9]) (rest := [.ref (am 0)]) ⟨hx, hb, hml, hown, hts⟩ (m_X6_isNoValue l dC dI am (mN M (0, M.2.2.2.1, M.2.2.2.2.1, M.2.2.2.2.2)) x9) (va_cwS 1 hts gX6_tellApart_X6_isNoValue rfl rfl rfl hdX6_isNoValue_1.2 ⟨Nat.le_of_ble_eq_true rfl, Nat.le_of_ble_eq_true rfl⟩) hX.preS rfl rfl hl.1 rfl (lv_room (Nat.le_of_ble_eq_true rfl)) dX6_tellApart_21 ⟨Nat.le_of_ble_eq_true rfl, Nat.le_of_ble_eq_true rfl⟩) (fun _ h => h.trans (isNo_bad hb9)) ?_
  refine kb_if_eq (tgt := 31) hx hb dX6_tellApart_24 (by decide) (fun k_3 => absurd k_3 (by decide)) (fun k_3 => ?_)
  refine lv_iconst (v := nI 1) hx hb dX6_tellApart_27 (by decide) ?_
  refine lv_goto (tgt := 32) hx hb dX6_tellApart_28 (by decide) ?_
  refine lv_iconst (v := nI 2) hx hb dX6_tellApart_32 (by decide) ?_
  refine km_ci (va_runV (As := [.int (nI 1), .int (nI 2)]) (rest := []) ⟨hx, hb, hml, hown, hts⟩ (m_X6_refuse l dC dI am (mN M (0, M.2.2.2.1, M.2.2.2.2.1, M.2.2.2.2.2)) true 2 (by omega) rfl) (cwV 2 hts gX6_tellApart_X6_refuse rfl rfl rfl hdX6_refuse_2 ⟨Nat.le_of_ble_eq_true rfl, Nat.le_of_ble_eq_true rfl⟩) (hX.preObj) rfl rfl hl.1 rfl (lv_room (Nat.le_of_ble_eq_true rfl)) dX6_tellApart_33 ⟨Nat.le_of_ble_eq_true rfl, Nat.le_of_ble_eq_true rfl⟩) hX (fun _ h => h) (fun r_ S_ H locs hw hX => ?_)
  obtain ⟨rfl, rfl⟩ := hw
  refine kb_if_eq (tgt := 41) hx hb dX6_tellApart_36 (by decide) (fun k_4 => absurd k_4 (by decide)) (fun k_4 => ?_)
  refine lv_iconst (v := nI 0) hx hb dX6_tellApart_39 (by decide) ?_
  exact W.iret (v := nI 0) hx hb hr (fun t9 ht9 hW9 => ⟨⟨_, (mN M (2, M.2.2.2.1, M.2.2.2.2.1, M.2.2.2.2.2)), rfl, rfl, hX.P ht9 hW9⟩, hX.2.2.2.F ht9⟩) hX.2.2.2.2.2 dX6_tellApart_40
