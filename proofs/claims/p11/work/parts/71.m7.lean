/-! what each of the reference's calls keeps -/
def LM (M M1 : MS) : Prop := InvM M1 ∧ M1.2.2.2.1 ≤ M.2.2.2.1 + 12 ∧ M1.2.2.2.2.1 ≤ M.2.2.2.2.1 + 1 ∧ M1.2.2.2.2.2 = M.2.2.2.2.2
section LMs
variable {M M1 : MS} {i j : Nat} {r : Int32}
theorem LM_th (hI : InvM M) (u : Nat) : LM M (thM M u) := ⟨hI, Nat.le_add_right _ _, Nat.le_add_right _ _, rfl⟩
theorem LM_ref (hI : InvM M) : LM M (refM M) := ⟨hI, Nat.le_add_right _ _, Nat.le_refl _, rfl⟩
theorem InvM_row (hI : InvM M) {i : Nat} {r : RowS} (hr : rowM r) : InvM (mR M i r) := ⟨fun k hk => by
  by_cases e : k = i
  · subst e; rw [mR_row]; exact hr
  · rw [mR_ne _ _ e]; exact hI.1 k hk, hI.2⟩
theorem InvM_ord (hI : InvM M) {j : Nat} {o : OrdM} (ho : ordM o) : InvM (mO M j o) := ⟨hI.1, fun k hk => by
  by_cases e : k = j
  · subst e; rw [mO_ord]; exact ho
  · rw [mO_ne _ _ e]; exact hI.2 k hk⟩
theorem LM_row (hI : InvM M) {r : RowS} (hr : rowM r) {k : Nat} (hk : k ≤ 12) : LM M (mR (mN M (0, M.2.2.2.1 + k, M.2.2.2.2)) i r) := ⟨InvM_row (M := mN M (0, M.2.2.2.1 + k, M.2.2.2.2)) hI hr, Nat.add_le_add_left hk _, Nat.le_add_right _ _, rfl⟩
theorem LM_row0 (hI : InvM M) {r : RowS} (hr : rowM r) : LM M (mR (thM M 0) i r) := ⟨InvM_row (M := thM M 0) hI hr, Nat.le_add_right _ _, Nat.le_add_right _ _, rfl⟩
theorem LM_ord (hI : InvM M) {o : OrdM} (ho : ordM o) : LM M (mO (thM M 0) j o) := ⟨InvM_ord (M := thM M 0) hI ho, Nat.le_add_right _ _, Nat.le_add_right _ _, rfl⟩
theorem upM_lt {f : Nat → Nat} {a v N : Nat} (h : ∀ k, k < 12 → f k < N) (hv : v < N) : ∀ k, k < 12 → va_up f a v k < N := fun k hk => by
  unfold va_up
  split
  · exact hv
  · exact h k hk
theorem shrM_lt {f : Nat → Nat} {n a N : Nat} (h : ∀ k, k < 12 → f k < N) : ∀ k, k < 12 → shr f n a k < N := fun k hk => by
  unfold shr
  split
  · exact h _ (by omega)
  · exact h _ hk
theorem shlM_lt {f : Nat → Nat} {q a N : Nat} (ha : a < 12) (h : ∀ k, k < 12 → f k < N) : ∀ k, k < 12 → shl f q a k < N := fun k hk => by
  unfold shl
  split
  · exact h _ (by omega)
  · exact h _ hk
theorem ovlM_lt {f g : Nat → Nat} {n N : Nat} (h : ∀ k, k < 12 → f k < N) (h2 : ∀ k, k < 12 → g k < N) : ∀ k, k < 12 → ovl f g n k < N := fun k hk => by
  unfold ovl
  split
  · exact h _ hk
  · exact h2 _ hk
theorem revM_lt {f : Nat → Nat} {n a N : Nat} (hn : n ≤ 12) (h : ∀ k, k < 12 → f k < N) : ∀ k, k < 12 → rev f n a k < N := fun k hk => by
  unfold rev
  split
  · exact h _ (by omega)
  · exact h _ hk
theorem rowM_of {f g : Nat → Nat} {n : Nat} (hn : n ≤ 12) (h : ∀ k, k < 12 → f k < 16) (h2 : ∀ k, k < 12 → g k < 1000000) : rowM (f, g, n) := ⟨hn, fun k hk => ⟨h k hk, h2 k hk⟩⟩
theorem rowM_ins {r : RowS} (h : rowM r) {q v u : Nat} (hn : r.2.2 < 12) (hv : v < 16) (hu : u < 1000000) : rowM (va_up (shr r.1 r.2.2 q) q v, va_up (shr r.2.1 r.2.2 q) q u, r.2.2 + 1) :=
  rowM_of (by omega) (upM_lt (shrM_lt (fun k hk => (h.2 k hk).1)) hv) (upM_lt (shrM_lt (fun k hk => (h.2 k hk).2)) hu)
theorem rowM_fill {r : RowS} (h : rowM r) {f g : Nat → Nat} {k : Nat} (hn : r.2.2 + k ≤ 12) (hf : ∀ x, f x < 16) (hg : ∀ x, x < k → g x < 1000000) : rowM (apn r.1 f r.2.2 k, apn r.2.1 g r.2.2 k, r.2.2 + k) :=
  rowM_of hn (fun y hy => by
    unfold apn
    split
    · exact hf _
    · exact (h.2 y hy).1) (fun y hy => by
    unfold apn
    split
    · exact hg _ (by omega)
    · exact (h.2 y hy).2)
theorem rowM_rem {r : RowS} (h : rowM r) {q : Nat} (hq : q < r.2.2) : rowM (shl r.1 q (r.2.2 - 1), shl r.2.1 q (r.2.2 - 1), r.2.2 - 1) :=
  rowM_of (by have := h.1; omega) (shlM_lt (by have := h.1; omega) (fun k hk => (h.2 k hk).1)) (shlM_lt (by have := h.1; omega) (fun k hk => (h.2 k hk).2))
theorem rowM_0 {r : RowS} (h : rowM r) : rowM (r.1, r.2.1, 0) := ⟨Nat.zero_le _, h.2⟩
theorem rowM_ovl {r t : RowS} (h : rowM r) (h2 : rowM t) : rowM (ovl t.1 r.1 t.2.2, ovl t.2.1 r.2.1 t.2.2, t.2.2) :=
  rowM_of h2.1 (ovlM_lt (fun k hk => (h2.2 k hk).1) (fun k hk => (h.2 k hk).1)) (ovlM_lt (fun k hk => (h2.2 k hk).2) (fun k hk => (h.2 k hk).2))
theorem rowM_rev {r : RowS} (h : rowM r) : rowM (rev r.1 r.2.2 r.2.2, rev r.2.1 r.2.2 r.2.2, r.2.2) :=
  rowM_of h.1 (revM_lt h.1 (fun k hk => (h.2 k hk).1)) (revM_lt h.1 (fun k hk => (h.2 k hk).2))
theorem rowM_xch {r : RowS} (h : rowM r) {a b : Nat} (ha : a < 12) (hb : b < 12) : rowM (xch r.1 a b, xch r.2.1 a b, r.2.2) :=
  rowM_of h.1 (xchM_lt (fun k hk => (h.2 k hk).1) ha hb) (xchM_lt (fun k hk => (h.2 k hk).2) ha hb)
theorem rotI_lt {f : Nat → Nat} {n N : Nat} (hn : n ≤ 12) (hn0 : 0 < n) (h : ∀ k, k < 12 → f k < N) : ∀ sh k, k < 12 → rotI f n sh k < N
  | 0, k, hk => h k hk
  | sh + 1, k, hk => car_lt (rotI_lt hn hn0 h sh) hn hn0 hk
theorem rowM_srt (hI : InvM M) {i j q q2 : Nat} (hi : i < 3) (hq : q ≤ q2) (hq2 : q2 ≤ (M.1 i).2.2) : rowM ((srtM M i j q q2).1, (srtM M i j q q2).2, (M.1 i).2.2) := by
  have hn := (hI.1 i hi).1
  exact ⟨hn, prOK_rnd (p := ((M.1 i).1, (M.1 i).2.1)) (hI.1 i hi).2 (by omega) _⟩
theorem LM_put {q v : Nat} (hI : InvM M) (hc : M.2.2.2.1 + 12 < 1000000) (hi : i < 3) (hv : v < 16) (hw : ((M.1 i).2.2 < 12 ∧ r = nI M.2.2.2.1 ∧ M1 = placeM (thM M 0) i q v) ∨ (12 ≤ (M.1 i).2.2 ∧ r = -9 ∧ M1 = refM M)) : LM M M1 := by
  rcases hw with ⟨h1, -, rfl⟩ | ⟨-, -, rfl⟩
  · exact LM_row hI (rowM_ins (hI.1 i hi) h1 hv (show M.2.2.2.1 < 1000000 by omega)) (k := 1) (by omega)
  · exact LM_ref hI
theorem LM_fill {k k2 k3 : Nat} {P P2 : Prop} (hI : InvM M) (hc : M.2.2.2.1 + 12 < 1000000) (hi : i < 3) (hk : k ≤ 12) (hw : ((M.1 i).2.2 + k ≤ 12 ∧ P ∧ M1 = mR (mN M (0, M.2.2.2.1 + k, M.2.2.2.2)) i (apn (M.1 i).1 (fun x => (k2 + x * k3) % 16) (M.1 i).2.2 k, apn (M.1 i).2.1 (fun x => M.2.2.2.1 + x) (M.1 i).2.2 k, (M.1 i).2.2 + k)) ∨ (P2 ∧ r = -9 ∧ M1 = refM M)) : LM M M1 := by
  rcases hw with ⟨h1, -, rfl⟩ | ⟨-, -, rfl⟩
  · exact LM_row hI (rowM_fill (hI.1 i hi) h1 (fun x => Nat.mod_lt _ (by decide)) (fun x hx => by omega)) hk
  · exact LM_ref hI
theorem LM_two {P P2 P3 : Prop} (hI : InvM M) (hw : (P ∧ P2 ∧ M1 = refM M) ∨ (P3 ∧ M1 = thM M 0)) : LM M M1 := by
  rcases hw with ⟨-, -, rfl⟩ | ⟨-, rfl⟩
  · exact LM_ref hI
  · exact LM_th hI 0
theorem LM_tell {v v2 : Nat} {P P2 P3 : Prop} (hI : InvM M) (hj : j < 4) (hw : (P ∧ P2 ∧ (M.2.1 j).2.2 < 5 ∧ r = nI (coarse (coaM M j) (keyApart v v2) 8).2 ∧ ∃ (K9 : Nat → Nat) (D9 : Nat → Bool), (∀ x, x < (M.2.1 j).2.2 → K9 x = (M.2.1 j).1 x ∧ D9 x = (M.2.1 j).2.1 x) ∧ (∀ x, x < 5 → K9 x < 8) ∧ M1 = mO (thM M 0) j (va_up K9 (M.2.1 j).2.2 (coarse (coaM M j) (keyApart v v2) 8).2, va_up D9 (M.2.1 j).2.2 false, (M.2.1 j).2.2 + 1)) ∨ (P3 ∧ r = -9 ∧ M1 = refM M)) : LM M M1 := by
  rcases hw with ⟨-, -, h1, -, K9, D9, -, h9, rfl⟩ | ⟨-, -, rfl⟩
  · exact LM_ord hI (ordM_add (o := (K9, D9, (M.2.1 j).2.2)) ⟨by show (M.2.1 j).2.2 ≤ 5; omega, h9⟩ h1 (coarse_lt _ _ 8 (by omega)))
  · exact LM_ref hI
end LMs
set_option maxHeartbeats 4000000 in
set_option maxRecDepth 100000 in
theorem n_X6_tellApart (l : Launch) (dC : Nat → ClassId) (dI : Nat → Nat → Nat) (am : Nat → Nat) (M : MS) (j : Nat) (v : Nat) (v2 : Nat) (hj : j < 4) (hv : v < 16) (hv2 : v2 < 16) (hI : InvM M) : Met l yX6_tellApart wsX6_tellApart ({ frames := 4, cells := 0, slots := 0, locals := 93 } : Room) (va_Pc [.ref (am 0), .int (nI j), .int (nI v), .int (nI v2)] (PM dC dI am M)) (va_Qi (fun r M' => (v ≠ v2 ∧ cM M j v = cM M j v2 ∧ (M.2.1 j).2.2 < 5 ∧ r = nI (coarse (coaM M j) (keyApart v v2) 8).2 ∧ ∃ (K9 : Nat → Nat) (D9 : Nat → Bool), (∀ x, x < (M.2.1 j).2.2 → K9 x = (M.2.1 j).1 x ∧ D9 x = (M.2.1 j).2.1 x) ∧ (∀ x, x < 5 → K9 x < 8) ∧ M' = mO (thM M 0) j (va_up K9 (M.2.1 j).2.2 (coarse (coaM M j) (keyApart v v2) 8).2, va_up D9 (M.2.1 j).2.2 false, (M.2.1 j).2.2 + 1)) ∨ ((v = v2 ∨ cM M j v ≠ cM M j v2 ∨ 5 ≤ (M.2.1 j).2.2) ∧ r = -9 ∧ M' = refM M)) (PM dC dI am) (AM am)) 0 0 (AM am) := by
  refine Met.ofW (cc := cX6_tellApart) (maxL := 8) (ret := (some .int)) pl_X6 rfl ?_
  intro p e s m args below meth c s₁ B hml hv
  obtain ⟨rfl, hPX⟩ := hv
  have hx := B.exec
  have hb := B.bytes
  have hr := B.returns
  have hts := atoms_spec (ws := wsX6_tellApart) B.pre
  have hown : s.vm.findClass RX6 = some m.cls := findClass_of_methodNamed B.named
  have hlocks := B.notSynchronized
  have hin6 : ∀ w ∈ u_ws RX6 TX6 10, w ∈ wsX6_tellApart := tu 1331 (by decide +kernel) rfl
  have hX := WM.of hPX
  have hl := lv_entry ([.ref (am 0), .int (nI j), .int (nI v), .int (nI v2)]) (n := 8) (Nat.le_of_ble_eq_true rfl)
  rw [lg_entry_eq]
  generalize (lg_sl ([.ref (am 0), .int (nI j), .int (nI v), .int (nI v2)]) ++ List.replicate (8 - (lg_sl ([.ref (am 0), .int (nI j), .int (nI v), .int (nI v2)])).length) Slot.unset).toArray = ls at hl ⊢
  have hl : lv_has ls 8 [(0, .ref (am 0)), (1, .int (nI j)), (2, .int (nI v)), (3, .int (nI v2))] := hl
  show W p l e ({ frames := 4, cells := 0, slots := 0, locals := 93 } : Room) s m ([.ref (am 0), .int (nI j), .int (nI v), .int (nI v2)]).toArray below meth c s.heap [] 0 0 (MQ below (va_Qi (fun r M' => (v ≠ v2 ∧ cM M j v = cM M j v2 ∧ (M.2.1 j).2.2 < 5 ∧ r = nI (coarse (coaM M j) (keyApart v v2) 8).2 ∧ ∃ (K9 : Nat → Nat) (D9 : Nat → Bool), (∀ x, x < (M.2.1 j).2.2 → K9 x = (M.2.1 j).1 x ∧ D9 x = (M.2.1 j).2.1 x) ∧ (∀ x, x < 5 → K9 x < 8) ∧ M' = mO (thM M 0) j (va_up K9 (M.2.1 j).2.2 (coarse (coaM M j) (keyApart v v2) 8).2, va_up D9 (M.2.1 j).2.2 false, (M.2.1 j).2.2 + 1)) ∨ ((v = v2 ∨ cM M j v ≠ cM M j v2 ∨ 5 ≤ (M.2.1 j).2.2) ∧ r = -9 ∧ M' = refM M)) (PM dC dI am) (AM am)) ([.ref (am 0), .int (nI j), .int (nI v), .int (nI v2)]).toArray s 0 0 (AM am)) (F0 m 0 ls [])
  have hn := (hI.2 j (by omega)).1
  refine lv_aload_n hx hb dX6_tellApart_0 rfl (lv_at hl 0 rfl) ?_
  refine lv_iload_n hx hb dX6_tellApart_1 rfl (lv_at hl 1 rfl) ?_
  refine kx_cr (v := bI false) (va_runS (As := [.int (nI j)]) (rest := [.ref (am 0)]) ⟨hx, hb, hml, hown, hts⟩ (m_X6_isNoOrder l dC dI am M (nI j)) (va_cwS 1 hts gX6_tellApart_X6_isNoOrder rfl rfl rfl hdX6_isNoOrder_1.2 ⟨Nat.le_of_ble_eq_true rfl, Nat.le_of_ble_eq_true rfl⟩) hX.preS rfl rfl hl.1 rfl (lv_room (Nat.le_of_ble_eq_true rfl)) dX6_tellApart_2 ⟨Nat.le_of_ble_eq_true rfl, Nat.le_of_ble_eq_true rfl⟩) (fun _ h => h.trans (isNo_ok (by omega) (by omega))) ?_
  refine lv_iconst (v := nI 1) hx hb dX6_tellApart_5 (by decide) ?_
  refine km_ci (va_runV (As := [.int (bI false), .int (nI 1)]) (rest := []) ⟨hx, hb, hml, hown, hts⟩ (m_X6_start l dC dI am M false 1 (by omega)) (cwV 2 hts gX6_tellApart_X6_start rfl rfl rfl hdX6_start_2 ⟨Nat.le_of_ble_eq_true rfl, Nat.le_of_ble_eq_true rfl⟩) (hX.preObj) rfl rfl hl.1 rfl (lv_room (Nat.le_of_ble_eq_true rfl)) dX6_tellApart_6 ⟨Nat.le_of_ble_eq_true rfl, Nat.le_of_ble_eq_true rfl⟩) hX (fun _ h => h) (fun r_ S_ H locs hw hX => ?_)
  obtain ⟨rfl, rfl⟩ := hw
  refine kb_if_ne (tgt := 39) hx hb dX6_tellApart_9 (by decide) (fun k_1 => absurd k_1 (by decide)) (fun k_1 => ?_)
  refine lv_aload_n hx hb dX6_tellApart_12 rfl (lv_at hl 0 rfl) ?_
  refine lv_iload_n hx hb dX6_tellApart_13 rfl (lv_at hl 2 rfl) ?_
  refine kx_cr (v := bI false) (va_runS (As := [.int (nI v)]) (rest := [.ref (am 0)]) ⟨hx, hb, hml, hown, hts⟩ (m_X6_isNoValue l dC dI am (mN M (0, M.2.2.2.1, M.2.2.2.2.1, M.2.2.2.2.2)) (nI v)) (va_cwS 1 hts gX6_tellApart_X6_isNoValue rfl rfl rfl hdX6_isNoValue_1.2 ⟨Nat.le_of_ble_eq_true rfl, Nat.le_of_ble_eq_true rfl⟩) hX.preS rfl rfl hl.1 rfl (lv_room (Nat.le_of_ble_eq_true rfl)) dX6_tellApart_14 ⟨Nat.le_of_ble_eq_true rfl, Nat.le_of_ble_eq_true rfl⟩) (fun _ h => h.trans (isNo_ok (by omega) (by omega))) ?_
  refine kb_if_ne (tgt := 27) hx hb dX6_tellApart_17 (by decide) (fun k_2 => absurd k_2 (by decide)) (fun k_2 => ?_)
  refine lv_iload_n hx hb dX6_tellApart_20 rfl (lv_at hl 3 rfl) ?_
  refine kx_cr (v := bI false) (va_runS (As := [.int (nI v2)]) (rest := [.ref (am 0)]) ⟨hx, hb, hml, hown, hts⟩ (m_X6_isNoValue l dC dI am (mN M (0, M.2.2.2.1, M.2.2.2.2.1, M.2.2.2.2.2)) (nI v2)) (va_cwS 1 hts gX6_tellApart_X6_isNoValue rfl rfl rfl hdX6_isNoValue_1.2 ⟨Nat.le_of_ble_eq_true rfl, Nat.le_of_ble_eq_true rfl⟩) hX.preS rfl rfl hl.1 rfl (lv_room (Nat.le_of_ble_eq_true rfl)) dX6_tellApart_21 ⟨Nat.le_of_ble_eq_true rfl, Nat.le_of_ble_eq_true rfl⟩) (fun _ h => h.trans (isNo_ok (by omega) (by omega))) ?_
  refine kb_if_eq (tgt := 31) hx hb dX6_tellApart_24 (by decide) (fun k_3 => ?_) (fun k_3 => absurd k_3 (by decide))
  refine lv_iconst (v := nI 0) hx hb dX6_tellApart_31 (by decide) ?_
  refine lv_iconst (v := nI 2) hx hb dX6_tellApart_32 (by decide) ?_
  refine km_ci (va_runV (As := [.int (nI 0), .int (nI 2)]) (rest := []) ⟨hx, hb, hml, hown, hts⟩ (m_X6_refuse l dC dI am (mN M (0, M.2.2.2.1, M.2.2.2.2.1, M.2.2.2.2.2)) false 2 (by omega) rfl) (cwV 2 hts gX6_tellApart_X6_refuse rfl rfl rfl hdX6_refuse_2 ⟨Nat.le_of_ble_eq_true rfl, Nat.le_of_ble_eq_true rfl⟩) (hX.preObj) rfl rfl hl.1 rfl (lv_room (Nat.le_of_ble_eq_true rfl)) dX6_tellApart_33 ⟨Nat.le_of_ble_eq_true rfl, Nat.le_of_ble_eq_true rfl⟩) hX (fun _ h => h) (fun r_ S_ H locs hw hX => ?_)
  obtain ⟨rfl, rfl⟩ := hw
  refine kb_if_eq (tgt := 41) hx hb dX6_tellApart_36 (by decide) (fun k_4 => ?_) (fun k_4 => absurd k_4 (by decide))
  refine lv_aload_n hx hb dX6_tellApart_41 rfl (lv_at hl 0 rfl) ?_
  refine lv_iload_n hx hb dX6_tellApart_42 rfl (lv_at hl 1 rfl) ?_
  refine lv_iload_n hx hb dX6_tellApart_43 rfl (lv_at hl 2 rfl) ?_
  refine lv_iload_n hx hb dX6_tellApart_44 rfl (lv_at hl 3 rfl) ?_
  refine kx_cr (v := cmpI (cM M j v) (cM M j v2)) (va_runV (As := [.int (nI j), .int (nI v), .int (nI v2)]) (rest := []) ⟨hx, hb, hml, hown, hts⟩ (m_X6_compareNow l dC dI am (mN M (0, M.2.2.2.1, M.2.2.2.2.1, M.2.2.2.2.2)) j v v2 (by omega) (hI.2 j (by omega)) (by omega) (by omega)) (cwV 3 hts gX6_tellApart_X6_compareNow rfl rfl rfl hdX6_compareNow_3 ⟨Nat.le_of_ble_eq_true rfl, Nat.le_of_ble_eq_true rfl⟩) (hX.preObj) rfl rfl hl.1 rfl (lv_room (Nat.le_of_ble_eq_true rfl)) dX6_tellApart_45 ⟨Nat.le_of_ble_eq_true rfl, Nat.le_of_ble_eq_true rfl⟩) (fun _ h => h) ?_
  refine kc_if_ne (tgt := 66) hx hb dX6_tellApart_48 (by decide) (fun k_5 => ?_) (fun k_5 => ?_)
  · skip
    have h48 := k_5
    refine lv_aload_n hx hb dX6_tellApart_66 rfl (lv_at hl 0 rfl) ?_
    refine km_ci (va_runV (As := []) (rest := []) ⟨hx, hb, hml, hown, hts⟩ (m_X6_no l dC dI am (mN M (0, M.2.2.2.1, M.2.2.2.2.1, M.2.2.2.2.2)) ) (cwV 0 hts gX6_tellApart_X6_no rfl rfl rfl hdX6_no_0 ⟨Nat.le_of_ble_eq_true rfl, Nat.le_of_ble_eq_true rfl⟩) (hX.preObj) rfl rfl hl.1 rfl (lv_room (Nat.le_of_ble_eq_true rfl)) dX6_tellApart_67 ⟨Nat.le_of_ble_eq_true rfl, Nat.le_of_ble_eq_true rfl⟩) hX (fun _ h => h) (fun r_ S_ H locs hw hX => ?_)
    obtain ⟨rfl, rfl⟩ := hw
    exact W.iret (v := (-9)) hx hb hr (fun t9 ht9 hW9 => ⟨⟨_, (mN M (0, M.2.2.2.1, M.2.2.2.2.1 + 1, M.2.2.2.2.2)), rfl, (Or.inr ⟨Or.inr (Or.inl h48), rfl, rfl⟩), hX.P ht9 hW9⟩, hX.2.2.2.F ht9⟩) hX.2.2.2.2.2 dX6_tellApart_70
  · skip
    have h48 := k_5
    refine lv_iload_n hx hb dX6_tellApart_51 rfl (lv_at hl 2 rfl) ?_
    refine lv_iload_n hx hb dX6_tellApart_52 rfl (lv_at hl 3 rfl) ?_
    refine kn_icmp_eq (tgt := 66) hx hb (by omega) (by omega) dX6_tellApart_53 (by decide) (fun k_6 => ?_) (fun k_6 => ?_)
    · skip
      have h53 := k_6
      refine lv_aload_n hx hb dX6_tellApart_66 rfl (lv_at hl 0 rfl) ?_
      refine km_ci (va_runV (As := []) (rest := []) ⟨hx, hb, hml, hown, hts⟩ (m_X6_no l dC dI am (mN M (0, M.2.2.2.1, M.2.2.2.2.1, M.2.2.2.2.2)) ) (cwV 0 hts gX6_tellApart_X6_no rfl rfl rfl hdX6_no_0 ⟨Nat.le_of_ble_eq_true rfl, Nat.le_of_ble_eq_true rfl⟩) (hX.preObj) rfl rfl hl.1 rfl (lv_room (Nat.le_of_ble_eq_true rfl)) dX6_tellApart_67 ⟨Nat.le_of_ble_eq_true rfl, Nat.le_of_ble_eq_true rfl⟩) hX (fun _ h => h) (fun r_ S_ H locs hw hX => ?_)
      obtain ⟨rfl, rfl⟩ := hw
      exact W.iret (v := (-9)) hx hb hr (fun t9 ht9 hW9 => ⟨⟨_, (mN M (0, M.2.2.2.1, M.2.2.2.2.1 + 1, M.2.2.2.2.2)), rfl, (Or.inr ⟨Or.inl h53, rfl, rfl⟩), hX.P ht9 hW9⟩, hX.2.2.2.F ht9⟩) hX.2.2.2.2.2 dX6_tellApart_70
    · skip
      have h53 := k_6
      refine lv_aload_n hx hb dX6_tellApart_56 rfl (lv_at hl 0 rfl) ?_
      refine km_gsteps hx hb hts hin6 hown hX (hts (.fieldLink RX6 29 "OrderlatticeModel" "steps" "[I") (tm 724 (by decide +kernel) rfl)) dX6_tellApart_57 ?_
      refine lv_iload_n hx hb dX6_tellApart_60 rfl (lv_at hl 1 rfl) ?_
      refine km_lt (v := (M.2.1 j).2.2) hx hb hX (by omega) rfl dX6_tellApart_61 ?_
      refine lv_iconst (v := nI 5) hx hb dX6_tellApart_62 (by decide) ?_
      refine kn_icmp_ne (tgt := 71) hx hb (by omega) (by omega) dX6_tellApart_63 (by decide) (fun k_7 => ?_) (fun k_7 => ?_)
      · skip
        have h63 := k_7
        refine lv_iconst (v := (-1)) hx hb dX6_tellApart_71 (by decide) ?_
        refine lv_istore (lv' := [(4, .int (-1)), (0, .ref (am 0)), (1, .int (nI j)), (2, .int (nI v)), (3, .int (nI v2))]) hx hb dX6_tellApart_72 hl (by decide) rfl (fun ls hl => ?_)
        refine lv_bipush (v := nI 17) hx hb dX6_tellApart_74 (by decide) ?_
        refine lv_istore (lv' := [(5, .int (nI 17)), (4, .int (-1)), (0, .ref (am 0)), (1, .int (nI j)), (2, .int (nI v)), (3, .int (nI v2))]) hx hb dX6_tellApart_76 hl (by decide) rfl (fun ls hl => ?_)
        refine lv_iconst (v := nI 0) hx hb dX6_tellApart_78 (by decide) ?_
        refine lv_istore (lv' := [(6, .int (nI 0)), (5, .int (nI 17)), (4, .int (-1)), (0, .ref (am 0)), (1, .int (nI j)), (2, .int (nI v)), (3, .int (nI v2))]) hx hb dX6_tellApart_79 hl (by decide) rfl (fun ls hl => ?_)
        have loop81 : ∀ (fuel : Nat) (K9 : Nat → Nat) (D9 : Nat → Bool) (x4 : Int32) (bb fw k : Nat) (hag : ∀ x, x < (M.2.1 j).2.2 → K9 x = (M.2.1 j).1 x ∧ D9 x = (M.2.1 j).2.1 x) (ho9 : ordM (K9, D9, (M.2.1 j).2.2)) (hk : k ≤ 8) (hx4 : 0 < k → x4 = nI bb) (hq : (fw, bb) = coarse (coaM M j) (keyApart v v2) k) (H : Heap) (locs : List Loc), 8 - k < fuel → WM dC dI am (mO (mN M (0, M.2.2.2.1, M.2.2.2.2.1, M.2.2.2.2.2)) j (K9, D9, (M.2.1 j).2.2)) [] (AM am) s H locs → ∀ ls : Array Slot, lv_has ls 8 [(0, .ref (am 0)), (1, .int (nI j)), (2, .int (nI v)), (3, .int (nI v2)), (4, .int x4), (5, .int (nI fw)), (6, .int (nI k))] → W p l e ({ frames := 4, cells := 0, slots := 0, locals := 93 } : Room) s m ([.ref (am 0), .int (nI j), .int (nI v), .int (nI v2)]).toArray below meth c H locs 0 0 (MQ below (va_Qi (fun r M' => (v ≠ v2 ∧ cM M j v = cM M j v2 ∧ (M.2.1 j).2.2 < 5 ∧ r = nI (coarse (coaM M j) (keyApart v v2) 8).2 ∧ ∃ (K9 : Nat → Nat) (D9 : Nat → Bool), (∀ x, x < (M.2.1 j).2.2 → K9 x = (M.2.1 j).1 x ∧ D9 x = (M.2.1 j).2.1 x) ∧ (∀ x, x < 5 → K9 x < 8) ∧ M' = mO (thM M 0) j (va_up K9 (M.2.1 j).2.2 (coarse (coaM M j) (keyApart v v2) 8).2, va_up D9 (M.2.1 j).2.2 false, (M.2.1 j).2.2 + 1)) ∨ ((v = v2 ∨ cM M j v ≠ cM M j v2 ∨ 5 ≤ (M.2.1 j).2.2) ∧ r = -9 ∧ M' = refM M)) (PM dC dI am) (AM am)) ([.ref (am 0), .int (nI j), .int (nI v), .int (nI v2)]).toArray s 0 0 (AM am)) (F0 m 81 ls []) := by
          intro fuel
          induction fuel with
          | zero => intro K9 D9 x4 bb fw k hag ho9 hk hx4 hq H locs hf; exact absurd hf (Nat.not_lt_zero _)
          | succ fuel ih81 =>
            intro K9 D9 x4 bb fw k hag ho9 hk hx4 hq H locs hf hX ls hl
            refine lv_iload hx hb dX6_tellApart_81 (lv_at hl 6 rfl) ?_
            refine lv_bipush (v := nI 8) hx hb dX6_tellApart_83 (by decide) ?_
            refine kn_icmp_ge (tgt := 155) hx hb (by omega) (by omega) dX6_tellApart_85 (by decide) (fun k_8 => ?_) (fun k_8 => ?_)
            · skip
              obtain rfl := hx4 (by omega)
              refine lv_aload_n hx hb dX6_tellApart_155 rfl (lv_at hl 0 rfl) ?_
              refine lv_iload_n hx hb dX6_tellApart_156 rfl (lv_at hl 1 rfl) ?_
              refine lv_iload hx hb dX6_tellApart_157 (lv_at hl 4 rfl) ?_
              refine lv_iconst (v := nI 0) hx hb dX6_tellApart_159 (by decide) ?_
              refine km_cv (va_runV (As := [.int (nI j), .int (nI bb), .int (nI 0)]) (rest := []) ⟨hx, hb, hml, hown, hts⟩ (m_X6_add l dC dI am (mO (mN M (0, M.2.2.2.1, M.2.2.2.2.1, M.2.2.2.2.2)) j (K9, D9, (M.2.1 j).2.2)) j bb false (by omega) (by rw [mO_ord]; show (M.2.1 j).2.2 < 5; omega)) (cwV 3 hts gX6_tellApart_X6_add rfl rfl rfl hdX6_add_3 ⟨Nat.le_of_ble_eq_true rfl, Nat.le_of_ble_eq_true rfl⟩) (hX.preObj) rfl rfl hl.1 rfl (lv_room (Nat.le_of_ble_eq_true rfl)) dX6_tellApart_160 ⟨Nat.le_of_ble_eq_true rfl, Nat.le_of_ble_eq_true rfl⟩) hX (fun _ h => h) (fun S_ H locs hw hX => ?_)
              rw [mO_ord, mO_mO] at hw
              subst hw
              refine lv_iload hx hb dX6_tellApart_163 (lv_at hl 4 rfl) ?_
              exact W.iret (v := nI bb) hx hb hr (fun t9 ht9 hW9 => ⟨⟨_, (mO (mN M (0, M.2.2.2.1, M.2.2.2.2.1, M.2.2.2.2.2)) j (va_up K9 ((M.2.1 j).2.2) bb, va_up D9 ((M.2.1 j).2.2) false, (M.2.1 j).2.2 + 1)), rfl, (Or.inl ⟨h53, h48, by omega, by rw [← show k = 8 by omega, ← hq], K9, D9, hag, ho9.2, by rw [← show k = 8 by omega, ← hq]⟩), hX.P ht9 hW9⟩, hX.2.2.2.F ht9⟩) hX.2.2.2.2.2 dX6_tellApart_165
            · skip
              have h1 := numK_lt (k := k) hv
              have h2 := numK_lt (k := k) hv2
              refine lv_iload hx hb dX6_tellApart_88 (lv_at hl 6 rfl) ?_
              refine lv_iload_n hx hb dX6_tellApart_90 rfl (lv_at hl 2 rfl) ?_
              refine kx_cr (v := nI (numK k v)) (va_runS (As := [.int (nI k), .int (nI v)]) (rest := []) ⟨hx, hb, hml, hown, hts⟩ (m_X6_keyNow l dC dI am (mO (mN M (0, M.2.2.2.1, M.2.2.2.2.1, M.2.2.2.2.2)) j (K9, D9, (M.2.1 j).2.2)) k v (by omega) (by omega)) (va_cwS 2 hts gX6_tellApart_X6_keyNow rfl rfl rfl hdX6_keyNow_2.2 ⟨Nat.le_of_ble_eq_true rfl, Nat.le_of_ble_eq_true rfl⟩) hX.preS rfl rfl hl.1 rfl (lv_room (Nat.le_of_ble_eq_true rfl)) dX6_tellApart_91 ⟨Nat.le_of_ble_eq_true rfl, Nat.le_of_ble_eq_true rfl⟩) (fun _ h => h) ?_
              refine lv_iload hx hb dX6_tellApart_94 (lv_at hl 6 rfl) ?_
              refine lv_iload_n hx hb dX6_tellApart_96 rfl (lv_at hl 3 rfl) ?_
              refine kx_cr (v := nI (numK k v2)) (va_runS (As := [.int (nI k), .int (nI v2)]) (rest := [.int (nI (numK k v))]) ⟨hx, hb, hml, hown, hts⟩ (m_X6_keyNow l dC dI am (mO (mN M (0, M.2.2.2.1, M.2.2.2.2.1, M.2.2.2.2.2)) j (K9, D9, (M.2.1 j).2.2)) k v2 (by omega) (by omega)) (va_cwS 2 hts gX6_tellApart_X6_keyNow rfl rfl rfl hdX6_keyNow_2.2 ⟨Nat.le_of_ble_eq_true rfl, Nat.le_of_ble_eq_true rfl⟩) hX.preS rfl rfl hl.1 rfl (lv_room (Nat.le_of_ble_eq_true rfl)) dX6_tellApart_97 ⟨Nat.le_of_ble_eq_true rfl, Nat.le_of_ble_eq_true rfl⟩) (fun _ h => h) ?_
              refine kn_icmp_ne (tgt := 106) hx hb (by omega) (by omega) dX6_tellApart_100 (by decide) (fun k_9 => ?_) (fun k_9 => ?_)
              · skip
                have h100 := k_9
                refine lv_aload_n hx hb dX6_tellApart_106 rfl (lv_at hl 0 rfl) ?_
                refine lv_iload_n hx hb dX6_tellApart_107 rfl (lv_at hl 1 rfl) ?_
                refine lv_iload hx hb dX6_tellApart_108 (lv_at hl 6 rfl) ?_
                refine lv_iconst (v := nI 0) hx hb dX6_tellApart_110 (by decide) ?_
                refine km_cv (va_runV (As := [.int (nI j), .int (nI k), .int (nI 0)]) (rest := []) ⟨hx, hb, hml, hown, hts⟩ (m_X6_add l dC dI am (mO (mN M (0, M.2.2.2.1, M.2.2.2.2.1, M.2.2.2.2.2)) j (K9, D9, (M.2.1 j).2.2)) j k false (by omega) (by rw [mO_ord]; show (M.2.1 j).2.2 < 5; omega)) (cwV 3 hts gX6_tellApart_X6_add rfl rfl rfl hdX6_add_3 ⟨Nat.le_of_ble_eq_true rfl, Nat.le_of_ble_eq_true rfl⟩) (hX.preObj) rfl rfl hl.1 rfl (lv_room (Nat.le_of_ble_eq_true rfl)) dX6_tellApart_111 ⟨Nat.le_of_ble_eq_true rfl, Nat.le_of_ble_eq_true rfl⟩) hX (fun _ h => h) (fun S_ H locs hw hX => ?_)
                rw [mO_ord, mO_mO] at hw
                subst hw
                refine lv_aload_n hx hb dX6_tellApart_114 rfl (lv_at hl 0 rfl) ?_
                refine lv_iload_n hx hb dX6_tellApart_115 rfl (lv_at hl 1 rfl) ?_
                refine kx_cr (v := nI (classC (codeOf (va_up K9 (M.2.1 j).2.2 k) (va_up D9 (M.2.1 j).2.2 false) ((M.2.1 j).2.2 + 1)))) (va_runV (As := [.int (nI j)]) (rest := []) ⟨hx, hb, hml, hown, hts⟩ (m_X6_classesNow l dC dI am (mO (mN M (0, M.2.2.2.1, M.2.2.2.2.1, M.2.2.2.2.2)) j (va_up K9 ((M.2.1 j).2.2) k, va_up D9 ((M.2.1 j).2.2) false, (M.2.1 j).2.2 + 1)) j (by omega) (by rw [mO_ord]; exact ordM_add (o := (K9, D9, (M.2.1 j).2.2)) ho9 (show (M.2.1 j).2.2 < 5 by omega) (by omega))) (cwV 1 hts gX6_tellApart_X6_classesNow rfl rfl rfl hdX6_classesNow_1 ⟨Nat.le_of_ble_eq_true rfl, Nat.le_of_ble_eq_true rfl⟩) (hX.preObj) rfl rfl hl.1 rfl (lv_room (Nat.le_of_ble_eq_true rfl)) dX6_tellApart_116 ⟨Nat.le_of_ble_eq_true rfl, Nat.le_of_ble_eq_true rfl⟩) (fun _ h => h.trans (by rw [cM_mO])) ?_
                have hce := coa_eq (M := M) (j := j) (k := k) hag
                have hcc := classC_le (codeOf (va_up K9 (M.2.1 j).2.2 k) (va_up D9 (M.2.1 j).2.2 false) ((M.2.1 j).2.2 + 1))
                have hfw : fw ≤ 17 := by rw [show fw = (coarse (coaM M j) (keyApart v v2) k).1 from congrArg Prod.fst hq]; exact coarse_le _ _ _
                refine lv_istore (lv' := [(7, .int (nI (classC (codeOf (va_up K9 (M.2.1 j).2.2 k) (va_up D9 (M.2.1 j).2.2 false) ((M.2.1 j).2.2 + 1))))), (0, .ref (am 0)), (1, .int (nI j)), (2, .int (nI v)), (3, .int (nI v2)), (4, .int x4), (5, .int (nI fw)), (6, .int (nI k))]) hx hb dX6_tellApart_119 hl (by decide) rfl (fun ls hl => ?_)
                refine lv_aload_n hx hb dX6_tellApart_121 rfl (lv_at hl 1 rfl) ?_
                refine km_gsteps hx hb hts hin6 hown hX (hts (.fieldLink RX6 29 "OrderlatticeModel" "steps" "[I") (tm 724 (by decide +kernel) rfl)) dX6_tellApart_122 ?_
                refine lv_iload_n hx hb dX6_tellApart_125 rfl (lv_at hl 2 rfl) ?_
                refine lv_dup2_11 hx hb dX6_tellApart_126 rfl rfl ?_
                refine km_lt (v := (M.2.1 j).2.2 + 1) hx hb hX (by omega) (by rw [mO_ord] <;> rfl) dX6_tellApart_127 ?_
                refine lv_iconst (v := nI 1) hx hb dX6_tellApart_128 (by decide) ?_
                refine kn_isub hx hb (by omega) dX6_tellApart_129 ?_
                refine km_st (M' := (mO (mN M (0, M.2.2.2.1, M.2.2.2.2.1, M.2.2.2.2.2)) j (va_up K9 ((M.2.1 j).2.2) k, va_up D9 ((M.2.1 j).2.2) false, ((M.2.1 j).2.2 + 1) - 1))) hx hb hX  (by omega) (by rw [mO_ord, mO_mO]) dX6_tellApart_130 (fun H locs hX => ?_)
                refine lv_iload hx hb dX6_tellApart_131 (lv_at hl 0 rfl) ?_
                refine lv_iload hx hb dX6_tellApart_133 (lv_at hl 6 rfl) ?_
                refine kn_icmp_lt (tgt := 141) hx hb (by omega) (by omega) dX6_tellApart_135 (by decide) (fun k_10 => ?_) (fun k_10 => ?_)
                · skip
                  have h135 := k_10
                  refine lv_iload hx hb dX6_tellApart_141 (lv_at hl 0 rfl) ?_
                  refine lv_istore (lv' := [(5, .int (nI (classC (codeOf (va_up K9 (M.2.1 j).2.2 k) (va_up D9 (M.2.1 j).2.2 false) ((M.2.1 j).2.2 + 1))))), (7, .int (nI (classC (codeOf (va_up K9 (M.2.1 j).2.2 k) (va_up D9 (M.2.1 j).2.2 false) ((M.2.1 j).2.2 + 1))))), (0, .ref (am 0)), (1, .int (nI j)), (2, .int (nI v)), (3, .int (nI v2)), (4, .int x4), (6, .int (nI k))]) hx hb dX6_tellApart_143 hl (by decide) rfl (fun ls hl => ?_)
                  refine lv_iload hx hb dX6_tellApart_145 (lv_at hl 7 rfl) ?_
                  refine lv_istore (lv' := [(4, .int (nI k)), (5, .int (nI (classC (codeOf (va_up K9 (M.2.1 j).2.2 k) (va_up D9 (M.2.1 j).2.2 false) ((M.2.1 j).2.2 + 1))))), (7, .int (nI (classC (codeOf (va_up K9 (M.2.1 j).2.2 k) (va_up D9 (M.2.1 j).2.2 false) ((M.2.1 j).2.2 + 1))))), (0, .ref (am 0)), (1, .int (nI j)), (2, .int (nI v)), (3, .int (nI v2)), (6, .int (nI k))]) hx hb dX6_tellApart_147 hl (by decide) rfl (fun ls hl => ?_)
                  refine lv_iinc (v := nI (k + 1)) (lv' := [(6, .int (nI (k + 1))), (4, .int (nI k)), (5, .int (nI (classC (codeOf (va_up K9 (M.2.1 j).2.2 k) (va_up D9 (M.2.1 j).2.2 false) ((M.2.1 j).2.2 + 1))))), (7, .int (nI (classC (codeOf (va_up K9 (M.2.1 j).2.2 k) (va_up D9 (M.2.1 j).2.2 false) ((M.2.1 j).2.2 + 1))))), (0, .ref (am 0)), (1, .int (nI j)), (2, .int (nI v)), (3, .int (nI v2))]) hx hb dX6_tellApart_149 hl (k := 7) rfl (nI_1 k) (by decide) rfl (fun ls hl => ?_)
                  refine lv_goto (tgt := 81) hx hb dX6_tellApart_152 (by decide) ?_
                  exact ih81  (va_up K9 ((M.2.1 j).2.2) k) (va_up D9 ((M.2.1 j).2.2) false) (nI k) k (classC (codeOf (va_up K9 (M.2.1 j).2.2 k) (va_up D9 (M.2.1 j).2.2 false) ((M.2.1 j).2.2 + 1))) (k + 1) (fun x hx => ⟨by rw [va_up_ne _ _ (by omega)]; exact (hag x hx).1, by rw [va_up_ne _ _ (by omega)]; exact (hag x hx).2⟩) (ordM_up (o := M.2.1 j) ho9 (by omega)) (by omega) (fun _ => rfl) (by rw [hce]; exact coarse_new (keyApart_yes h100) (by rw [← hce]; have h17 := congrArg Prod.fst hq; dsimp only at h17; omega) hq) _ _ (by omega) hX _ (lv_sub hl [4, 5, 6, 7, 1, 2, 0] rfl)
                · skip
                  have h135 := k_10
                  refine lv_goto (tgt := 149) hx hb dX6_tellApart_138 (by decide) ?_
                  refine lv_iinc (v := nI (k + 1)) (lv' := [(6, .int (nI (k + 1))), (7, .int (nI (classC (codeOf (va_up K9 (M.2.1 j).2.2 k) (va_up D9 (M.2.1 j).2.2 false) ((M.2.1 j).2.2 + 1))))), (0, .ref (am 0)), (1, .int (nI j)), (2, .int (nI v)), (3, .int (nI v2)), (4, .int x4), (5, .int (nI fw))]) hx hb dX6_tellApart_149 hl (k := 7) rfl (nI_1 k) (by decide) rfl (fun ls hl => ?_)
                  refine lv_goto (tgt := 81) hx hb dX6_tellApart_152 (by decide) ?_
                  exact ih81  (va_up K9 ((M.2.1 j).2.2) k) (va_up D9 ((M.2.1 j).2.2) false) x4 bb fw (k + 1) (fun x hx => ⟨by rw [va_up_ne _ _ (by omega)]; exact (hag x hx).1, by rw [va_up_ne _ _ (by omega)]; exact (hag x hx).2⟩) (ordM_up (o := M.2.1 j) ho9 (by omega)) (by omega) (fun _ => hx4 (Nat.pos_of_ne_zero (fun e => by subst e; have h17 : fw = 17 := congrArg Prod.fst hq; omega))) (coarse_no (Or.inr (by rw [← hce]; have h17 := congrArg Prod.fst hq; dsimp only at h17; omega)) hq) _ _ (by omega) hX _ (lv_sub hl [2, 3, 4, 5, 6, 7, 0] rfl)
              · skip
                have h100 := k_9
                refine lv_goto (tgt := 149) hx hb dX6_tellApart_103 (by decide) ?_
                refine lv_iinc (v := nI (k + 1)) (lv' := [(6, .int (nI (k + 1))), (0, .ref (am 0)), (1, .int (nI j)), (2, .int (nI v)), (3, .int (nI v2)), (4, .int x4), (5, .int (nI fw))]) hx hb dX6_tellApart_149 hl (k := 6) rfl (nI_1 k) (by decide) rfl (fun ls hl => ?_)
                refine lv_goto (tgt := 81) hx hb dX6_tellApart_152 (by decide) ?_
                exact ih81  K9 D9 x4 bb fw (k + 1) hag ho9 (by omega) (fun _ => hx4 (Nat.pos_of_ne_zero (fun e => by subst e; exact h53 h100))) (coarse_no (Or.inl (keyApart_no h100)) hq) _ _ (by omega) hX _ (lv_sub hl [1, 2, 3, 4, 5, 6, 0] rfl)
        exact loop81 (8 + 1) ((M.2.1 j).1) ((M.2.1 j).2.1) (-1) 0 17 0 (fun x _ => ⟨rfl, rfl⟩) (hI.2 j (by omega)) (by omega) (fun h => absurd h (by decide)) rfl _ _ (by omega) (WM.eqS (mO_self _ j).symm hX) _ (lv_sub hl [3, 4, 5, 6, 2, 1, 0] rfl)
      · skip
        have h63 := k_7
        refine lv_aload_n hx hb dX6_tellApart_66 rfl (lv_at hl 0 rfl) ?_
        refine km_ci (va_runV (As := []) (rest := []) ⟨hx, hb, hml, hown, hts⟩ (m_X6_no l dC dI am (mN M (0, M.2.2.2.1, M.2.2.2.2.1, M.2.2.2.2.2)) ) (cwV 0 hts gX6_tellApart_X6_no rfl rfl rfl hdX6_no_0 ⟨Nat.le_of_ble_eq_true rfl, Nat.le_of_ble_eq_true rfl⟩) (hX.preObj) rfl rfl hl.1 rfl (lv_room (Nat.le_of_ble_eq_true rfl)) dX6_tellApart_67 ⟨Nat.le_of_ble_eq_true rfl, Nat.le_of_ble_eq_true rfl⟩) hX (fun _ h => h) (fun r_ S_ H locs hw hX => ?_)
        obtain ⟨rfl, rfl⟩ := hw
        exact W.iret (v := (-9)) hx hb hr (fun t9 ht9 hW9 => ⟨⟨_, (mN M (0, M.2.2.2.1, M.2.2.2.2.1 + 1, M.2.2.2.2.2)), rfl, (Or.inr ⟨Or.inr (Or.inr (by omega)), rfl, rfl⟩), hX.P ht9 hW9⟩, hX.2.2.2.F ht9⟩) hX.2.2.2.2.2 dX6_tellApart_70
