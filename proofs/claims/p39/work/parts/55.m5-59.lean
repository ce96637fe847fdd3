section
/-! the reference: what is asked of orders, the whole -/
def sameN (c d : Nat → Nat) (n : Nat) : Bool := decide (∀ a, a < n → ∀ b, b < n → cmpI (c a) (c b) = cmpI (d a) (d b))
def sameM (c d : Nat → Nat) : Bool := sameN c d 16
def houM (M : MS) (k : Nat) : Nat := match k with
  | 0 => sumN (fun k => (M.1 k).2.2) 3
  | 1 => sumN (fun k => (M.2.1 k).2.2) 4
  | 2 => M.2.2.2.1
  | 3 => M.2.2.2.2.1
  | _ => M.2.2.2.2.2
theorem houM_lt {M : MS} (hI : InvM M) (hc : M.2.2.2.1 < 2 ^ 31 ∧ M.2.2.2.2.1 < 2 ^ 31 ∧ M.2.2.2.2.2 < 2 ^ 31) {k : Nat} (hk : k < 5) : houM M k < 2 ^ 31 := by
  rcases (show k = 0 ∨ k = 1 ∨ k = 2 ∨ k = 3 ∨ k = 4 by omega) with rfl | rfl | rfl | rfl | rfl
  · have h0 := (hI.1 0 (by omega)).1
    have h1 := (hI.1 1 (by omega)).1
    have h2 := (hI.1 2 (by omega)).1
    show 0 + (M.1 0).2.2 + (M.1 1).2.2 + (M.1 2).2.2 < 2 ^ 31
    omega
  · have h0 := (hI.2 0 (by omega)).1
    have h1 := (hI.2 1 (by omega)).1
    have h2 := (hI.2 2 (by omega)).1
    have h3 := (hI.2 3 (by omega)).1
    show 0 + (M.2.1 0).2.2 + (M.2.1 1).2.2 + (M.2.1 2).2.2 + (M.2.1 3).2.2 < 2 ^ 31
    omega
  · exact hc.1
  · exact hc.2.1
  · exact hc.2.2
theorem apartM_le (c d : Nat → Nat) : apartM c d ≤ 256 := by
  have h : ∀ n, n ≤ 16 → sumN (apartF c d) n ≤ 16 * n := fun n => by
    induction n with
    | zero => intro _; exact Nat.le_refl _
    | succ n ih =>
      intro hn
      have h1 := ih (by omega)
      have h2 : apartF c d n ≤ n := cntB_le _ _
      show sumN (apartF c d) n + apartF c d n ≤ _
      omega
  exact h 16 (Nat.le_refl _)
def mxRow (M : MS) (i : Nat) (d : Int64) : Int64 := iterL (fun k d => mixI (mixI d ((M.1 i).1 k)) ((M.1 i).2.1 k)) (M.1 i).2.2 (mixI d (M.1 i).2.2)
def mxOrd (M : MS) (j : Nat) (d : Int64) : Int64 := iterL (fun v d => mixI d (rankC (cM M j) v)) 16 (mixI (iterL (fun k d => mixI (mixI d ((M.2.1 j).1 k)) (bN ((M.2.1 j).2.1 k))) (M.2.1 j).2.2 (mixI d (M.2.1 j).2.2)) (classC (cM M j)))
def mxPair (M : MS) (a b : Nat) (d : Int64) : Int64 := mixI (mixI d (apartM (cM M a) (cM M b))) (bN (finerB (cM M a) (cM M b)))
def mxSeq (M : MS) (i j : Nat) (d : Int64) : Int64 := mixI (mixI d (cntB (firstB (cM M j) (M.1 i).1) (M.1 i).2.2)) (bN (seqB (cM M j) (M.1 i).1 (M.1 i).2.2))
def mx1 (M : MS) : Int64 := iterL (fun k d => mixI d (houM M k)) 5 (lN 7842)
def mx2 (M : MS) : Int64 := iterL (mxRow M) 3 (mx1 M)
def mx3 (M : MS) : Int64 := iterL (mxOrd M) 4 (mx2 M)
def mx4 (M : MS) : Int64 := iterL (fun a d => iterL (mxPair M a) 4 d) 4 (mx3 M)
def mx5 (M : MS) : Int64 := iterL (fun i d => iterL (mxSeq M i) 4 d) 3 (mx4 M)
def digM (M : MS) : Int64 := mixI (mx5 M) 1
theorem iterL_0 (f : Nat → Int64 → Int64) (d : Int64) : iterL f 0 d = d := rfl
theorem iterL_s (f : Nat → Int64 → Int64) (n : Nat) (d : Int64) : iterL f (n + 1) d = f n (iterL f n d) := rfl
theorem mix_t (d : Int64) (x : Nat) {z : Bool} (h : z = true) : (d * lN 31 + lN x) * lN 31 + lN 1 = mixI (mixI d x) (bN z) := by subst h; rfl
theorem mix_f (d : Int64) (x : Nat) {z : Bool} (h : z = false) : (d * lN 31 + lN x) * lN 31 + lN 0 = mixI (mixI d x) (bN z) := by subst h; rfl
set_option maxHeartbeats 4000000 in
set_option maxRecDepth 100000 in
theorem m_X6_compare (l : Launch) (dC : Nat → ClassId) (dI : Nat → Nat → Nat) (am : Nat → Nat) (M : MS) (j : Nat) (v : Nat) (v2 : Nat) (hj : j < 4) (hv : v < 16) (hv2 : v2 < 16) (hI : InvM M) : Met l yX6_compare wsX6_compare ({ frames := 2, cells := 0, slots := 0, locals := 47 } : Room) (va_Pc [.ref (am 0), .int (nI j), .int (nI v), .int (nI v2)] (PM dC dI am M)) (va_Qi (fun r M' => r = cmpI (cM M j v) (cM M j v2) ∧ M' = thM M 0) (PM dC dI am) (AM am)) 0 0 (AM am) := by
  refine Met.ofW (cc := cX6_compare) (maxL := 4) (ret := (some .int)) pl_X6 rfl ?_
  intro p e s m args below meth c s₁ B hml hv
  obtain ⟨rfl, hPX⟩ := hv
  have hx := B.exec
  have hb := B.bytes
  have hr := B.returns
  have hts := atoms_spec (ws := wsX6_compare) B.pre
  have hown : s.vm.findClass RX6 = some m.cls := findClass_of_methodNamed B.named
  have hlocks := B.notSynchronized
  have hX := WM.of hPX
  have hl := lv_entry ([.ref (am 0), .int (nI j), .int (nI v), .int (nI v2)]) (n := 4) (Nat.le_of_ble_eq_true rfl)
  rw [lg_entry_eq]
  generalize (lg_sl ([.ref (am 0), .int (nI j), .int (nI v), .int (nI v2)]) ++ List.replicate (4 - (lg_sl ([.ref (am 0), .int (nI j), .int (nI v), .int (nI v2)])).length) Slot.unset).toArray = ls at hl ⊢
  have hl : lv_has ls 4 [(0, .ref (am 0)), (1, .int (nI j)), (2, .int (nI v)), (3, .int (nI v2))] := hl
  show W p l e ({ frames := 2, cells := 0, slots := 0, locals := 47 } : Room) s m ([.ref (am 0), .int (nI j), .int (nI v), .int (nI v2)]).toArray below meth c s.heap [] 0 0 (MQ below (va_Qi (fun r M' => r = cmpI (cM M j v) (cM M j v2) ∧ M' = thM M 0) (PM dC dI am) (AM am)) ([.ref (am 0), .int (nI j), .int (nI v), .int (nI v2)]).toArray s 0 0 (AM am)) (F0 m 0 ls [])
  refine lv_aload_n hx hb dX6_compare_0 rfl (lv_at hl 0 rfl) ?_
  refine lv_iload_n hx hb dX6_compare_1 rfl (lv_at hl 1 rfl) ?_
  refine kx_cr (v := bI false) (va_runS (As := [.int (nI j)]) (rest := [.ref (am 0)]) ⟨hx, hb, hml, hown, hts⟩ (m_X6_isNoOrder l dC dI am M (nI j)) (va_cwS 1 hts gX6_compare_X6_isNoOrder rfl rfl rfl hdX6_isNoOrder_1.2 ⟨Nat.le_of_ble_eq_true rfl, Nat.le_of_ble_eq_true rfl⟩) hX.preS rfl rfl hl.1 rfl (lv_room (Nat.le_of_ble_eq_true rfl)) dX6_compare_2 ⟨Nat.le_of_ble_eq_true rfl, Nat.le_of_ble_eq_true rfl⟩) (fun _ h => h.trans (isNo_ok (by omega) (by omega))) ?_
  refine lv_iconst (v := nI 1) hx hb dX6_compare_5 (by decide) ?_
  refine km_ci (va_runV (As := [.int (bI false), .int (nI 1)]) (rest := []) ⟨hx, hb, hml, hown, hts⟩ (m_X6_start l dC dI am M false 1 (by omega)) (cwV 2 hts gX6_compare_X6_start rfl rfl rfl hdX6_start_2 ⟨Nat.le_of_ble_eq_true rfl, Nat.le_of_ble_eq_true rfl⟩) (hX.preObj) rfl rfl hl.1 rfl (lv_room (Nat.le_of_ble_eq_true rfl)) dX6_compare_6 ⟨Nat.le_of_ble_eq_true rfl, Nat.le_of_ble_eq_true rfl⟩) hX (fun _ h => h) (fun r_ S_ H locs hw hX => ?_)
  obtain ⟨rfl, rfl⟩ := hw
  refine kb_if_ne (tgt := 39) hx hb dX6_compare_9 (by decide) (fun k_1 => absurd k_1 (by decide)) (fun k_1 => ?_)
  refine lv_aload_n hx hb dX6_compare_12 rfl (lv_at hl 0 rfl) ?_
  refine lv_iload_n hx hb dX6_compare_13 rfl (lv_at hl 2 rfl) ?_
  refine kx_cr (v := bI false) (va_runS (As := [.int (nI v)]) (rest := [.ref (am 0)]) ⟨hx, hb, hml, hown, hts⟩ (m_X6_isNoValue l dC dI am (mN M (0, M.2.2.2.1, M.2.2.2.2.1, M.2.2.2.2.2)) (nI v)) (va_cwS 1 hts gX6_compare_X6_isNoValue rfl rfl rfl hdX6_isNoValue_1.2 ⟨Nat.le_of_ble_eq_true rfl, Nat.le_of_ble_eq_true rfl⟩) hX.preS rfl rfl hl.1 rfl (lv_room (Nat.le_of_ble_eq_true rfl)) dX6_compare_14 ⟨Nat.le_of_ble_eq_true rfl, Nat.le_of_ble_eq_true rfl⟩) (fun _ h => h.trans (isNo_ok (by omega) (by omega))) ?_
  refine kb_if_ne (tgt := 27) hx hb dX6_compare_17 (by decide) (fun k_2 => absurd k_2 (by decide)) (fun k_2 => ?_)
  refine lv_iload_n hx hb dX6_compare_20 rfl (lv_at hl 3 rfl) ?_
  refine kx_cr (v := bI false) (va_runS (As := [.int (nI v2)]) (rest := [.ref (am 0)]) ⟨hx, hb, hml, hown, hts⟩ (m_X6_isNoValue l dC dI am (mN M (0, M.2.2.2.1, M.2.2.2.2.1, M.2.2.2.2.2)) (nI v2)) (va_cwS 1 hts gX6_compare_X6_isNoValue rfl rfl rfl hdX6_isNoValue_1.2 ⟨Nat.le_of_ble_eq_true rfl, Nat.le_of_ble_eq_true rfl⟩) hX.preS rfl rfl hl.1 rfl (lv_room (Nat.le_of_ble_eq_true rfl)) dX6_compare_21 ⟨Nat.le_of_ble_eq_true rfl, Nat.le_of_ble_eq_true rfl⟩) (fun _ h => h.trans (isNo_ok (by omega) (by omega))) ?_
  refine kb_if_eq (tgt := 31) hx hb dX6_compare_24 (by decide) (fun k_3 => ?_) (fun k_3 => absurd k_3 (by decide))
  refine lv_iconst (v := nI 0) hx hb dX6_compare_31 (by decide) ?_
  refine lv_iconst (v := nI 2) hx hb dX6_compare_32 (by decide) ?_
  refine km_ci (va_runV (As := [.int (nI 0), .int (nI 2)]) (rest := []) ⟨hx, hb, hml, hown, hts⟩ (m_X6_refuse l dC dI am (mN M (0, M.2.2.2.1, M.2.2.2.2.1, M.2.2.2.2.2)) false 2 (by omega) rfl) (cwV 2 hts gX6_compare_X6_refuse rfl rfl rfl hdX6_refuse_2 ⟨Nat.le_of_ble_eq_true rfl, Nat.le_of_ble_eq_true rfl⟩) (hX.preObj) rfl rfl hl.1 rfl (lv_room (Nat.le_of_ble_eq_true rfl)) dX6_compare_33 ⟨Nat.le_of_ble_eq_true rfl, Nat.le_of_ble_eq_true rfl⟩) hX (fun _ h => h) (fun r_ S_ H locs hw hX => ?_)
  obtain ⟨rfl, rfl⟩ := hw
  refine kb_if_eq (tgt := 43) hx hb dX6_compare_36 (by decide) (fun k_4 => ?_) (fun k_4 => absurd k_4 (by decide))
  refine lv_aload_n hx hb dX6_compare_43 rfl (lv_at hl 0 rfl) ?_
  refine lv_iload_n hx hb dX6_compare_44 rfl (lv_at hl 1 rfl) ?_
  refine lv_iload_n hx hb dX6_compare_45 rfl (lv_at hl 2 rfl) ?_
  refine lv_iload_n hx hb dX6_compare_46 rfl (lv_at hl 3 rfl) ?_
  refine kx_cr (v := cmpI (cM M j v) (cM M j v2)) (va_runV (As := [.int (nI j), .int (nI v), .int (nI v2)]) (rest := []) ⟨hx, hb, hml, hown, hts⟩ (m_X6_compareNow l dC dI am (mN M (0, M.2.2.2.1, M.2.2.2.2.1, M.2.2.2.2.2)) j v v2 (by omega) (hI.2 j (by omega)) (by omega) (by omega)) (cwV 3 hts gX6_compare_X6_compareNow rfl rfl rfl hdX6_compareNow_3 ⟨Nat.le_of_ble_eq_true rfl, Nat.le_of_ble_eq_true rfl⟩) (hX.preObj) rfl rfl hl.1 rfl (lv_room (Nat.le_of_ble_eq_true rfl)) dX6_compare_47 ⟨Nat.le_of_ble_eq_true rfl, Nat.le_of_ble_eq_true rfl⟩) (fun _ h => h) ?_
  exact W.iret (v := cmpI (cM M j v) (cM M j v2)) hx hb hr (fun t9 ht9 hW9 => ⟨⟨_, (mN M (0, M.2.2.2.1, M.2.2.2.2.1, M.2.2.2.2.2)), rfl, ⟨rfl, rfl⟩, hX.P ht9 hW9⟩, hX.2.2.2.F ht9⟩) hX.2.2.2.2.2 dX6_compare_50
set_option maxHeartbeats 4000000 in
set_option maxRecDepth 100000 in
theorem m_X6_both (l : Launch) (dC : Nat → ClassId) (dI : Nat → Nat → Nat) (am : Nat → Nat) (M : MS) (j : Nat) (j2 : Nat) (v : Nat) (v2 : Nat) (hj : j < 4) (hj2 : j2 < 4) (hv : v < 16) (hv2 : v2 < 16) (hI : InvM M) : Met l yX6_both wsX6_both ({ frames := 3, cells := 0, slots := 0, locals := 73 } : Room) (va_Pc [.ref (am 0), .int (nI j), .int (nI j2), .int (nI v), .int (nI v2)] (PM dC dI am M)) (va_Qi (fun r M' => r = bothI (cM M j v) (cM M j v2) (cM M j2 v) (cM M j2 v2) ∧ M' = thM M 0) (PM dC dI am) (AM am)) 0 0 (AM am) := by
  refine Met.ofW (cc := cX6_both) (maxL := 5) (ret := (some .int)) pl_X6 rfl ?_
  intro p e s m args below meth c s₁ B hml hv
  obtain ⟨rfl, hPX⟩ := hv
  have hx := B.exec
  have hb := B.bytes
  have hr := B.returns
  have hts := atoms_spec (ws := wsX6_both) B.pre
  have hown : s.vm.findClass RX6 = some m.cls := findClass_of_methodNamed B.named
  have hlocks := B.notSynchronized
  have hX := WM.of hPX
  have hl := lv_entry ([.ref (am 0), .int (nI j), .int (nI j2), .int (nI v), .int (nI v2)]) (n := 5) (Nat.le_of_ble_eq_true rfl)
  rw [lg_entry_eq]
  generalize (lg_sl ([.ref (am 0), .int (nI j), .int (nI j2), .int (nI v), .int (nI v2)]) ++ List.replicate (5 - (lg_sl ([.ref (am 0), .int (nI j), .int (nI j2), .int (nI v), .int (nI v2)])).length) Slot.unset).toArray = ls at hl ⊢
  have hl : lv_has ls 5 [(0, .ref (am 0)), (1, .int (nI j)), (2, .int (nI j2)), (3, .int (nI v)), (4, .int (nI v2))] := hl
  show W p l e ({ frames := 3, cells := 0, slots := 0, locals := 73 } : Room) s m ([.ref (am 0), .int (nI j), .int (nI j2), .int (nI v), .int (nI v2)]).toArray below meth c s.heap [] 0 0 (MQ below (va_Qi (fun r M' => r = bothI (cM M j v) (cM M j v2) (cM M j2 v) (cM M j2 v2) ∧ M' = thM M 0) (PM dC dI am) (AM am)) ([.ref (am 0), .int (nI j), .int (nI j2), .int (nI v), .int (nI v2)]).toArray s 0 0 (AM am)) (F0 m 0 ls [])
  refine lv_aload_n hx hb dX6_both_0 rfl (lv_at hl 0 rfl) ?_
  refine lv_iload_n hx hb dX6_both_1 rfl (lv_at hl 1 rfl) ?_
  refine kx_cr (v := bI false) (va_runS (As := [.int (nI j)]) (rest := [.ref (am 0)]) ⟨hx, hb, hml, hown, hts⟩ (m_X6_isNoOrder l dC dI am M (nI j)) (va_cwS 1 hts gX6_both_X6_isNoOrder rfl rfl rfl hdX6_isNoOrder_1.2 ⟨Nat.le_of_ble_eq_true rfl, Nat.le_of_ble_eq_true rfl⟩) hX.preS rfl rfl hl.1 rfl (lv_room (Nat.le_of_ble_eq_true rfl)) dX6_both_2 ⟨Nat.le_of_ble_eq_true rfl, Nat.le_of_ble_eq_true rfl⟩) (fun _ h => h.trans (isNo_ok (by omega) (by omega))) ?_
  refine kb_if_ne (tgt := 15) hx hb dX6_both_5 (by decide) (fun k_1 => absurd k_1 (by decide)) (fun k_1 => ?_)
  refine lv_iload_n hx hb dX6_both_8 rfl (lv_at hl 2 rfl) ?_
  refine kx_cr (v := bI false) (va_runS (As := [.int (nI j2)]) (rest := [.ref (am 0)]) ⟨hx, hb, hml, hown, hts⟩ (m_X6_isNoOrder l dC dI am M (nI j2)) (va_cwS 1 hts gX6_both_X6_isNoOrder rfl rfl rfl hdX6_isNoOrder_1.2 ⟨Nat.le_of_ble_eq_true rfl, Nat.le_of_ble_eq_true rfl⟩) hX.preS rfl rfl hl.1 rfl (lv_room (Nat.le_of_ble_eq_true rfl)) dX6_both_9 ⟨Nat.le_of_ble_eq_true rfl, Nat.le_of_ble_eq_true rfl⟩) (fun _ h => h.trans (isNo_ok (by omega) (by omega))) ?_
  refine kb_if_eq (tgt := 19) hx hb dX6_both_12 (by decide) (fun k_2 => ?_) (fun k_2 => absurd k_2 (by decide))
  refine lv_iconst (v := nI 0) hx hb dX6_both_19 (by decide) ?_
  refine lv_iconst (v := nI 1) hx hb dX6_both_20 (by decide) ?_
  refine km_ci (va_runV (As := [.int (nI 0), .int (nI 1)]) (rest := []) ⟨hx, hb, hml, hown, hts⟩ (m_X6_start l dC dI am M false 1 (by omega)) (cwV 2 hts gX6_both_X6_start rfl rfl rfl hdX6_start_2 ⟨Nat.le_of_ble_eq_true rfl, Nat.le_of_ble_eq_true rfl⟩) (hX.preObj) rfl rfl hl.1 rfl (lv_room (Nat.le_of_ble_eq_true rfl)) dX6_both_21 ⟨Nat.le_of_ble_eq_true rfl, Nat.le_of_ble_eq_true rfl⟩) hX (fun _ h => h) (fun r_ S_ H locs hw hX => ?_)
  obtain ⟨rfl, rfl⟩ := hw
  refine kb_if_ne (tgt := 55) hx hb dX6_both_24 (by decide) (fun k_3 => absurd k_3 (by decide)) (fun k_3 => ?_)
  refine lv_aload_n hx hb dX6_both_27 rfl (lv_at hl 0 rfl) ?_
  refine lv_iload_n hx hb dX6_both_28 rfl (lv_at hl 3 rfl) ?_
  refine kx_cr (v := bI false) (va_runS (As := [.int (nI v)]) (rest := [.ref (am 0)]) ⟨hx, hb, hml, hown, hts⟩ (m_X6_isNoValue l dC dI am (mN M (0, M.2.2.2.1, M.2.2.2.2.1, M.2.2.2.2.2)) (nI v)) (va_cwS 1 hts gX6_both_X6_isNoValue rfl rfl rfl hdX6_isNoValue_1.2 ⟨Nat.le_of_ble_eq_true rfl, Nat.le_of_ble_eq_true rfl⟩) hX.preS rfl rfl hl.1 rfl (lv_room (Nat.le_of_ble_eq_true rfl)) dX6_both_29 ⟨Nat.le_of_ble_eq_true rfl, Nat.le_of_ble_eq_true rfl⟩) (fun _ h => h.trans (isNo_ok (by omega) (by omega))) ?_
  refine kb_if_ne (tgt := 43) hx hb dX6_both_32 (by decide) (fun k_4 => absurd k_4 (by decide)) (fun k_4 => ?_)
  refine lv_iload hx hb dX6_both_35 (lv_at hl 4 rfl) ?_
  refine kx_cr (v := bI false) (va_runS (As := [.int (nI v2)]) (rest := [.ref (am 0)]) ⟨hx, hb, hml, hown, hts⟩ (m_X6_isNoValue l dC dI am (mN M (0, M.2.2.2.1, M.2.2.2.2.1, M.2.2.2.2.2)) (nI v2)) (va_cwS 1 hts gX6_both_X6_isNoValue rfl rfl rfl hdX6_isNoValue_1.2 ⟨Nat.le_of_ble_eq_true rfl, Nat.le_of_ble_eq_true rfl⟩) hX.preS rfl rfl hl.1 rfl (lv_room (Nat.le_of_ble_eq_true rfl)) dX6_both_37 ⟨Nat.le_of_ble_eq_true rfl, Nat.le_of_ble_eq_true rfl⟩) (fun _ h => h.trans (isNo_ok (by omega) (by omega))) ?_
  refine kb_if_eq (tgt := 47) hx hb dX6_both_40 (by decide) (fun k_5 => ?_) (fun k_5 => absurd k_5 (by decide))
  refine lv_iconst (v := nI 0) hx hb dX6_both_47 (by decide) ?_
  refine lv_iconst (v := nI 2) hx hb dX6_both_48 (by decide) ?_
  refine km_ci (va_runV (As := [.int (nI 0), .int (nI 2)]) (rest := []) ⟨hx, hb, hml, hown, hts⟩ (m_X6_refuse l dC dI am (mN M (0, M.2.2.2.1, M.2.2.2.2.1, M.2.2.2.2.2)) false 2 (by omega) rfl) (cwV 2 hts gX6_both_X6_refuse rfl rfl rfl hdX6_refuse_2 ⟨Nat.le_of_ble_eq_true rfl, Nat.le_of_ble_eq_true rfl⟩) (hX.preObj) rfl rfl hl.1 rfl (lv_room (Nat.le_of_ble_eq_true rfl)) dX6_both_49 ⟨Nat.le_of_ble_eq_true rfl, Nat.le_of_ble_eq_true rfl⟩) hX (fun _ h => h) (fun r_ S_ H locs hw hX => ?_)
  obtain ⟨rfl, rfl⟩ := hw
  refine kb_if_eq (tgt := 59) hx hb dX6_both_52 (by decide) (fun k_6 => ?_) (fun k_6 => absurd k_6 (by decide))
  refine lv_aload_n hx hb dX6_both_59 rfl (lv_at hl 0 rfl) ?_
  refine lv_iload_n hx hb dX6_both_60 rfl (lv_at hl 1 rfl) ?_
  refine lv_iload_n hx hb dX6_both_61 rfl (lv_at hl 2 rfl) ?_
  refine lv_iload_n hx hb dX6_both_62 rfl (lv_at hl 3 rfl) ?_
  refine lv_iload hx hb dX6_both_63 (lv_at hl 4 rfl) ?_
  refine kx_cr (v := (bothI (cM M j v) (cM M j v2) (cM M j2 v) (cM M j2 v2))) (va_runV (As := [.int (nI j), .int (nI j2), .int (nI v), .int (nI v2)]) (rest := []) ⟨hx, hb, hml, hown, hts⟩ (m_X6_bothNow l dC dI am (mN M (0, M.2.2.2.1, M.2.2.2.2.1, M.2.2.2.2.2)) j j2 v v2 (by omega) (by omega) (hI.2 j (by omega)) (hI.2 j2 (by omega)) (by omega) (by omega)) (cwV 4 hts gX6_both_X6_bothNow rfl rfl rfl hdX6_bothNow_4 ⟨Nat.le_of_ble_eq_true rfl, Nat.le_of_ble_eq_true rfl⟩) (hX.preObj) rfl rfl hl.1 rfl (lv_room (Nat.le_of_ble_eq_true rfl)) dX6_both_65 ⟨Nat.le_of_ble_eq_true rfl, Nat.le_of_ble_eq_true rfl⟩) (fun _ h => h) ?_
  exact W.iret (v := (bothI (cM M j v) (cM M j v2) (cM M j2 v) (cM M j2 v2))) hx hb hr (fun t9 ht9 hW9 => ⟨⟨_, (mN M (0, M.2.2.2.1, M.2.2.2.2.1, M.2.2.2.2.2)), rfl, ⟨rfl, rfl⟩, hX.P ht9 hW9⟩, hX.2.2.2.F ht9⟩) hX.2.2.2.2.2 dX6_both_68
set_option maxHeartbeats 4000000 in
set_option maxRecDepth 100000 in
theorem m_X6_refines (l : Launch) (dC : Nat → ClassId) (dI : Nat → Nat → Nat) (am : Nat → Nat) (M : MS) (j : Nat) (j2 : Nat) (hj : j < 4) (hj2 : j2 < 4) (hI : InvM M) : Met l yX6_refines wsX6_refines ({ frames := 3, cells := 0, slots := 0, locals := 71 } : Room) (va_Pc [.ref (am 0), .int (nI j), .int (nI j2)] (PM dC dI am M)) (va_Qi (fun r M' => r = bI (finerB (cM M j) (cM M j2)) ∧ M' = thM M 0) (PM dC dI am) (AM am)) 0 0 (AM am) := by
  refine Met.ofW (cc := cX6_refines) (maxL := 3) (ret := (some .boolean)) pl_X6 rfl ?_
  intro p e s m args below meth c s₁ B hml hv
  obtain ⟨rfl, hPX⟩ := hv
  have hx := B.exec
  have hb := B.bytes
  have hr := B.returns
  have hts := atoms_spec (ws := wsX6_refines) B.pre
  have hown : s.vm.findClass RX6 = some m.cls := findClass_of_methodNamed B.named
  have hlocks := B.notSynchronized
  have hX := WM.of hPX
  have hl := lv_entry ([.ref (am 0), .int (nI j), .int (nI j2)]) (n := 3) (Nat.le_of_ble_eq_true rfl)
  rw [lg_entry_eq]
  generalize (lg_sl ([.ref (am 0), .int (nI j), .int (nI j2)]) ++ List.replicate (3 - (lg_sl ([.ref (am 0), .int (nI j), .int (nI j2)])).length) Slot.unset).toArray = ls at hl ⊢
  have hl : lv_has ls 3 [(0, .ref (am 0)), (1, .int (nI j)), (2, .int (nI j2))] := hl
  show W p l e ({ frames := 3, cells := 0, slots := 0, locals := 71 } : Room) s m ([.ref (am 0), .int (nI j), .int (nI j2)]).toArray below meth c s.heap [] 0 0 (MQ below (va_Qi (fun r M' => r = bI (finerB (cM M j) (cM M j2)) ∧ M' = thM M 0) (PM dC dI am) (AM am)) ([.ref (am 0), .int (nI j), .int (nI j2)]).toArray s 0 0 (AM am)) (F0 m 0 ls [])
  refine lv_aload_n hx hb dX6_refines_0 rfl (lv_at hl 0 rfl) ?_
  refine lv_iload_n hx hb dX6_refines_1 rfl (lv_at hl 1 rfl) ?_
  refine kx_cr (v := bI false) (va_runS (As := [.int (nI j)]) (rest := [.ref (am 0)]) ⟨hx, hb, hml, hown, hts⟩ (m_X6_isNoOrder l dC dI am M (nI j)) (va_cwS 1 hts gX6_refines_X6_isNoOrder rfl rfl rfl hdX6_isNoOrder_1.2 ⟨Nat.le_of_ble_eq_true rfl, Nat.le_of_ble_eq_true rfl⟩) hX.preS rfl rfl hl.1 rfl (lv_room (Nat.le_of_ble_eq_true rfl)) dX6_refines_2 ⟨Nat.le_of_ble_eq_true rfl, Nat.le_of_ble_eq_true rfl⟩) (fun _ h => h.trans (isNo_ok (by omega) (by omega))) ?_
  refine kb_if_ne (tgt := 15) hx hb dX6_refines_5 (by decide) (fun k_1 => absurd k_1 (by decide)) (fun k_1 => ?_)
  refine lv_iload_n hx hb dX6_refines_8 rfl (lv_at hl 2 rfl) ?_
  refine kx_cr (v := bI false) (va_runS (As := [.int (nI j2)]) (rest := [.ref (am 0)]) ⟨hx, hb, hml, hown, hts⟩ (m_X6_isNoOrder l dC dI am M (nI j2)) (va_cwS 1 hts gX6_refines_X6_isNoOrder rfl rfl rfl hdX6_isNoOrder_1.2 ⟨Nat.le_of_ble_eq_true rfl, Nat.le_of_ble_eq_true rfl⟩) hX.preS rfl rfl hl.1 rfl (lv_room (Nat.le_of_ble_eq_true rfl)) dX6_refines_9 ⟨Nat.le_of_ble_eq_true rfl, Nat.le_of_ble_eq_true rfl⟩) (fun _ h => h.trans (isNo_ok (by omega) (by omega))) ?_
  refine kb_if_eq (tgt := 19) hx hb dX6_refines_12 (by decide) (fun k_2 => ?_) (fun k_2 => absurd k_2 (by decide))
  refine lv_iconst (v := nI 0) hx hb dX6_refines_19 (by decide) ?_
  refine lv_iconst (v := nI 1) hx hb dX6_refines_20 (by decide) ?_
  refine km_ci (va_runV (As := [.int (nI 0), .int (nI 1)]) (rest := []) ⟨hx, hb, hml, hown, hts⟩ (m_X6_start l dC dI am M false 1 (by omega)) (cwV 2 hts gX6_refines_X6_start rfl rfl rfl hdX6_start_2 ⟨Nat.le_of_ble_eq_true rfl, Nat.le_of_ble_eq_true rfl⟩) (hX.preObj) rfl rfl hl.1 rfl (lv_room (Nat.le_of_ble_eq_true rfl)) dX6_refines_21 ⟨Nat.le_of_ble_eq_true rfl, Nat.le_of_ble_eq_true rfl⟩) hX (fun _ h => h) (fun r_ S_ H locs hw hX => ?_)
  obtain ⟨rfl, rfl⟩ := hw
  refine kb_if_ne (tgt := 40) hx hb dX6_refines_24 (by decide) (fun k_3 => absurd k_3 (by decide)) (fun k_3 => ?_)
  refine lv_aload_n hx hb dX6_refines_27 rfl (lv_at hl 0 rfl) ?_
  refine lv_iload_n hx hb dX6_refines_28 rfl (lv_at hl 1 rfl) ?_
  refine lv_iload_n hx hb dX6_refines_29 rfl (lv_at hl 2 rfl) ?_
  refine kx_cr (v := bI (finerB (cM M j) (cM M j2))) (va_runV (As := [.int (nI j), .int (nI j2)]) (rest := []) ⟨hx, hb, hml, hown, hts⟩ (m_X6_isRefined l dC dI am (mN M (0, M.2.2.2.1, M.2.2.2.2.1, M.2.2.2.2.2)) j j2 (by omega) (by omega) (hI.2 j (by omega)) (hI.2 j2 (by omega))) (cwV 2 hts gX6_refines_X6_isRefined rfl rfl rfl hdX6_isRefined_2 ⟨Nat.le_of_ble_eq_true rfl, Nat.le_of_ble_eq_true rfl⟩) (hX.preObj) rfl rfl hl.1 rfl (lv_room (Nat.le_of_ble_eq_true rfl)) dX6_refines_30 ⟨Nat.le_of_ble_eq_true rfl, Nat.le_of_ble_eq_true rfl⟩) (fun _ h => h) ?_
  refine kb_if_eq (tgt := 40) hx hb dX6_refines_33 (by decide) (fun k_4 => ?_) (fun k_4 => ?_)
  · skip
    have hc := k_4
    refine lv_iconst (v := nI 0) hx hb dX6_refines_40 (by decide) ?_
    exact W.zret (v := bI false) hx hb hr (bI_narrow _) (fun t9 ht9 hW9 => ⟨⟨_, (mN M (0, M.2.2.2.1, M.2.2.2.2.1, M.2.2.2.2.2)), rfl, ⟨by rw [hc], rfl⟩, hX.P ht9 hW9⟩, hX.2.2.2.F ht9⟩) hX.2.2.2.2.2 dX6_refines_41
  · skip
    have hc := k_4
    refine lv_iconst (v := nI 1) hx hb dX6_refines_36 (by decide) ?_
    refine lv_goto (tgt := 41) hx hb dX6_refines_37 (by decide) ?_
    exact W.zret (v := bI true) hx hb hr (bI_narrow _) (fun t9 ht9 hW9 => ⟨⟨_, (mN M (0, M.2.2.2.1, M.2.2.2.2.1, M.2.2.2.2.2)), rfl, ⟨by rw [hc], rfl⟩, hX.P ht9 hW9⟩, hX.2.2.2.F ht9⟩) hX.2.2.2.2.2 dX6_refines_41
set_option maxHeartbeats 4000000 in
set_option maxRecDepth 100000 in
theorem m_X6_areSame (l : Launch) (dC : Nat → ClassId) (dI : Nat → Nat → Nat) (am : Nat → Nat) (M : MS) (j : Nat) (j2 : Nat) (hj : j < 4) (hj2 : j2 < 4) (hI : InvM M) : Met l yX6_areSame wsX6_areSame ({ frames := 2, cells := 0, slots := 0, locals := 47 } : Room) (va_Pc [.ref (am 0), .int (nI j), .int (nI j2)] (PM dC dI am M)) (va_Qi (fun r M' => r = bI (sameM (cM M j) (cM M j2)) ∧ M' = thM M 0) (PM dC dI am) (AM am)) 0 0 (AM am) := by
  refine Met.ofW (cc := cX6_areSame) (maxL := 5) (ret := (some .boolean)) pl_X6 rfl ?_
  intro p e s m args below meth c s₁ B hml hv
  obtain ⟨rfl, hPX⟩ := hv
  have hx := B.exec
  have hb := B.bytes
  have hr := B.returns
  have hts := atoms_spec (ws := wsX6_areSame) B.pre
  have hown : s.vm.findClass RX6 = some m.cls := findClass_of_methodNamed B.named
  have hlocks := B.notSynchronized
  have hX := WM.of hPX
  have hl := lv_entry ([.ref (am 0), .int (nI j), .int (nI j2)]) (n := 5) (Nat.le_of_ble_eq_true rfl)
  rw [lg_entry_eq]
  generalize (lg_sl ([.ref (am 0), .int (nI j), .int (nI j2)]) ++ List.replicate (5 - (lg_sl ([.ref (am 0), .int (nI j), .int (nI j2)])).length) Slot.unset).toArray = ls at hl ⊢
  have hl : lv_has ls 5 [(0, .ref (am 0)), (1, .int (nI j)), (2, .int (nI j2))] := hl
  show W p l e ({ frames := 2, cells := 0, slots := 0, locals := 47 } : Room) s m ([.ref (am 0), .int (nI j), .int (nI j2)]).toArray below meth c s.heap [] 0 0 (MQ below (va_Qi (fun r M' => r = bI (sameM (cM M j) (cM M j2)) ∧ M' = thM M 0) (PM dC dI am) (AM am)) ([.ref (am 0), .int (nI j), .int (nI j2)]).toArray s 0 0 (AM am)) (F0 m 0 ls [])
  refine lv_aload_n hx hb dX6_areSame_0 rfl (lv_at hl 0 rfl) ?_
  refine lv_iload_n hx hb dX6_areSame_1 rfl (lv_at hl 1 rfl) ?_
  refine kx_cr (v := bI false) (va_runS (As := [.int (nI j)]) (rest := [.ref (am 0)]) ⟨hx, hb, hml, hown, hts⟩ (m_X6_isNoOrder l dC dI am M (nI j)) (va_cwS 1 hts gX6_areSame_X6_isNoOrder rfl rfl rfl hdX6_isNoOrder_1.2 ⟨Nat.le_of_ble_eq_true rfl, Nat.le_of_ble_eq_true rfl⟩) hX.preS rfl rfl hl.1 rfl (lv_room (Nat.le_of_ble_eq_true rfl)) dX6_areSame_2 ⟨Nat.le_of_ble_eq_true rfl, Nat.le_of_ble_eq_true rfl⟩) (fun _ h => h.trans (isNo_ok (by omega) (by omega))) ?_
  refine kb_if_ne (tgt := 15) hx hb dX6_areSame_5 (by decide) (fun k_1 => absurd k_1 (by decide)) (fun k_1 => ?_)
  refine lv_iload_n hx hb dX6_areSame_8 rfl (lv_at hl 2 rfl) ?_
  refine kx_cr (v := bI false) (va_runS (As := [.int (nI j2)]) (rest := [.ref (am 0)]) ⟨hx, hb, hml, hown, hts⟩ (m_X6_isNoOrder l dC dI am M (nI j2)) (va_cwS 1 hts gX6_areSame_X6_isNoOrder rfl rfl rfl hdX6_isNoOrder_1.2 ⟨Nat.le_of_ble_eq_true rfl, Nat.le_of_ble_eq_true rfl⟩) hX.preS rfl rfl hl.1 rfl (lv_room (Nat.le_of_ble_eq_true rfl)) dX6_areSame_9 ⟨Nat.le_of_ble_eq_true rfl, Nat.le_of_ble_eq_true rfl⟩) (fun _ h => h.trans (isNo_ok (by omega) (by omega))) ?_
  refine kb_if_eq (tgt := 19) hx hb dX6_areSame_12 (by decide) (fun k_2 => ?_) (fun k_2 => absurd k_2 (by decide))
  refine lv_iconst (v := nI 0) hx hb dX6_areSame_19 (by decide) ?_
  refine lv_iconst (v := nI 1) hx hb dX6_areSame_20 (by decide) ?_
  refine km_ci (va_runV (As := [.int (nI 0), .int (nI 1)]) (rest := []) ⟨hx, hb, hml, hown, hts⟩ (m_X6_start l dC dI am M false 1 (by omega)) (cwV 2 hts gX6_areSame_X6_start rfl rfl rfl hdX6_start_2 ⟨Nat.le_of_ble_eq_true rfl, Nat.le_of_ble_eq_true rfl⟩) (hX.preObj) rfl rfl hl.1 rfl (lv_room (Nat.le_of_ble_eq_true rfl)) dX6_areSame_21 ⟨Nat.le_of_ble_eq_true rfl, Nat.le_of_ble_eq_true rfl⟩) hX (fun _ h => h) (fun r_ S_ H locs hw hX => ?_)
  obtain ⟨rfl, rfl⟩ := hw
  refine kb_if_eq (tgt := 29) hx hb dX6_areSame_24 (by decide) (fun k_3 => ?_) (fun k_3 => absurd k_3 (by decide))
  refine lv_iconst (v := nI 0) hx hb dX6_areSame_29 (by decide) ?_
  refine lv_istore_n (lv' := [(3, .int (nI 0)), (0, .ref (am 0)), (1, .int (nI j)), (2, .int (nI j2))]) hx hb dX6_areSame_30 rfl hl (by decide) rfl (fun ls hl => ?_)
  have loop31 : ∀ (fuel : Nat) (a : Nat) (ha : a ≤ 16) (hq : ∀ x, x < a → ∀ y, y < 16 → cmpI (cM M j x) (cM M j y) = cmpI (cM M j2 x) (cM M j2 y)) (H : Heap) (locs : List Loc), 16 - a < fuel → WM dC dI am (mN M (0, M.2.2.2.1, M.2.2.2.2.1, M.2.2.2.2.2)) [] (AM am) s H locs → ∀ ls : Array Slot, lv_has ls 5 [(0, .ref (am 0)), (1, .int (nI j)), (2, .int (nI j2)), (3, .int (nI a))] → W p l e ({ frames := 2, cells := 0, slots := 0, locals := 47 } : Room) s m ([.ref (am 0), .int (nI j), .int (nI j2)]).toArray below meth c H locs 0 0 (MQ below (va_Qi (fun r M' => r = bI (sameM (cM M j) (cM M j2)) ∧ M' = thM M 0) (PM dC dI am) (AM am)) ([.ref (am 0), .int (nI j), .int (nI j2)]).toArray s 0 0 (AM am)) (F0 m 31 ls []) := by
    intro fuel
    induction fuel with
    | zero => intro a ha hq H locs hf; exact absurd hf (Nat.not_lt_zero _)
    | succ fuel ih31 =>
      intro a ha hq H locs hf hX ls hl
      refine lv_iload_n hx hb dX6_areSame_31 rfl (lv_at hl 3 rfl) ?_
      refine lv_bipush (v := nI 16) hx hb dX6_areSame_32 (by decide) ?_
      refine kn_icmp_ge (tgt := 80) hx hb (by omega) (by omega) dX6_areSame_34 (by decide) (fun k_4 => ?_) (fun k_4 => ?_)
      · skip
        refine lv_iconst (v := nI 1) hx hb dX6_areSame_80 (by decide) ?_
        exact W.zret (v := bI true) hx hb hr (bI_narrow _) (fun t9 ht9 hW9 => ⟨⟨_, (mN M (0, M.2.2.2.1, M.2.2.2.2.1, M.2.2.2.2.2)), rfl, ⟨kd_t (fun x hx9 y hy9 => hq x (by omega) y hy9), rfl⟩, hX.P ht9 hW9⟩, hX.2.2.2.F ht9⟩) hX.2.2.2.2.2 dX6_areSame_81
      · skip
        refine lv_iconst (v := nI 0) hx hb dX6_areSame_37 (by decide) ?_
        refine lv_istore (lv' := [(4, .int (nI 0)), (0, .ref (am 0)), (1, .int (nI j)), (2, .int (nI j2)), (3, .int (nI a))]) hx hb dX6_areSame_38 hl (by decide) rfl (fun ls hl => ?_)
        have loop40 : ∀ (fuel : Nat) (b : Nat) (hb3 : b ≤ 16) (hp : ∀ y, y < b → cmpI (cM M j a) (cM M j y) = cmpI (cM M j2 a) (cM M j2 y)) (H : Heap) (locs : List Loc), 17 - b < fuel → WM dC dI am (mN M (0, M.2.2.2.1, M.2.2.2.2.1, M.2.2.2.2.2)) [] (AM am) s H locs → ∀ ls : Array Slot, lv_has ls 5 [(0, .ref (am 0)), (1, .int (nI j)), (2, .int (nI j2)), (3, .int (nI a)), (4, .int (nI b))] → W p l e ({ frames := 2, cells := 0, slots := 0, locals := 47 } : Room) s m ([.ref (am 0), .int (nI j), .int (nI j2)]).toArray below meth c H locs 0 0 (MQ below (va_Qi (fun r M' => r = bI (sameM (cM M j) (cM M j2)) ∧ M' = thM M 0) (PM dC dI am) (AM am)) ([.ref (am 0), .int (nI j), .int (nI j2)]).toArray s 0 0 (AM am)) (F0 m 40 ls []) := by
          intro fuel
          induction fuel with
          | zero => intro b hb3 hp H locs hf; exact absurd hf (Nat.not_lt_zero _)
          | succ fuel ih40 =>
            intro b hb3 hp H locs hf hX ls hl
            refine lv_iload hx hb dX6_areSame_40 (lv_at hl 4 rfl) ?_
            refine lv_bipush (v := nI 16) hx hb dX6_areSame_42 (by decide) ?_
            refine kn_icmp_ge (tgt := 74) hx hb (by omega) (by omega) dX6_areSame_44 (by decide) (fun k_5 => ?_) (fun k_5 => ?_)
            · skip
              refine lv_iinc (v := nI (a + 1)) (lv' := [(3, .int (nI (a + 1))), (0, .ref (am 0)), (1, .int (nI j)), (2, .int (nI j2)), (4, .int (nI b))]) hx hb dX6_areSame_74 hl (k := 3) rfl (nI_1 a) (by decide) rfl (fun ls hl => ?_)
              refine lv_goto (tgt := 31) hx hb dX6_areSame_77 (by decide) ?_
              exact ih31  (a + 1) (by omega) (lt_s hq (fun y hy => hp y (by omega))) _ _ (by omega) hX _ (lv_sub hl [1, 2, 3, 0] rfl)
            · skip
              refine lv_aload_n hx hb dX6_areSame_47 rfl (lv_at hl 0 rfl) ?_
              refine lv_iload_n hx hb dX6_areSame_48 rfl (lv_at hl 1 rfl) ?_
              refine lv_iload_n hx hb dX6_areSame_49 rfl (lv_at hl 3 rfl) ?_
              refine lv_iload hx hb dX6_areSame_50 (lv_at hl 4 rfl) ?_
              refine kx_cr (v := cmpI (cM M j a) (cM M j b)) (va_runV (As := [.int (nI j), .int (nI a), .int (nI b)]) (rest := []) ⟨hx, hb, hml, hown, hts⟩ (m_X6_compareNow l dC dI am (mN M (0, M.2.2.2.1, M.2.2.2.2.1, M.2.2.2.2.2)) j a b (by omega) (hI.2 j (by omega)) (by omega) (by omega)) (cwV 3 hts gX6_areSame_X6_compareNow rfl rfl rfl hdX6_compareNow_3 ⟨Nat.le_of_ble_eq_true rfl, Nat.le_of_ble_eq_true rfl⟩) (hX.preObj) rfl rfl hl.1 rfl (lv_room (Nat.le_of_ble_eq_true rfl)) dX6_areSame_52 ⟨Nat.le_of_ble_eq_true rfl, Nat.le_of_ble_eq_true rfl⟩) (fun _ h => h) ?_
              refine lv_aload_n hx hb dX6_areSame_55 rfl (lv_at hl 0 rfl) ?_
              refine lv_iload_n hx hb dX6_areSame_56 rfl (lv_at hl 2 rfl) ?_
              refine lv_iload_n hx hb dX6_areSame_57 rfl (lv_at hl 3 rfl) ?_
              refine lv_iload hx hb dX6_areSame_58 (lv_at hl 4 rfl) ?_
              refine kx_cr (v := cmpI (cM M j2 a) (cM M j2 b)) (va_runV (As := [.int (nI j2), .int (nI a), .int (nI b)]) (rest := [.int (cmpI (cM M j a) (cM M j b))]) ⟨hx, hb, hml, hown, hts⟩ (m_X6_compareNow l dC dI am (mN M (0, M.2.2.2.1, M.2.2.2.2.1, M.2.2.2.2.2)) j2 a b (by omega) (hI.2 j2 (by omega)) (by omega) (by omega)) (cwV 3 hts gX6_areSame_X6_compareNow rfl rfl rfl hdX6_compareNow_3 ⟨Nat.le_of_ble_eq_true rfl, Nat.le_of_ble_eq_true rfl⟩) (hX.preObj) rfl rfl hl.1 rfl (lv_room (Nat.le_of_ble_eq_true rfl)) dX6_areSame_60 ⟨Nat.le_of_ble_eq_true rfl, Nat.le_of_ble_eq_true rfl⟩) (fun _ h => h) ?_
              refine lv_icmp_eq (tgt := 68) hx hb dX6_areSame_63 (by decide) (fun k_6 => ?_) (fun k_6 => ?_)
              · skip
                have h1 := k_6
                refine lv_iinc (v := nI (b + 1)) (lv' := [(4, .int (nI (b + 1))), (0, .ref (am 0)), (1, .int (nI j)), (2, .int (nI j2)), (3, .int (nI a))]) hx hb dX6_areSame_68 hl (k := 4) rfl (nI_1 b) (by decide) rfl (fun ls hl => ?_)
                refine lv_goto (tgt := 40) hx hb dX6_areSame_71 (by decide) ?_
                exact ih40  (b + 1) (by omega) (lt_s hp h1) _ _ (by omega) hX _ (lv_sub hl [1, 2, 3, 4, 0] rfl)
              · skip
                have h1 := k_6
                refine lv_iconst (v := nI 0) hx hb dX6_areSame_66 (by decide) ?_
                exact W.zret (v := bI false) hx hb hr (bI_narrow _) (fun t9 ht9 hW9 => ⟨⟨_, (mN M (0, M.2.2.2.1, M.2.2.2.2.1, M.2.2.2.2.2)), rfl, ⟨kd_f (fun z => h1 (z a (by omega) b (by omega))), rfl⟩, hX.P ht9 hW9⟩, hX.2.2.2.F ht9⟩) hX.2.2.2.2.2 dX6_areSame_67
        exact loop40 (17 + 1) 0 (by omega) (fun y h => absurd h (Nat.not_lt_zero y)) _ _ (by omega) (WM.eqS rfl hX) _ (lv_sub hl [1, 2, 3, 4, 0] rfl)
  exact loop31 (16 + 1) 0 (by omega) (fun x h => absurd h (Nat.not_lt_zero x)) _ _ (by omega) (WM.eqS rfl hX) _ (lv_sub hl [1, 2, 3, 0] rfl)
set_option maxHeartbeats 4000000 in
set_option maxRecDepth 100000 in
theorem m_X6_apart (l : Launch) (dC : Nat → ClassId) (dI : Nat → Nat → Nat) (am : Nat → Nat) (M : MS) (j : Nat) (j2 : Nat) (hj : j < 4) (hj2 : j2 < 4) (hI : InvM M) : Met l yX6_apart wsX6_apart ({ frames := 4, cells := 0, slots := 0, locals := 98 } : Room) (va_Pc [.ref (am 0), .int (nI j), .int (nI j2)] (PM dC dI am M)) (va_Qi (fun r M' => r = nI (apartM (cM M j) (cM M j2)) ∧ M' = thM M 0) (PM dC dI am) (AM am)) 0 0 (AM am) := by
  refine Met.ofW (cc := cX6_apart) (maxL := 3) (ret := (some .int)) pl_X6 rfl ?_
  intro p e s m args below meth c s₁ B hml hv
  obtain ⟨rfl, hPX⟩ := hv
  have hx := B.exec
  have hb := B.bytes
  have hr := B.returns
  have hts := atoms_spec (ws := wsX6_apart) B.pre
  have hown : s.vm.findClass RX6 = some m.cls := findClass_of_methodNamed B.named
  have hlocks := B.notSynchronized
  have hX := WM.of hPX
  have hl := lv_entry ([.ref (am 0), .int (nI j), .int (nI j2)]) (n := 3) (Nat.le_of_ble_eq_true rfl)
  rw [lg_entry_eq]
  generalize (lg_sl ([.ref (am 0), .int (nI j), .int (nI j2)]) ++ List.replicate (3 - (lg_sl ([.ref (am 0), .int (nI j), .int (nI j2)])).length) Slot.unset).toArray = ls at hl ⊢
  have hl : lv_has ls 3 [(0, .ref (am 0)), (1, .int (nI j)), (2, .int (nI j2))] := hl
  show W p l e ({ frames := 4, cells := 0, slots := 0, locals := 98 } : Room) s m ([.ref (am 0), .int (nI j), .int (nI j2)]).toArray below meth c s.heap [] 0 0 (MQ below (va_Qi (fun r M' => r = nI (apartM (cM M j) (cM M j2)) ∧ M' = thM M 0) (PM dC dI am) (AM am)) ([.ref (am 0), .int (nI j), .int (nI j2)]).toArray s 0 0 (AM am)) (F0 m 0 ls [])
  refine lv_aload_n hx hb dX6_apart_0 rfl (lv_at hl 0 rfl) ?_
  refine lv_iload_n hx hb dX6_apart_1 rfl (lv_at hl 1 rfl) ?_
  refine kx_cr (v := bI false) (va_runS (As := [.int (nI j)]) (rest := [.ref (am 0)]) ⟨hx, hb, hml, hown, hts⟩ (m_X6_isNoOrder l dC dI am M (nI j)) (va_cwS 1 hts gX6_apart_X6_isNoOrder rfl rfl rfl hdX6_isNoOrder_1.2 ⟨Nat.le_of_ble_eq_true rfl, Nat.le_of_ble_eq_true rfl⟩) hX.preS rfl rfl hl.1 rfl (lv_room (Nat.le_of_ble_eq_true rfl)) dX6_apart_2 ⟨Nat.le_of_ble_eq_true rfl, Nat.le_of_ble_eq_true rfl⟩) (fun _ h => h.trans (isNo_ok (by omega) (by omega))) ?_
  refine kb_if_ne (tgt := 15) hx hb dX6_apart_5 (by decide) (fun k_1 => absurd k_1 (by decide)) (fun k_1 => ?_)
  refine lv_iload_n hx hb dX6_apart_8 rfl (lv_at hl 2 rfl) ?_
  refine kx_cr (v := bI false) (va_runS (As := [.int (nI j2)]) (rest := [.ref (am 0)]) ⟨hx, hb, hml, hown, hts⟩ (m_X6_isNoOrder l dC dI am M (nI j2)) (va_cwS 1 hts gX6_apart_X6_isNoOrder rfl rfl rfl hdX6_isNoOrder_1.2 ⟨Nat.le_of_ble_eq_true rfl, Nat.le_of_ble_eq_true rfl⟩) hX.preS rfl rfl hl.1 rfl (lv_room (Nat.le_of_ble_eq_true rfl)) dX6_apart_9 ⟨Nat.le_of_ble_eq_true rfl, Nat.le_of_ble_eq_true rfl⟩) (fun _ h => h.trans (isNo_ok (by omega) (by omega))) ?_
  refine kb_if_eq (tgt := 19) hx hb dX6_apart_12 (by decide) (fun k_2 => ?_) (fun k_2 => absurd k_2 (by decide))
  refine lv_iconst (v := nI 0) hx hb dX6_apart_19 (by decide) ?_
  refine lv_iconst (v := nI 1) hx hb dX6_apart_20 (by decide) ?_
  refine km_ci (va_runV (As := [.int (nI 0), .int (nI 1)]) (rest := []) ⟨hx, hb, hml, hown, hts⟩ (m_X6_start l dC dI am M false 1 (by omega)) (cwV 2 hts gX6_apart_X6_start rfl rfl rfl hdX6_start_2 ⟨Nat.le_of_ble_eq_true rfl, Nat.le_of_ble_eq_true rfl⟩) (hX.preObj) rfl rfl hl.1 rfl (lv_room (Nat.le_of_ble_eq_true rfl)) dX6_apart_21 ⟨Nat.le_of_ble_eq_true rfl, Nat.le_of_ble_eq_true rfl⟩) hX (fun _ h => h) (fun r_ S_ H locs hw hX => ?_)
  obtain ⟨rfl, rfl⟩ := hw
  refine kb_if_eq (tgt := 31) hx hb dX6_apart_24 (by decide) (fun k_3 => ?_) (fun k_3 => absurd k_3 (by decide))
  refine lv_aload_n hx hb dX6_apart_31 rfl (lv_at hl 0 rfl) ?_
  refine lv_iload_n hx hb dX6_apart_32 rfl (lv_at hl 1 rfl) ?_
  refine lv_iload_n hx hb dX6_apart_33 rfl (lv_at hl 2 rfl) ?_
  refine kx_cr (v := nI (apartM (cM M j) (cM M j2))) (va_runV (As := [.int (nI j), .int (nI j2)]) (rest := []) ⟨hx, hb, hml, hown, hts⟩ (m_X6_apartNow l dC dI am (mN M (0, M.2.2.2.1, M.2.2.2.2.1, M.2.2.2.2.2)) j j2 (by omega) (by omega) (hI.2 j (by omega)) (hI.2 j2 (by omega))) (cwV 2 hts gX6_apart_X6_apartNow rfl rfl rfl hdX6_apartNow_2 ⟨Nat.le_of_ble_eq_true rfl, Nat.le_of_ble_eq_true rfl⟩) (hX.preObj) rfl rfl hl.1 rfl (lv_room (Nat.le_of_ble_eq_true rfl)) dX6_apart_34 ⟨Nat.le_of_ble_eq_true rfl, Nat.le_of_ble_eq_true rfl⟩) (fun _ h => h) ?_
  exact W.iret (v := nI (apartM (cM M j) (cM M j2))) hx hb hr (fun t9 ht9 hW9 => ⟨⟨_, (mN M (0, M.2.2.2.1, M.2.2.2.2.1, M.2.2.2.2.2)), rfl, ⟨rfl, rfl⟩, hX.P ht9 hW9⟩, hX.2.2.2.F ht9⟩) hX.2.2.2.2.2 dX6_apart_37
set_option maxHeartbeats 4000000 in
set_option maxRecDepth 100000 in
theorem m_X6_classes (l : Launch) (dC : Nat → ClassId) (dI : Nat → Nat → Nat) (am : Nat → Nat) (M : MS) (j : Nat) (hj : j < 4) (hI : InvM M) : Met l yX6_classes wsX6_classes ({ frames := 4, cells := 0, slots := 0, locals := 93 } : Room) (va_Pc [.ref (am 0), .int (nI j)] (PM dC dI am M)) (va_Qi (fun r M' => r = nI (classC (cM M j)) ∧ M' = thM M 0) (PM dC dI am) (AM am)) 0 0 (AM am) := by
  refine Met.ofW (cc := cX6_classes) (maxL := 2) (ret := (some .int)) pl_X6 rfl ?_
  intro p e s m args below meth c s₁ B hml hv
  obtain ⟨rfl, hPX⟩ := hv
  have hx := B.exec
  have hb := B.bytes
  have hr := B.returns
  have hts := atoms_spec (ws := wsX6_classes) B.pre
  have hown : s.vm.findClass RX6 = some m.cls := findClass_of_methodNamed B.named
  have hlocks := B.notSynchronized
  have hX := WM.of hPX
  have hl := lv_entry ([.ref (am 0), .int (nI j)]) (n := 2) (Nat.le_of_ble_eq_true rfl)
  rw [lg_entry_eq]
  generalize (lg_sl ([.ref (am 0), .int (nI j)]) ++ List.replicate (2 - (lg_sl ([.ref (am 0), .int (nI j)])).length) Slot.unset).toArray = ls at hl ⊢
  have hl : lv_has ls 2 [(0, .ref (am 0)), (1, .int (nI j))] := hl
  show W p l e ({ frames := 4, cells := 0, slots := 0, locals := 93 } : Room) s m ([.ref (am 0), .int (nI j)]).toArray below meth c s.heap [] 0 0 (MQ below (va_Qi (fun r M' => r = nI (classC (cM M j)) ∧ M' = thM M 0) (PM dC dI am) (AM am)) ([.ref (am 0), .int (nI j)]).toArray s 0 0 (AM am)) (F0 m 0 ls [])
  refine lv_aload_n hx hb dX6_classes_0 rfl (lv_at hl 0 rfl) ?_
  refine lv_iload_n hx hb dX6_classes_1 rfl (lv_at hl 1 rfl) ?_
  refine kx_cr (v := bI false) (va_runS (As := [.int (nI j)]) (rest := [.ref (am 0)]) ⟨hx, hb, hml, hown, hts⟩ (m_X6_isNoOrder l dC dI am M (nI j)) (va_cwS 1 hts gX6_classes_X6_isNoOrder rfl rfl rfl hdX6_isNoOrder_1.2 ⟨Nat.le_of_ble_eq_true rfl, Nat.le_of_ble_eq_true rfl⟩) hX.preS rfl rfl hl.1 rfl (lv_room (Nat.le_of_ble_eq_true rfl)) dX6_classes_2 ⟨Nat.le_of_ble_eq_true rfl, Nat.le_of_ble_eq_true rfl⟩) (fun _ h => h.trans (isNo_ok (by omega) (by omega))) ?_
  refine lv_iconst (v := nI 1) hx hb dX6_classes_5 (by decide) ?_
  refine km_ci (va_runV (As := [.int (bI false), .int (nI 1)]) (rest := []) ⟨hx, hb, hml, hown, hts⟩ (m_X6_start l dC dI am M false 1 (by omega)) (cwV 2 hts gX6_classes_X6_start rfl rfl rfl hdX6_start_2 ⟨Nat.le_of_ble_eq_true rfl, Nat.le_of_ble_eq_true rfl⟩) (hX.preObj) rfl rfl hl.1 rfl (lv_room (Nat.le_of_ble_eq_true rfl)) dX6_classes_6 ⟨Nat.le_of_ble_eq_true rfl, Nat.le_of_ble_eq_true rfl⟩) hX (fun _ h => h) (fun r_ S_ H locs hw hX => ?_)
  obtain ⟨rfl, rfl⟩ := hw
  refine kb_if_eq (tgt := 16) hx hb dX6_classes_9 (by decide) (fun k_1 => ?_) (fun k_1 => absurd k_1 (by decide))
  refine lv_aload_n hx hb dX6_classes_16 rfl (lv_at hl 0 rfl) ?_
  refine lv_iload_n hx hb dX6_classes_17 rfl (lv_at hl 1 rfl) ?_
  refine kx_cr (v := nI (classC (cM M j))) (va_runV (As := [.int (nI j)]) (rest := []) ⟨hx, hb, hml, hown, hts⟩ (m_X6_classesNow l dC dI am (mN M (0, M.2.2.2.1, M.2.2.2.2.1, M.2.2.2.2.2)) j (by omega) (hI.2 j (by omega))) (cwV 1 hts gX6_classes_X6_classesNow rfl rfl rfl hdX6_classesNow_1 ⟨Nat.le_of_ble_eq_true rfl, Nat.le_of_ble_eq_true rfl⟩) (hX.preObj) rfl rfl hl.1 rfl (lv_room (Nat.le_of_ble_eq_true rfl)) dX6_classes_18 ⟨Nat.le_of_ble_eq_true rfl, Nat.le_of_ble_eq_true rfl⟩) (fun _ h => h) ?_
  exact W.iret (v := nI (classC (cM M j))) hx hb hr (fun t9 ht9 hW9 => ⟨⟨_, (mN M (0, M.2.2.2.1, M.2.2.2.2.1, M.2.2.2.2.2)), rfl, ⟨rfl, rfl⟩, hX.P ht9 hW9⟩, hX.2.2.2.F ht9⟩) hX.2.2.2.2.2 dX6_classes_21
set_option maxHeartbeats 4000000 in
set_option maxRecDepth 100000 in
theorem m_X6_rank (l : Launch) (dC : Nat → ClassId) (dI : Nat → Nat → Nat) (am : Nat → Nat) (M : MS) (j : Nat) (v : Nat) (hj : j < 4) (hv : v < 16) (hI : InvM M) : Met l yX6_rank wsX6_rank ({ frames := 4, cells := 0, slots := 0, locals := 94 } : Room) (va_Pc [.ref (am 0), .int (nI j), .int (nI v)] (PM dC dI am M)) (va_Qi (fun r M' => r = nI (rankC (cM M j) v) ∧ M' = thM M 0) (PM dC dI am) (AM am)) 0 0 (AM am) := by
  refine Met.ofW (cc := cX6_rank) (maxL := 3) (ret := (some .int)) pl_X6 rfl ?_
  intro p e s m args below meth c s₁ B hml hv
  obtain ⟨rfl, hPX⟩ := hv
  have hx := B.exec
  have hb := B.bytes
  have hr := B.returns
  have hts := atoms_spec (ws := wsX6_rank) B.pre
  have hown : s.vm.findClass RX6 = some m.cls := findClass_of_methodNamed B.named
  have hlocks := B.notSynchronized
  have hX := WM.of hPX
  have hl := lv_entry ([.ref (am 0), .int (nI j), .int (nI v)]) (n := 3) (Nat.le_of_ble_eq_true rfl)
  rw [lg_entry_eq]
  generalize (lg_sl ([.ref (am 0), .int (nI j), .int (nI v)]) ++ List.replicate (3 - (lg_sl ([.ref (am 0), .int (nI j), .int (nI v)])).length) Slot.unset).toArray = ls at hl ⊢
  have hl : lv_has ls 3 [(0, .ref (am 0)), (1, .int (nI j)), (2, .int (nI v))] := hl
  show W p l e ({ frames := 4, cells := 0, slots := 0, locals := 94 } : Room) s m ([.ref (am 0), .int (nI j), .int (nI v)]).toArray below meth c s.heap [] 0 0 (MQ below (va_Qi (fun r M' => r = nI (rankC (cM M j) v) ∧ M' = thM M 0) (PM dC dI am) (AM am)) ([.ref (am 0), .int (nI j), .int (nI v)]).toArray s 0 0 (AM am)) (F0 m 0 ls [])
  refine lv_aload_n hx hb dX6_rank_0 rfl (lv_at hl 0 rfl) ?_
  refine lv_iload_n hx hb dX6_rank_1 rfl (lv_at hl 1 rfl) ?_
  refine kx_cr (v := bI false) (va_runS (As := [.int (nI j)]) (rest := [.ref (am 0)]) ⟨hx, hb, hml, hown, hts⟩ (m_X6_isNoOrder l dC dI am M (nI j)) (va_cwS 1 hts gX6_rank_X6_isNoOrder rfl rfl rfl hdX6_isNoOrder_1.2 ⟨Nat.le_of_ble_eq_true rfl, Nat.le_of_ble_eq_true rfl⟩) hX.preS rfl rfl hl.1 rfl (lv_room (Nat.le_of_ble_eq_true rfl)) dX6_rank_2 ⟨Nat.le_of_ble_eq_true rfl, Nat.le_of_ble_eq_true rfl⟩) (fun _ h => h.trans (isNo_ok (by omega) (by omega))) ?_
  refine lv_iconst (v := nI 1) hx hb dX6_rank_5 (by decide) ?_
  refine km_ci (va_runV (As := [.int (bI false), .int (nI 1)]) (rest := []) ⟨hx, hb, hml, hown, hts⟩ (m_X6_start l dC dI am M false 1 (by omega)) (cwV 2 hts gX6_rank_X6_start rfl rfl rfl hdX6_start_2 ⟨Nat.le_of_ble_eq_true rfl, Nat.le_of_ble_eq_true rfl⟩) (hX.preObj) rfl rfl hl.1 rfl (lv_room (Nat.le_of_ble_eq_true rfl)) dX6_rank_6 ⟨Nat.le_of_ble_eq_true rfl, Nat.le_of_ble_eq_true rfl⟩) hX (fun _ h => h) (fun r_ S_ H locs hw hX => ?_)
  obtain ⟨rfl, rfl⟩ := hw
  refine kb_if_ne (tgt := 24) hx hb dX6_rank_9 (by decide) (fun k_1 => absurd k_1 (by decide)) (fun k_1 => ?_)
  refine lv_aload_n hx hb dX6_rank_12 rfl (lv_at hl 0 rfl) ?_
  refine lv_iload_n hx hb dX6_rank_13 rfl (lv_at hl 2 rfl) ?_
  refine kx_cr (v := bI false) (va_runS (As := [.int (nI v)]) (rest := [.ref (am 0)]) ⟨hx, hb, hml, hown, hts⟩ (m_X6_isNoValue l dC dI am (mN M (0, M.2.2.2.1, M.2.2.2.2.1, M.2.2.2.2.2)) (nI v)) (va_cwS 1 hts gX6_rank_X6_isNoValue rfl rfl rfl hdX6_isNoValue_1.2 ⟨Nat.le_of_ble_eq_true rfl, Nat.le_of_ble_eq_true rfl⟩) hX.preS rfl rfl hl.1 rfl (lv_room (Nat.le_of_ble_eq_true rfl)) dX6_rank_14 ⟨Nat.le_of_ble_eq_true rfl, Nat.le_of_ble_eq_true rfl⟩) (fun _ h => h.trans (isNo_ok (by omega) (by omega))) ?_
  refine lv_iconst (v := nI 2) hx hb dX6_rank_17 (by decide) ?_
  refine km_ci (va_runV (As := [.int (bI false), .int (nI 2)]) (rest := []) ⟨hx, hb, hml, hown, hts⟩ (m_X6_refuse l dC dI am (mN M (0, M.2.2.2.1, M.2.2.2.2.1, M.2.2.2.2.2)) false 2 (by omega) rfl) (cwV 2 hts gX6_rank_X6_refuse rfl rfl rfl hdX6_refuse_2 ⟨Nat.le_of_ble_eq_true rfl, Nat.le_of_ble_eq_true rfl⟩) (hX.preObj) rfl rfl hl.1 rfl (lv_room (Nat.le_of_ble_eq_true rfl)) dX6_rank_18 ⟨Nat.le_of_ble_eq_true rfl, Nat.le_of_ble_eq_true rfl⟩) hX (fun _ h => h) (fun r_ S_ H locs hw hX => ?_)
  obtain ⟨rfl, rfl⟩ := hw
  refine kb_if_eq (tgt := 28) hx hb dX6_rank_21 (by decide) (fun k_2 => ?_) (fun k_2 => absurd k_2 (by decide))
  refine lv_aload_n hx hb dX6_rank_28 rfl (lv_at hl 0 rfl) ?_
  refine lv_iload_n hx hb dX6_rank_29 rfl (lv_at hl 1 rfl) ?_
  refine lv_iload_n hx hb dX6_rank_30 rfl (lv_at hl 2 rfl) ?_
  refine kx_cr (v := nI (rankC (cM M j) v)) (va_runV (As := [.int (nI j), .int (nI v)]) (rest := []) ⟨hx, hb, hml, hown, hts⟩ (m_X6_rankNow l dC dI am (mN M (0, M.2.2.2.1, M.2.2.2.2.1, M.2.2.2.2.2)) j v (by omega) (hI.2 j (by omega)) (by omega)) (cwV 2 hts gX6_rank_X6_rankNow rfl rfl rfl hdX6_rankNow_2 ⟨Nat.le_of_ble_eq_true rfl, Nat.le_of_ble_eq_true rfl⟩) (hX.preObj) rfl rfl hl.1 rfl (lv_room (Nat.le_of_ble_eq_true rfl)) dX6_rank_31 ⟨Nat.le_of_ble_eq_true rfl, Nat.le_of_ble_eq_true rfl⟩) (fun _ h => h) ?_
  exact W.iret (v := nI (rankC (cM M j) v)) hx hb hr (fun t9 ht9 hW9 => ⟨⟨_, (mN M (0, M.2.2.2.1, M.2.2.2.2.1, M.2.2.2.2.2)), rfl, ⟨rfl, rfl⟩, hX.P ht9 hW9⟩, hX.2.2.2.F ht9⟩) hX.2.2.2.2.2 dX6_rank_34
set_option maxHeartbeats 4000000 in
set_option maxRecDepth 100000 in
theorem m_X6_keyOf (l : Launch) (dC : Nat → ClassId) (dI : Nat → Nat → Nat) (am : Nat → Nat) (M : MS) (k : Nat) (v : Nat) (hk : k ≤ 7) (hv : v < 16) (hI : InvM M) : Met l yX6_keyOf wsX6_keyOf ({ frames := 2, cells := 0, slots := 0, locals := 44 } : Room) (va_Pc [.ref (am 0), .int (nI k), .int (nI v)] (PM dC dI am M)) (va_Qi (fun r M' => r = nI (numK k v) ∧ M' = thM M 0) (PM dC dI am) (AM am)) 0 0 (AM am) := by
  refine Met.ofW (cc := cX6_keyOf) (maxL := 3) (ret := (some .int)) pl_X6 rfl ?_
  intro p e s m args below meth c s₁ B hml hv
  obtain ⟨rfl, hPX⟩ := hv
  have hx := B.exec
  have hb := B.bytes
  have hr := B.returns
  have hts := atoms_spec (ws := wsX6_keyOf) B.pre
  have hown : s.vm.findClass RX6 = some m.cls := findClass_of_methodNamed B.named
  have hlocks := B.notSynchronized
  have hX := WM.of hPX
  have hl := lv_entry ([.ref (am 0), .int (nI k), .int (nI v)]) (n := 3) (Nat.le_of_ble_eq_true rfl)
  rw [lg_entry_eq]
  generalize (lg_sl ([.ref (am 0), .int (nI k), .int (nI v)]) ++ List.replicate (3 - (lg_sl ([.ref (am 0), .int (nI k), .int (nI v)])).length) Slot.unset).toArray = ls at hl ⊢
  have hl : lv_has ls 3 [(0, .ref (am 0)), (1, .int (nI k)), (2, .int (nI v))] := hl
  show W p l e ({ frames := 2, cells := 0, slots := 0, locals := 44 } : Room) s m ([.ref (am 0), .int (nI k), .int (nI v)]).toArray below meth c s.heap [] 0 0 (MQ below (va_Qi (fun r M' => r = nI (numK k v) ∧ M' = thM M 0) (PM dC dI am) (AM am)) ([.ref (am 0), .int (nI k), .int (nI v)]).toArray s 0 0 (AM am)) (F0 m 0 ls [])
  refine lv_aload_n hx hb dX6_keyOf_0 rfl (lv_at hl 0 rfl) ?_
  refine lv_iload_n hx hb dX6_keyOf_1 rfl (lv_at hl 1 rfl) ?_
  refine lv_bipush (v := nI 7) hx hb dX6_keyOf_2 (by decide) ?_
  refine kx_cr (v := bI false) (va_runS (As := [.int (nI k), .int (nI 7)]) (rest := [.ref (am 0)]) ⟨hx, hb, hml, hown, hts⟩ (m_X6_isNo l dC dI am M (nI k) (nI 7)) (va_cwS 2 hts gX6_keyOf_X6_isNo rfl rfl rfl hdX6_isNo_2.2 ⟨Nat.le_of_ble_eq_true rfl, Nat.le_of_ble_eq_true rfl⟩) hX.preS rfl rfl hl.1 rfl (lv_room (Nat.le_of_ble_eq_true rfl)) dX6_keyOf_4 ⟨Nat.le_of_ble_eq_true rfl, Nat.le_of_ble_eq_true rfl⟩) (fun _ h => h.trans (isNo_ok (by omega) (by omega))) ?_
  refine kb_if_ne (tgt := 17) hx hb dX6_keyOf_7 (by decide) (fun k_1 => absurd k_1 (by decide)) (fun k_1 => ?_)
  refine lv_iload_n hx hb dX6_keyOf_10 rfl (lv_at hl 2 rfl) ?_
  refine kx_cr (v := bI false) (va_runS (As := [.int (nI v)]) (rest := [.ref (am 0)]) ⟨hx, hb, hml, hown, hts⟩ (m_X6_isNoValue l dC dI am M (nI v)) (va_cwS 1 hts gX6_keyOf_X6_isNoValue rfl rfl rfl hdX6_isNoValue_1.2 ⟨Nat.le_of_ble_eq_true rfl, Nat.le_of_ble_eq_true rfl⟩) hX.preS rfl rfl hl.1 rfl (lv_room (Nat.le_of_ble_eq_true rfl)) dX6_keyOf_11 ⟨Nat.le_of_ble_eq_true rfl, Nat.le_of_ble_eq_true rfl⟩) (fun _ h => h.trans (isNo_ok (by omega) (by omega))) ?_
  refine kb_if_eq (tgt := 21) hx hb dX6_keyOf_14 (by decide) (fun k_2 => ?_) (fun k_2 => absurd k_2 (by decide))
  refine lv_iconst (v := nI 0) hx hb dX6_keyOf_21 (by decide) ?_
  refine lv_iconst (v := nI 1) hx hb dX6_keyOf_22 (by decide) ?_
  refine km_ci (va_runV (As := [.int (nI 0), .int (nI 1)]) (rest := []) ⟨hx, hb, hml, hown, hts⟩ (m_X6_start l dC dI am M false 1 (by omega)) (cwV 2 hts gX6_keyOf_X6_start rfl rfl rfl hdX6_start_2 ⟨Nat.le_of_ble_eq_true rfl, Nat.le_of_ble_eq_true rfl⟩) (hX.preObj) rfl rfl hl.1 rfl (lv_room (Nat.le_of_ble_eq_true rfl)) dX6_keyOf_23 ⟨Nat.le_of_ble_eq_true rfl, Nat.le_of_ble_eq_true rfl⟩) hX (fun _ h => h) (fun r_ S_ H locs hw hX => ?_)
  obtain ⟨rfl, rfl⟩ := hw
  refine kb_if_eq (tgt := 33) hx hb dX6_keyOf_26 (by decide) (fun k_3 => ?_) (fun k_3 => absurd k_3 (by decide))
  refine lv_iload_n hx hb dX6_keyOf_33 rfl (lv_at hl 1 rfl) ?_
  refine lv_iload_n hx hb dX6_keyOf_34 rfl (lv_at hl 2 rfl) ?_
  refine kx_cr (v := nI (numK k v)) (va_runS (As := [.int (nI k), .int (nI v)]) (rest := []) ⟨hx, hb, hml, hown, hts⟩ (m_X6_keyNow l dC dI am (mN M (0, M.2.2.2.1, M.2.2.2.2.1, M.2.2.2.2.2)) k v (by omega) (by omega)) (va_cwS 2 hts gX6_keyOf_X6_keyNow rfl rfl rfl hdX6_keyNow_2.2 ⟨Nat.le_of_ble_eq_true rfl, Nat.le_of_ble_eq_true rfl⟩) hX.preS rfl rfl hl.1 rfl (lv_room (Nat.le_of_ble_eq_true rfl)) dX6_keyOf_35 ⟨Nat.le_of_ble_eq_true rfl, Nat.le_of_ble_eq_true rfl⟩) (fun _ h => h) ?_
  exact W.iret (v := nI (numK k v)) hx hb hr (fun t9 ht9 hW9 => ⟨⟨_, (mN M (0, M.2.2.2.1, M.2.2.2.2.1, M.2.2.2.2.2)), rfl, ⟨rfl, rfl⟩, hX.P ht9 hW9⟩, hX.2.2.2.F ht9⟩) hX.2.2.2.2.2 dX6_keyOf_38
set_option maxHeartbeats 4000000 in
set_option maxRecDepth 100000 in
theorem m_X6_knock (l : Launch) (dC : Nat → ClassId) (dI : Nat → Nat → Nat) (am : Nat → Nat) (M : MS) : Met l yX6_knock wsX6_knock ({ frames := 0, cells := 0, slots := 0, locals := 0 } : Room) (va_Pc [.ref (am 0)] (PM dC dI am M)) (va_Qi (fun r M' => r = nI (M.2.2.2.2.2 + 1) ∧ M' = mN M (0, M.2.2.2.1, M.2.2.2.2.1, M.2.2.2.2.2 + 1)) (PM dC dI am) (AM am)) 0 0 (AM am) := by
  refine Met.ofW (cc := cX6_knock) (maxL := 1) (ret := (some .int)) pl_X6 rfl ?_
  intro p e s m args below meth c s₁ B hml hv
  obtain ⟨rfl, hPX⟩ := hv
  have hx := B.exec
  have hb := B.bytes
  have hr := B.returns
  have hts := atoms_spec (ws := wsX6_knock) B.pre
  have hown : s.vm.findClass RX6 = some m.cls := findClass_of_methodNamed B.named
  have hlocks := B.notSynchronized
  have hin6 : ∀ w ∈ u_ws RX6 TX6 10, w ∈ wsX6_knock := tu 1331 (by decide +kernel) rfl
  have hX := WM.of hPX
  have hl := lv_entry ([.ref (am 0)]) (n := 1) (Nat.le_of_ble_eq_true rfl)
  rw [lg_entry_eq]
  generalize (lg_sl ([.ref (am 0)]) ++ List.replicate (1 - (lg_sl ([.ref (am 0)])).length) Slot.unset).toArray = ls at hl ⊢
  have hl : lv_has ls 1 [(0, .ref (am 0))] := hl
  show W p l e ({ frames := 0, cells := 0, slots := 0, locals := 0 } : Room) s m ([.ref (am 0)]).toArray below meth c s.heap [] 0 0 (MQ below (va_Qi (fun r M' => r = nI (M.2.2.2.2.2 + 1) ∧ M' = mN M (0, M.2.2.2.1, M.2.2.2.2.1, M.2.2.2.2.2 + 1)) (PM dC dI am) (AM am)) ([.ref (am 0)]).toArray s 0 0 (AM am)) (F0 m 0 ls [])
  refine lv_aload_n hx hb dX6_knock_0 rfl (lv_at hl 0 rfl) ?_
  refine lv_iconst (v := nI 0) hx hb dX6_knock_1 (by decide) ?_
  refine km_pthrown (M' := (mN M (0, M.2.2.2.1, M.2.2.2.2.1, M.2.2.2.2.2))) hx hb hts hin6 hown hX rfl (hts (.fieldLink RX6 32 "OrderlatticeModel" "thrown" "I") (tm 693 (by decide +kernel) rfl)) dX6_knock_2 (fun H locs hX => ?_)
  refine lv_aload_n hx hb dX6_knock_5 rfl (lv_at hl 0 rfl) ?_
  refine lv_dup hx hb dX6_knock_6 rfl ?_
  refine km_gknocks (n := M.2.2.2.2.2) hx hb hts hin6 hown hX rfl (hts (.fieldLink RX6 151 "OrderlatticeModel" "knocks" "I") (tm 829 (by decide +kernel) rfl)) dX6_knock_7 ?_
  refine lv_iconst (v := nI 1) hx hb dX6_knock_10 (by decide) ?_
  refine kn_iadd hx hb dX6_knock_11 ?_
  refine lv_dup_x1 hx hb dX6_knock_12 rfl rfl ?_
  refine km_pknocks (M' := (mN M (0, M.2.2.2.1, M.2.2.2.2.1, M.2.2.2.2.2 + 1))) hx hb hts hin6 hown hX rfl (hts (.fieldLink RX6 151 "OrderlatticeModel" "knocks" "I") (tm 829 (by decide +kernel) rfl)) dX6_knock_13 (fun H locs hX => ?_)
  exact W.iret (v := nI (M.2.2.2.2.2 + 1)) hx hb hr (fun t9 ht9 hW9 => ⟨⟨_, (mN M (0, M.2.2.2.1, M.2.2.2.2.1, M.2.2.2.2.2 + 1)), rfl, ⟨rfl, rfl⟩, hX.P ht9 hW9⟩, hX.2.2.2.F ht9⟩) hX.2.2.2.2.2 dX6_knock_16
set_option maxHeartbeats 4000000 in
set_option maxRecDepth 100000 in
theorem m_X6_isSound (l : Launch) (dC : Nat → ClassId) (dI : Nat → Nat → Nat) (am : Nat → Nat) (M : MS) : Met l yX6_isSound wsX6_isSound ({ frames := 0, cells := 0, slots := 0, locals := 0 } : Room) (va_Pc [.ref (am 0)] (PM dC dI am M)) (va_Qi (fun r M' => r = bI true ∧ M' = thM M 0) (PM dC dI am) (AM am)) 0 0 (AM am) := by
  refine Met.ofW (cc := cX6_isSound) (maxL := 1) (ret := (some .boolean)) pl_X6 rfl ?_
  intro p e s m args below meth c s₁ B hml hv
  obtain ⟨rfl, hPX⟩ := hv
  have hx := B.exec
  have hb := B.bytes
  have hr := B.returns
  have hts := atoms_spec (ws := wsX6_isSound) B.pre
  have hown : s.vm.findClass RX6 = some m.cls := findClass_of_methodNamed B.named
  have hlocks := B.notSynchronized
  have hin6 : ∀ w ∈ u_ws RX6 TX6 10, w ∈ wsX6_isSound := tu 1331 (by decide +kernel) rfl
  have hX := WM.of hPX
  have hl := lv_entry ([.ref (am 0)]) (n := 1) (Nat.le_of_ble_eq_true rfl)
  rw [lg_entry_eq]
  generalize (lg_sl ([.ref (am 0)]) ++ List.replicate (1 - (lg_sl ([.ref (am 0)])).length) Slot.unset).toArray = ls at hl ⊢
  have hl : lv_has ls 1 [(0, .ref (am 0))] := hl
  show W p l e ({ frames := 0, cells := 0, slots := 0, locals := 0 } : Room) s m ([.ref (am 0)]).toArray below meth c s.heap [] 0 0 (MQ below (va_Qi (fun r M' => r = bI true ∧ M' = thM M 0) (PM dC dI am) (AM am)) ([.ref (am 0)]).toArray s 0 0 (AM am)) (F0 m 0 ls [])
  refine lv_aload_n hx hb dX6_isSound_0 rfl (lv_at hl 0 rfl) ?_
  refine lv_iconst (v := nI 0) hx hb dX6_isSound_1 (by decide) ?_
  refine km_pthrown (M' := (mN M (0, M.2.2.2.1, M.2.2.2.2.1, M.2.2.2.2.2))) hx hb hts hin6 hown hX rfl (hts (.fieldLink RX6 32 "OrderlatticeModel" "thrown" "I") (tm 693 (by decide +kernel) rfl)) dX6_isSound_2 (fun H locs hX => ?_)
  refine lv_iconst (v := nI 1) hx hb dX6_isSound_5 (by decide) ?_
  exact W.zret (v := bI true) hx hb hr (bI_narrow _) (fun t9 ht9 hW9 => ⟨⟨_, (mN M (0, M.2.2.2.1, M.2.2.2.2.1, M.2.2.2.2.2)), rfl, ⟨rfl, rfl⟩, hX.P ht9 hW9⟩, hX.2.2.2.F ht9⟩) hX.2.2.2.2.2 dX6_isSound_6
set_option maxHeartbeats 4000000 in
set_option maxRecDepth 100000 in
theorem m_X6_houseNow (l : Launch) (dC : Nat → ClassId) (dI : Nat → Nat → Nat) (am : Nat → Nat) (M : MS) (k : Nat) (hk : k < 5) (hI : InvM M) : Met l yX6_houseNow wsX6_houseNow ({ frames := 0, cells := 0, slots := 0, locals := 0 } : Room) (va_Pc [.ref (am 0), .int (nI k)] (PM dC dI am M)) (vp_Si (fun r => r = nI (houM M k))) 0 0 (fun _ => False) := by
  refine Met.ofW (cc := cX6_houseNow) (maxL := 8) (ret := (some .int)) pl_X6 rfl ?_
  intro p e s m args below meth c s₁ B hml hv
  obtain ⟨rfl, hPX⟩ := hv
  have hx := B.exec
  have hb := B.bytes
  have hr := B.returns
  have hts := atoms_spec (ws := wsX6_houseNow) B.pre
  have hown : s.vm.findClass RX6 = some m.cls := findClass_of_methodNamed B.named
  have hlocks := B.notSynchronized
  have hin6 : ∀ w ∈ u_ws RX6 TX6 10, w ∈ wsX6_houseNow := tu 1331 (by decide +kernel) rfl
  have hX := WM.of hPX
  have hl := lv_entry ([.ref (am 0), .int (nI k)]) (n := 8) (Nat.le_of_ble_eq_true rfl)
  rw [lg_entry_eq]
  generalize (lg_sl ([.ref (am 0), .int (nI k)]) ++ List.replicate (8 - (lg_sl ([.ref (am 0), .int (nI k)])).length) Slot.unset).toArray = ls at hl ⊢
  have hl : lv_has ls 8 [(0, .ref (am 0)), (1, .int (nI k))] := hl
  show W p l e ({ frames := 0, cells := 0, slots := 0, locals := 0 } : Room) s m ([.ref (am 0), .int (nI k)]).toArray below meth c s.heap [] 0 0 (MQ below (vp_Si (fun r => r = nI (houM M k))) ([.ref (am 0), .int (nI k)]).toArray s 0 0 (fun _ => False)) (F0 m 0 ls [])
  have h0 := (hI.1 0 (by omega)).1
  have h1 := (hI.1 1 (by omega)).1
  have h2 := (hI.1 2 (by omega)).1
  refine lv_iconst (v := nI 0) hx hb dX6_houseNow_0 (by decide) ?_
  refine lv_istore_n (lv' := [(2, .int (nI 0)), (0, .ref (am 0)), (1, .int (nI k))]) hx hb dX6_houseNow_1 rfl hl (by decide) rfl (fun ls hl => ?_)
  refine lv_iconst (v := nI 0) hx hb dX6_houseNow_2 (by decide) ?_
  refine lv_istore_n (lv' := [(3, .int (nI 0)), (2, .int (nI 0)), (0, .ref (am 0)), (1, .int (nI k))]) hx hb dX6_houseNow_3 rfl hl (by decide) rfl (fun ls hl => ?_)
  refine lv_aload_n hx hb dX6_houseNow_4 rfl (lv_at hl 2 rfl) ?_
  refine km_gsizes hx hb hts hin6 hown hX (hts (.fieldLink RX6 17 "OrderlatticeModel" "sizes" "[I") (tm 681 (by decide +kernel) rfl)) dX6_houseNow_5 ?_
  refine lv_astore (lv' := [(4, .ref (am 3)), (3, .int (nI 0)), (2, .int (nI 0)), (0, .ref (am 0)), (1, .int (nI k))]) hx hb dX6_houseNow_8 hl (by decide) rfl (fun ls hl => ?_)
  refine lv_aload hx hb dX6_houseNow_10 (lv_at hl 0 rfl) ?_
  refine km_nz hx hb hX dX6_houseNow_12 ?_
  refine lv_istore (lv' := [(5, .int (nI 3)), (4, .ref (am 3)), (3, .int (nI 0)), (2, .int (nI 0)), (0, .ref (am 0)), (1, .int (nI k))]) hx hb dX6_houseNow_13 hl (by decide) rfl (fun ls hl => ?_)
  refine lv_iconst (v := nI 0) hx hb dX6_houseNow_15 (by decide) ?_
  refine lv_istore (lv' := [(6, .int (nI 0)), (5, .int (nI 3)), (4, .ref (am 3)), (3, .int (nI 0)), (2, .int (nI 0)), (0, .ref (am 0)), (1, .int (nI k))]) hx hb dX6_houseNow_16 hl (by decide) rfl (fun ls hl => ?_)
  have loop18 : ∀ (fuel : Nat) (q a : Nat) (ha : a ≤ 3) (hq : q = sumN (fun k => (M.1 k).2.2) a), 3 - a < fuel → ∀ ls : Array Slot, lv_has ls 8 [(0, .ref (am 0)), (1, .int (nI k)), (2, .int (nI q)), (3, .int (nI 0)), (4, .ref (am 3)), (5, .int (nI 3)), (6, .int (nI a))] → W p l e ({ frames := 0, cells := 0, slots := 0, locals := 0 } : Room) s m ([.ref (am 0), .int (nI k)]).toArray below meth c s.heap [] 0 0 (MQ below (vp_Si (fun r => r = nI (houM M k))) ([.ref (am 0), .int (nI k)]).toArray s 0 0 (fun _ => False)) (F0 m 18 ls []) := by
    intro fuel
    induction fuel with
    | zero => intro q a ha hq hf; exact absurd hf (Nat.not_lt_zero _)
    | succ fuel ih18 =>
      intro q a ha hq hf ls hl
      refine lv_iload hx hb dX6_houseNow_18 (lv_at hl 6 rfl) ?_
      refine lv_iload hx hb dX6_houseNow_20 (lv_at hl 5 rfl) ?_
      refine kn_icmp_ge (tgt := 43) hx hb (by omega) (by omega) dX6_houseNow_22 (by decide) (fun k_1 => ?_) (fun k_1 => ?_)
      · skip
        refine lv_aload_n hx hb dX6_houseNow_43 rfl (lv_at hl 0 rfl) ?_
        refine km_gsteps hx hb hts hin6 hown hX (hts (.fieldLink RX6 29 "OrderlatticeModel" "steps" "[I") (tm 724 (by decide +kernel) rfl)) dX6_houseNow_44 ?_
        refine lv_astore (lv' := [(4, .ref (am 6)), (0, .ref (am 0)), (1, .int (nI k)), (2, .int (nI q)), (3, .int (nI 0)), (5, .int (nI 3)), (6, .int (nI a))]) hx hb dX6_houseNow_47 hl (by decide) rfl (fun ls hl => ?_)
        refine lv_aload hx hb dX6_houseNow_49 (lv_at hl 0 rfl) ?_
        refine km_nt hx hb hX dX6_houseNow_51 ?_
        refine lv_istore (lv' := [(5, .int (nI 4)), (4, .ref (am 6)), (0, .ref (am 0)), (1, .int (nI k)), (2, .int (nI q)), (3, .int (nI 0)), (6, .int (nI a))]) hx hb dX6_houseNow_52 hl (by decide) rfl (fun ls hl => ?_)
        refine lv_iconst (v := nI 0) hx hb dX6_houseNow_54 (by decide) ?_
        refine lv_istore (lv' := [(6, .int (nI 0)), (5, .int (nI 4)), (4, .ref (am 6)), (0, .ref (am 0)), (1, .int (nI k)), (2, .int (nI q)), (3, .int (nI 0))]) hx hb dX6_houseNow_55 hl (by decide) rfl (fun ls hl => ?_)
        have loop57 : ∀ (fuel : Nat) (q2 a2 : Nat) (ha2 : a2 ≤ 4) (hq2 : q2 = sumN (fun k => (M.2.1 k).2.2) a2), 4 - a2 < fuel → ∀ ls : Array Slot, lv_has ls 8 [(0, .ref (am 0)), (1, .int (nI k)), (2, .int (nI q)), (3, .int (nI q2)), (4, .ref (am 6)), (5, .int (nI 4)), (6, .int (nI a2))] → W p l e ({ frames := 0, cells := 0, slots := 0, locals := 0 } : Room) s m ([.ref (am 0), .int (nI k)]).toArray below meth c s.heap [] 0 0 (MQ below (vp_Si (fun r => r = nI (houM M k))) ([.ref (am 0), .int (nI k)]).toArray s 0 0 (fun _ => False)) (F0 m 57 ls []) := by
          intro fuel
          induction fuel with
          | zero => intro q2 a2 ha2 hq2 hf; exact absurd hf (Nat.not_lt_zero _)
          | succ fuel ih57 =>
            intro q2 a2 ha2 hq2 hf ls hl
            refine lv_iload hx hb dX6_houseNow_57 (lv_at hl 6 rfl) ?_
            refine lv_iload hx hb dX6_houseNow_59 (lv_at hl 5 rfl) ?_
            refine kn_icmp_ge (tgt := 82) hx hb (by omega) (by omega) dX6_houseNow_61 (by decide) (fun k_2 => ?_) (fun k_2 => ?_)
            · skip
              rcases (show k = 0 ∨ k = 1 ∨ k = 2 ∨ k = 3 ∨ k = 4 by omega) with rfl | rfl | rfl | rfl | rfl
              · skip
                have hl : lv_has ls 8 [(0, .ref (am 0)), (1, .int (nI 0)), (2, .int (nI q)), (3, .int (nI q2)), (4, .ref (am 6)), (5, .int (nI 4)), (6, .int (nI a2))] := hl
                refine lv_iload_n hx hb dX6_houseNow_82 rfl (lv_at hl 1 rfl) ?_
                refine kn_if_ne (tgt := 90) hx hb (by omega) dX6_houseNow_83 (by decide) (fun k_3 => absurd k_3 (by omega)) (fun k_3 => ?_)
                refine lv_iload_n hx hb dX6_houseNow_86 rfl (lv_at hl 2 rfl) ?_
                refine lv_goto (tgt := 127) hx hb dX6_houseNow_87 (by decide) ?_
                exact W.iret (v := nI q) hx hb hr (fun t9 ht9 hW9 => ⟨_, rfl, (by rw [hq, show a = 3 by omega]; rfl), ht9⟩) (fun _ h => nomatch h) dX6_houseNow_127
              · skip
                have hl : lv_has ls 8 [(0, .ref (am 0)), (1, .int (nI 1)), (2, .int (nI q)), (3, .int (nI q2)), (4, .ref (am 6)), (5, .int (nI 4)), (6, .int (nI a2))] := hl
                refine lv_iload_n hx hb dX6_houseNow_82 rfl (lv_at hl 1 rfl) ?_
                refine kn_if_ne (tgt := 90) hx hb (by omega) dX6_houseNow_83 (by decide) (fun k_4 => ?_) (fun k_4 => absurd k_4 (by omega))
                refine lv_iload_n hx hb dX6_houseNow_90 rfl (lv_at hl 1 rfl) ?_
                refine lv_iconst (v := nI 1) hx hb dX6_houseNow_91 (by decide) ?_
                refine kn_icmp_ne (tgt := 99) hx hb (by omega) (by omega) dX6_houseNow_92 (by decide) (fun k_5 => absurd k_5 (by omega)) (fun k_5 => ?_)
                refine lv_iload_n hx hb dX6_houseNow_95 rfl (lv_at hl 3 rfl) ?_
                refine lv_goto (tgt := 127) hx hb dX6_houseNow_96 (by decide) ?_
                exact W.iret (v := nI q2) hx hb hr (fun t9 ht9 hW9 => ⟨_, rfl, (by rw [hq2, show a2 = 4 by omega]; rfl), ht9⟩) (fun _ h => nomatch h) dX6_houseNow_127
              · skip
                have hl : lv_has ls 8 [(0, .ref (am 0)), (1, .int (nI 2)), (2, .int (nI q)), (3, .int (nI q2)), (4, .ref (am 6)), (5, .int (nI 4)), (6, .int (nI a2))] := hl
                refine lv_iload_n hx hb dX6_houseNow_82 rfl (lv_at hl 1 rfl) ?_
                refine kn_if_ne (tgt := 90) hx hb (by omega) dX6_houseNow_83 (by decide) (fun k_6 => ?_) (fun k_6 => absurd k_6 (by omega))
                refine lv_iload_n hx hb dX6_houseNow_90 rfl (lv_at hl 1 rfl) ?_
                refine lv_iconst (v := nI 1) hx hb dX6_houseNow_91 (by decide) ?_
                refine kn_icmp_ne (tgt := 99) hx hb (by omega) (by omega) dX6_houseNow_92 (by decide) (fun k_7 => ?_) (fun k_7 => absurd k_7 (by omega))
                refine lv_iload_n hx hb dX6_houseNow_99 rfl (lv_at hl 1 rfl) ?_
                refine lv_iconst (v := nI 2) hx hb dX6_houseNow_100 (by decide) ?_
                refine kn_icmp_ne (tgt := 111) hx hb (by omega) (by omega) dX6_houseNow_101 (by decide) (fun k_8 => absurd k_8 (by omega)) (fun k_8 => ?_)
                refine lv_aload_n hx hb dX6_houseNow_104 rfl (lv_at hl 0 rfl) ?_
                refine km_gput (n := M.2.2.2.1) hx hb hts hin6 hown hX rfl (hts (.fieldLink RX6 62 "OrderlatticeModel" "put" "I") (tm 712 (by decide +kernel) rfl)) dX6_houseNow_105 ?_
                refine lv_goto (tgt := 127) hx hb dX6_houseNow_108 (by decide) ?_
                exact W.iret (v := nI M.2.2.2.1) hx hb hr (fun t9 ht9 hW9 => ⟨_, rfl, rfl, ht9⟩) (fun _ h => nomatch h) dX6_houseNow_127
              · skip
                have hl : lv_has ls 8 [(0, .ref (am 0)), (1, .int (nI 3)), (2, .int (nI q)), (3, .int (nI q2)), (4, .ref (am 6)), (5, .int (nI 4)), (6, .int (nI a2))] := hl
                refine lv_iload_n hx hb dX6_houseNow_82 rfl (lv_at hl 1 rfl) ?_
                refine kn_if_ne (tgt := 90) hx hb (by omega) dX6_houseNow_83 (by decide) (fun k_9 => ?_) (fun k_9 => absurd k_9 (by omega))
                refine lv_iload_n hx hb dX6_houseNow_90 rfl (lv_at hl 1 rfl) ?_
                refine lv_iconst (v := nI 1) hx hb dX6_houseNow_91 (by decide) ?_
                refine kn_icmp_ne (tgt := 99) hx hb (by omega) (by omega) dX6_houseNow_92 (by decide) (fun k_10 => ?_) (fun k_10 => absurd k_10 (by omega))
                refine lv_iload_n hx hb dX6_houseNow_99 rfl (lv_at hl 1 rfl) ?_
                refine lv_iconst (v := nI 2) hx hb dX6_houseNow_100 (by decide) ?_
                refine kn_icmp_ne (tgt := 111) hx hb (by omega) (by omega) dX6_houseNow_101 (by decide) (fun k_11 => ?_) (fun k_11 => absurd k_11 (by omega))
                refine lv_iload_n hx hb dX6_houseNow_111 rfl (lv_at hl 1 rfl) ?_
                refine lv_iconst (v := nI 3) hx hb dX6_houseNow_112 (by decide) ?_
                refine kn_icmp_ne (tgt := 123) hx hb (by omega) (by omega) dX6_houseNow_113 (by decide) (fun k_12 => absurd k_12 (by omega)) (fun k_12 => ?_)
                refine lv_aload_n hx hb dX6_houseNow_116 rfl (lv_at hl 0 rfl) ?_
                refine km_grefused (n := M.2.2.2.2.1) hx hb hts hin6 hown hX rfl (hts (.fieldLink RX6 44 "OrderlatticeModel" "refused" "I") (tm 705 (by decide +kernel) rfl)) dX6_houseNow_117 ?_
                refine lv_goto (tgt := 127) hx hb dX6_houseNow_120 (by decide) ?_
                exact W.iret (v := nI M.2.2.2.2.1) hx hb hr (fun t9 ht9 hW9 => ⟨_, rfl, rfl, ht9⟩) (fun _ h => nomatch h) dX6_houseNow_127
              · skip
                have hl : lv_has ls 8 [(0, .ref (am 0)), (1, .int (nI 4)), (2, .int (nI q)), (3, .int (nI q2)), (4, .ref (am 6)), (5, .int (nI 4)), (6, .int (nI a2))] := hl
                refine lv_iload_n hx hb dX6_houseNow_82 rfl (lv_at hl 1 rfl) ?_
                refine kn_if_ne (tgt := 90) hx hb (by omega) dX6_houseNow_83 (by decide) (fun k_13 => ?_) (fun k_13 => absurd k_13 (by omega))
                refine lv_iload_n hx hb dX6_houseNow_90 rfl (lv_at hl 1 rfl) ?_
                refine lv_iconst (v := nI 1) hx hb dX6_houseNow_91 (by decide) ?_
                refine kn_icmp_ne (tgt := 99) hx hb (by omega) (by omega) dX6_houseNow_92 (by decide) (fun k_14 => ?_) (fun k_14 => absurd k_14 (by omega))
                refine lv_iload_n hx hb dX6_houseNow_99 rfl (lv_at hl 1 rfl) ?_
                refine lv_iconst (v := nI 2) hx hb dX6_houseNow_100 (by decide) ?_
                refine kn_icmp_ne (tgt := 111) hx hb (by omega) (by omega) dX6_houseNow_101 (by decide) (fun k_15 => ?_) (fun k_15 => absurd k_15 (by omega))
                refine lv_iload_n hx hb dX6_houseNow_111 rfl (lv_at hl 1 rfl) ?_
                refine lv_iconst (v := nI 3) hx hb dX6_houseNow_112 (by decide) ?_
                refine kn_icmp_ne (tgt := 123) hx hb (by omega) (by omega) dX6_houseNow_113 (by decide) (fun k_16 => ?_) (fun k_16 => absurd k_16 (by omega))
                refine lv_aload_n hx hb dX6_houseNow_123 rfl (lv_at hl 0 rfl) ?_
                refine km_gknocks (n := M.2.2.2.2.2) hx hb hts hin6 hown hX rfl (hts (.fieldLink RX6 151 "OrderlatticeModel" "knocks" "I") (tm 829 (by decide +kernel) rfl)) dX6_houseNow_124 ?_
                exact W.iret (v := nI M.2.2.2.2.2) hx hb hr (fun t9 ht9 hW9 => ⟨_, rfl, rfl, ht9⟩) (fun _ h => nomatch h) dX6_houseNow_127
            · skip
              refine lv_aload hx hb dX6_houseNow_64 (lv_at hl 4 rfl) ?_
              refine lv_iload hx hb dX6_houseNow_66 (lv_at hl 6 rfl) ?_
              refine km_lt (v := (M.2.1 a2).2.2) hx hb hX (by omega) rfl dX6_houseNow_68 ?_
              refine lv_istore (lv' := [(7, .int (nI ((M.2.1 a2).2.2))), (0, .ref (am 0)), (1, .int (nI k)), (2, .int (nI q)), (3, .int (nI q2)), (4, .ref (am 6)), (5, .int (nI 4)), (6, .int (nI a2))]) hx hb dX6_houseNow_69 hl (by decide) rfl (fun ls hl => ?_)
              refine lv_iload_n hx hb dX6_houseNow_71 rfl (lv_at hl 4 rfl) ?_
              refine lv_iload hx hb dX6_houseNow_72 (lv_at hl 0 rfl) ?_
              refine kn_iadd hx hb dX6_houseNow_74 ?_
              refine lv_istore_n (lv' := [(3, .int (nI (q2 + ((M.2.1 a2).2.2)))), (7, .int (nI ((M.2.1 a2).2.2))), (0, .ref (am 0)), (1, .int (nI k)), (2, .int (nI q)), (4, .ref (am 6)), (5, .int (nI 4)), (6, .int (nI a2))]) hx hb dX6_houseNow_75 rfl hl (by decide) rfl (fun ls hl => ?_)
              refine lv_iinc (v := nI (a2 + 1)) (lv' := [(6, .int (nI (a2 + 1))), (3, .int (nI (q2 + ((M.2.1 a2).2.2)))), (7, .int (nI ((M.2.1 a2).2.2))), (0, .ref (am 0)), (1, .int (nI k)), (2, .int (nI q)), (4, .ref (am 6)), (5, .int (nI 4))]) hx hb dX6_houseNow_76 hl (k := 7) rfl (nI_1 a2) (by decide) rfl (fun ls hl => ?_)
              refine lv_goto (tgt := 57) hx hb dX6_houseNow_79 (by decide) ?_
              exact ih57  (q2 + ((M.2.1 a2).2.2)) (a2 + 1) (by omega) (by rw [hq2]; rfl) (by omega) _ (lv_sub hl [3, 4, 5, 1, 6, 7, 0] rfl)
        exact loop57 (4 + 1) 0 0 (by omega) rfl (by omega) _ (lv_sub hl [3, 4, 5, 6, 2, 1, 0] rfl)
      · skip
        refine lv_aload hx hb dX6_houseNow_25 (lv_at hl 4 rfl) ?_
        refine lv_iload hx hb dX6_houseNow_27 (lv_at hl 6 rfl) ?_
        refine km_lz (v := (M.1 a).2.2) hx hb hX (by omega) rfl dX6_houseNow_29 ?_
        refine lv_istore (lv' := [(7, .int (nI ((M.1 a).2.2))), (0, .ref (am 0)), (1, .int (nI k)), (2, .int (nI q)), (3, .int (nI 0)), (4, .ref (am 3)), (5, .int (nI 3)), (6, .int (nI a))]) hx hb dX6_houseNow_30 hl (by decide) rfl (fun ls hl => ?_)
        refine lv_iload_n hx hb dX6_houseNow_32 rfl (lv_at hl 3 rfl) ?_
        refine lv_iload hx hb dX6_houseNow_33 (lv_at hl 0 rfl) ?_
        refine kn_iadd hx hb dX6_houseNow_35 ?_
        refine lv_istore_n (lv' := [(2, .int (nI (q + ((M.1 a).2.2)))), (7, .int (nI ((M.1 a).2.2))), (0, .ref (am 0)), (1, .int (nI k)), (3, .int (nI 0)), (4, .ref (am 3)), (5, .int (nI 3)), (6, .int (nI a))]) hx hb dX6_houseNow_36 rfl hl (by decide) rfl (fun ls hl => ?_)
        refine lv_iinc (v := nI (a + 1)) (lv' := [(6, .int (nI (a + 1))), (2, .int (nI (q + ((M.1 a).2.2)))), (7, .int (nI ((M.1 a).2.2))), (0, .ref (am 0)), (1, .int (nI k)), (3, .int (nI 0)), (4, .ref (am 3)), (5, .int (nI 3))]) hx hb dX6_houseNow_37 hl (k := 7) rfl (nI_1 a) (by decide) rfl (fun ls hl => ?_)
        refine lv_goto (tgt := 18) hx hb dX6_houseNow_40 (by decide) ?_
        exact ih18  (q + ((M.1 a).2.2)) (a + 1) (by omega) (by rw [hq]; rfl) (by omega) _ (lv_sub hl [3, 4, 1, 5, 6, 7, 0] rfl)
  exact loop18 (3 + 1) 0 0 (by omega) rfl (by omega) _ (lv_sub hl [5, 6, 4, 3, 2, 1, 0] rfl)
set_option maxHeartbeats 4000000 in
set_option maxRecDepth 100000 in
theorem m_X6_house (l : Launch) (dC : Nat → ClassId) (dI : Nat → Nat → Nat) (am : Nat → Nat) (M : MS) (k : Nat) (hk : k ≤ 4) (hI : InvM M) : Met l yX6_house wsX6_house ({ frames := 2, cells := 0, slots := 0, locals := 44 } : Room) (va_Pc [.ref (am 0), .int (nI k)] (PM dC dI am M)) (va_Qi (fun r M' => r = nI (houM M k) ∧ M' = thM M 0) (PM dC dI am) (AM am)) 0 0 (AM am) := by
  refine Met.ofW (cc := cX6_house) (maxL := 2) (ret := (some .int)) pl_X6 rfl ?_
  intro p e s m args below meth c s₁ B hml hv
  obtain ⟨rfl, hPX⟩ := hv
  have hx := B.exec
  have hb := B.bytes
  have hr := B.returns
  have hts := atoms_spec (ws := wsX6_house) B.pre
  have hown : s.vm.findClass RX6 = some m.cls := findClass_of_methodNamed B.named
  have hlocks := B.notSynchronized
  have hX := WM.of hPX
  have hl := lv_entry ([.ref (am 0), .int (nI k)]) (n := 2) (Nat.le_of_ble_eq_true rfl)
  rw [lg_entry_eq]
  generalize (lg_sl ([.ref (am 0), .int (nI k)]) ++ List.replicate (2 - (lg_sl ([.ref (am 0), .int (nI k)])).length) Slot.unset).toArray = ls at hl ⊢
  have hl : lv_has ls 2 [(0, .ref (am 0)), (1, .int (nI k))] := hl
  show W p l e ({ frames := 2, cells := 0, slots := 0, locals := 44 } : Room) s m ([.ref (am 0), .int (nI k)]).toArray below meth c s.heap [] 0 0 (MQ below (va_Qi (fun r M' => r = nI (houM M k) ∧ M' = thM M 0) (PM dC dI am) (AM am)) ([.ref (am 0), .int (nI k)]).toArray s 0 0 (AM am)) (F0 m 0 ls [])
  refine lv_aload_n hx hb dX6_house_0 rfl (lv_at hl 0 rfl) ?_
  refine lv_iload_n hx hb dX6_house_1 rfl (lv_at hl 1 rfl) ?_
  refine lv_iconst (v := nI 4) hx hb dX6_house_2 (by decide) ?_
  refine kx_cr (v := bI false) (va_runS (As := [.int (nI k), .int (nI 4)]) (rest := [.ref (am 0)]) ⟨hx, hb, hml, hown, hts⟩ (m_X6_isNo l dC dI am M (nI k) (nI 4)) (va_cwS 2 hts gX6_house_X6_isNo rfl rfl rfl hdX6_isNo_2.2 ⟨Nat.le_of_ble_eq_true rfl, Nat.le_of_ble_eq_true rfl⟩) hX.preS rfl rfl hl.1 rfl (lv_room (Nat.le_of_ble_eq_true rfl)) dX6_house_3 ⟨Nat.le_of_ble_eq_true rfl, Nat.le_of_ble_eq_true rfl⟩) (fun _ h => h.trans (isNo_ok (by omega) (by omega))) ?_
  refine lv_iconst (v := nI 1) hx hb dX6_house_6 (by decide) ?_
  refine km_ci (va_runV (As := [.int (bI false), .int (nI 1)]) (rest := []) ⟨hx, hb, hml, hown, hts⟩ (m_X6_start l dC dI am M false 1 (by omega)) (cwV 2 hts gX6_house_X6_start rfl rfl rfl hdX6_start_2 ⟨Nat.le_of_ble_eq_true rfl, Nat.le_of_ble_eq_true rfl⟩) (hX.preObj) rfl rfl hl.1 rfl (lv_room (Nat.le_of_ble_eq_true rfl)) dX6_house_7 ⟨Nat.le_of_ble_eq_true rfl, Nat.le_of_ble_eq_true rfl⟩) hX (fun _ h => h) (fun r_ S_ H locs hw hX => ?_)
  obtain ⟨rfl, rfl⟩ := hw
  refine kb_if_eq (tgt := 17) hx hb dX6_house_10 (by decide) (fun k_1 => ?_) (fun k_1 => absurd k_1 (by decide))
  refine lv_aload_n hx hb dX6_house_17 rfl (lv_at hl 0 rfl) ?_
  refine lv_iload_n hx hb dX6_house_18 rfl (lv_at hl 1 rfl) ?_
  refine kx_cr (v := nI (houM M k)) (va_runV (As := [.int (nI k)]) (rest := []) ⟨hx, hb, hml, hown, hts⟩ (m_X6_houseNow l dC dI am (mN M (0, M.2.2.2.1, M.2.2.2.2.1, M.2.2.2.2.2)) k (by omega) hI) (cwV 1 hts gX6_house_X6_houseNow rfl rfl rfl hdX6_houseNow_1 ⟨Nat.le_of_ble_eq_true rfl, Nat.le_of_ble_eq_true rfl⟩) (hX.preObj) rfl rfl hl.1 rfl (lv_room (Nat.le_of_ble_eq_true rfl)) dX6_house_19 ⟨Nat.le_of_ble_eq_true rfl, Nat.le_of_ble_eq_true rfl⟩) (fun _ h => h) ?_
  exact W.iret (v := nI (houM M k)) hx hb hr (fun t9 ht9 hW9 => ⟨⟨_, (mN M (0, M.2.2.2.1, M.2.2.2.2.1, M.2.2.2.2.2)), rfl, ⟨rfl, rfl⟩, hX.P ht9 hW9⟩, hX.2.2.2.F ht9⟩) hX.2.2.2.2.2 dX6_house_22
set_option maxHeartbeats 4000000 in
set_option maxRecDepth 100000 in
theorem m_X6_digest (l : Launch) (dC : Nat → ClassId) (dI : Nat → Nat → Nat) (am : Nat → Nat) (M : MS) (hI : InvM M) (hc : M.2.2.2.1 < 2 ^ 31 ∧ M.2.2.2.2.1 < 2 ^ 31 ∧ M.2.2.2.2.2 < 2 ^ 31) : Met l yX6_digest wsX6_digest ({ frames := 4, cells := 0, slots := 0, locals := 98 } : Room) (va_Pc [.ref (am 0)] (PM dC dI am M)) (va_Ql (fun r M' => r = digM M ∧ M' = thM M 0) (PM dC dI am) (AM am)) 0 0 (AM am) := by
  refine Met.ofW (cc := cX6_digest) (maxL := 5) (ret := (some .long)) pl_X6 rfl ?_
  intro p e s m args below meth c s₁ B hml hv
  obtain ⟨rfl, hPX⟩ := hv
  have hx := B.exec
  have hb := B.bytes
  have hr := B.returns
  have hts := atoms_spec (ws := wsX6_digest) B.pre
  have hown : s.vm.findClass RX6 = some m.cls := findClass_of_methodNamed B.named
  have hlocks := B.notSynchronized
  have hin6 : ∀ w ∈ u_ws RX6 TX6 10, w ∈ wsX6_digest := tu 1331 (by decide +kernel) rfl
  have hX := WM.of hPX
  have hl := lv_entry ([.ref (am 0)]) (n := 5) (Nat.le_of_ble_eq_true rfl)
  rw [lg_entry_eq]
  generalize (lg_sl ([.ref (am 0)]) ++ List.replicate (5 - (lg_sl ([.ref (am 0)])).length) Slot.unset).toArray = ls at hl ⊢
  have hl : lv_has ls 5 [(0, .ref (am 0))] := hl
  show W p l e ({ frames := 4, cells := 0, slots := 0, locals := 98 } : Room) s m ([.ref (am 0)]).toArray below meth c s.heap [] 0 0 (MQ below (va_Ql (fun r M' => r = digM M ∧ M' = thM M 0) (PM dC dI am) (AM am)) ([.ref (am 0)]).toArray s 0 0 (AM am)) (F0 m 0 ls [])
  refine lv_aload_n hx hb dX6_digest_0 rfl (lv_at hl 0 rfl) ?_
  refine lv_iconst (v := nI 0) hx hb dX6_digest_1 (by decide) ?_
  refine km_pthrown (M' := (mN M (0, M.2.2.2.1, M.2.2.2.2.1, M.2.2.2.2.2))) hx hb hts hin6 hown hX rfl (hts (.fieldLink RX6 32 "OrderlatticeModel" "thrown" "I") (tm 693 (by decide +kernel) rfl)) dX6_digest_2 (fun H locs hX => ?_)
  refine lv_ldc2 (v := lN 7842) hx hb hown (hts (.constantLong RX6 157 7842) (tm 823 (by decide +kernel) rfl)) dX6_digest_5 ?_
  refine lv_lstore_n (lv' := [(1, .long (lN 7842)), (0, .ref (am 0))]) hx hb dX6_digest_8 rfl hl (by decide) rfl (fun ls hl => ?_)
  refine lv_iconst (v := nI 0) hx hb dX6_digest_9 (by decide) ?_
  refine lv_istore_n (lv' := [(3, .int (nI 0)), (1, .long (lN 7842)), (0, .ref (am 0))]) hx hb dX6_digest_10 rfl hl (by decide) rfl (fun ls hl => ?_)
  have loop11 : ∀ (fuel : Nat) (d : Int64) (a : Nat) (hh_a : a ≤ 5) (qa : d = iterL (fun k d => mixI d (houM M k)) a (lN 7842)) (H : Heap) (locs : List Loc), 5 - a < fuel → WM dC dI am (mN M (0, M.2.2.2.1, M.2.2.2.2.1, M.2.2.2.2.2)) [] (AM am) s H locs → ∀ ls : Array Slot, lv_has ls 5 [(0, .ref (am 0)), (1, .long d), (3, .int (nI a))] → W p l e ({ frames := 4, cells := 0, slots := 0, locals := 98 } : Room) s m ([.ref (am 0)]).toArray below meth c H locs 0 0 (MQ below (va_Ql (fun r M' => r = digM M ∧ M' = thM M 0) (PM dC dI am) (AM am)) ([.ref (am 0)]).toArray s 0 0 (AM am)) (F0 m 11 ls []) := by
    intro fuel
    induction fuel with
    | zero => intro d a hh_a qa H locs hf; exact absurd hf (Nat.not_lt_zero _)
    | succ fuel ih11 =>
      intro d a hh_a qa H locs hf hX ls hl
      refine lv_iload_n hx hb dX6_digest_11 rfl (lv_at hl 2 rfl) ?_
      refine lv_iconst (v := nI 5) hx hb dX6_digest_12 (by decide) ?_
      refine kn_icmp_ge (tgt := 35) hx hb (by omega) (by omega) dX6_digest_13 (by decide) (fun k_1 => ?_) (fun k_1 => ?_)
      · skip
        refine lv_iconst (v := nI 0) hx hb dX6_digest_35 (by decide) ?_
        refine lv_istore_n (lv' := [(3, .int (nI 0)), (0, .ref (am 0)), (1, .long d)]) hx hb dX6_digest_36 rfl hl (by decide) rfl (fun ls hl => ?_)
        have loop37 : ∀ (fuel : Nat) (d : Int64) (b : Nat) (hh_b : b ≤ 3) (qb : d = iterL (mxRow M) b (mx1 M)) (H : Heap) (locs : List Loc), 3 - b < fuel → WM dC dI am (mN M (0, M.2.2.2.1, M.2.2.2.2.1, M.2.2.2.2.2)) [] (AM am) s H locs → ∀ ls : Array Slot, lv_has ls 5 [(0, .ref (am 0)), (1, .long d), (3, .int (nI b))] → W p l e ({ frames := 4, cells := 0, slots := 0, locals := 98 } : Room) s m ([.ref (am 0)]).toArray below meth c H locs 0 0 (MQ below (va_Ql (fun r M' => r = digM M ∧ M' = thM M 0) (PM dC dI am) (AM am)) ([.ref (am 0)]).toArray s 0 0 (AM am)) (F0 m 37 ls []) := by
          intro fuel
          induction fuel with
          | zero => intro d b hh_b qb H locs hf; exact absurd hf (Nat.not_lt_zero _)
          | succ fuel ih37 =>
            intro d b hh_b qb H locs hf hX ls hl
            refine lv_iload_n hx hb dX6_digest_37 rfl (lv_at hl 2 rfl) ?_
            refine lv_iconst (v := nI 3) hx hb dX6_digest_38 (by decide) ?_
            refine kn_icmp_ge (tgt := 114) hx hb (by omega) (by omega) dX6_digest_39 (by decide) (fun k_2 => ?_) (fun k_2 => ?_)
            · skip
              refine lv_iconst (v := nI 0) hx hb dX6_digest_114 (by decide) ?_
              refine lv_istore_n (lv' := [(3, .int (nI 0)), (0, .ref (am 0)), (1, .long d)]) hx hb dX6_digest_115 rfl hl (by decide) rfl (fun ls hl => ?_)
              have loop116 : ∀ (fuel : Nat) (d : Int64) (o1 : Nat) (hh_o1 : o1 ≤ 4) (qo1 : d = iterL (mxOrd M) o1 (mx2 M)) (H : Heap) (locs : List Loc), 4 - o1 < fuel → WM dC dI am (mN M (0, M.2.2.2.1, M.2.2.2.2.1, M.2.2.2.2.2)) [] (AM am) s H locs → ∀ ls : Array Slot, lv_has ls 5 [(0, .ref (am 0)), (1, .long d), (3, .int (nI o1))] → W p l e ({ frames := 4, cells := 0, slots := 0, locals := 98 } : Room) s m ([.ref (am 0)]).toArray below meth c H locs 0 0 (MQ below (va_Ql (fun r M' => r = digM M ∧ M' = thM M 0) (PM dC dI am) (AM am)) ([.ref (am 0)]).toArray s 0 0 (AM am)) (F0 m 116 ls []) := by
                intro fuel
                induction fuel with
                | zero => intro d o1 hh_o1 qo1 H locs hf; exact absurd hf (Nat.not_lt_zero _)
                | succ fuel ih116 =>
                  intro d o1 hh_o1 qo1 H locs hf hX ls hl
                  refine lv_iload_n hx hb dX6_digest_116 rfl (lv_at hl 2 rfl) ?_
                  refine lv_iconst (v := nI 4) hx hb dX6_digest_117 (by decide) ?_
                  refine kn_icmp_ge (tgt := 245) hx hb (by omega) (by omega) dX6_digest_118 (by decide) (fun k_3 => ?_) (fun k_3 => ?_)
                  · skip
                    refine lv_iconst (v := nI 0) hx hb dX6_digest_245 (by decide) ?_
                    refine lv_istore_n (lv' := [(3, .int (nI 0)), (0, .ref (am 0)), (1, .long d)]) hx hb dX6_digest_246 rfl hl (by decide) rfl (fun ls hl => ?_)
                    have loop247 : ∀ (fuel : Nat) (d : Int64) (f : Nat) (hh_f : f ≤ 4) (qf : d = iterL (fun a d => iterL (mxPair M a) 4 d) f (mx3 M)) (H : Heap) (locs : List Loc), 4 - f < fuel → WM dC dI am (mN M (0, M.2.2.2.1, M.2.2.2.2.1, M.2.2.2.2.2)) [] (AM am) s H locs → ∀ ls : Array Slot, lv_has ls 5 [(0, .ref (am 0)), (1, .long d), (3, .int (nI f))] → W p l e ({ frames := 4, cells := 0, slots := 0, locals := 98 } : Room) s m ([.ref (am 0)]).toArray below meth c H locs 0 0 (MQ below (va_Ql (fun r M' => r = digM M ∧ M' = thM M 0) (PM dC dI am) (AM am)) ([.ref (am 0)]).toArray s 0 0 (AM am)) (F0 m 247 ls []) := by
                      intro fuel
                      induction fuel with
                      | zero => intro d f hh_f qf H locs hf; exact absurd hf (Nat.not_lt_zero _)
                      | succ fuel ih247 =>
                        intro d f hh_f qf H locs hf hX ls hl
                        refine lv_iload_n hx hb dX6_digest_247 rfl (lv_at hl 2 rfl) ?_
                        refine lv_iconst (v := nI 4) hx hb dX6_digest_248 (by decide) ?_
                        refine kn_icmp_ge (tgt := 309) hx hb (by omega) (by omega) dX6_digest_249 (by decide) (fun k_4 => ?_) (fun k_4 => ?_)
                        · skip
                          refine lv_iconst (v := nI 0) hx hb dX6_digest_309 (by decide) ?_
                          refine lv_istore_n (lv' := [(3, .int (nI 0)), (0, .ref (am 0)), (1, .long d)]) hx hb dX6_digest_310 rfl hl (by decide) rfl (fun ls hl => ?_)
                          have loop311 : ∀ (fuel : Nat) (d : Int64) (g : Nat) (hh_g : g ≤ 3) (qg : d = iterL (fun i d => iterL (mxSeq M i) 4 d) g (mx4 M)) (H : Heap) (locs : List Loc), 3 - g < fuel → WM dC dI am (mN M (0, M.2.2.2.1, M.2.2.2.2.1, M.2.2.2.2.2)) [] (AM am) s H locs → ∀ ls : Array Slot, lv_has ls 5 [(0, .ref (am 0)), (1, .long d), (3, .int (nI g))] → W p l e ({ frames := 4, cells := 0, slots := 0, locals := 98 } : Room) s m ([.ref (am 0)]).toArray below meth c H locs 0 0 (MQ below (va_Ql (fun r M' => r = digM M ∧ M' = thM M 0) (PM dC dI am) (AM am)) ([.ref (am 0)]).toArray s 0 0 (AM am)) (F0 m 311 ls []) := by
                            intro fuel
                            induction fuel with
                            | zero => intro d g hh_g qg H locs hf; exact absurd hf (Nat.not_lt_zero _)
                            | succ fuel ih311 =>
                              intro d g hh_g qg H locs hf hX ls hl
                              refine lv_iload_n hx hb dX6_digest_311 rfl (lv_at hl 2 rfl) ?_
                              refine lv_iconst (v := nI 3) hx hb dX6_digest_312 (by decide) ?_
                              refine kn_icmp_ge (tgt := 373) hx hb (by omega) (by omega) dX6_digest_313 (by decide) (fun k_5 => ?_) (fun k_5 => ?_)
                              · skip
                                refine lv_lload_n hx hb dX6_digest_373 rfl (lv_at hl 1 rfl) ?_
                                refine lv_ldc2 (v := lN 31) hx hb hown (hts (.constantLong RX6 159 31) (tm 824 (by decide +kernel) rfl)) dX6_digest_374 ?_
                                refine lv_lmul hx hb dX6_digest_377 ?_
                                refine lv_lconst (v := lN 1) hx hb dX6_digest_378 (by decide) ?_
                                refine lv_ladd hx hb dX6_digest_379 ?_
                                exact W.lret (v := (d * lN 31) + lN 1) hx hb hr (fun t9 ht9 hW9 => ⟨⟨_, (mN M (0, M.2.2.2.1, M.2.2.2.2.1, M.2.2.2.2.2)), rfl, ⟨by rw [qg, show g = 3 by omega, digM, mx5, mixI], rfl⟩, hX.P ht9 hW9⟩, hX.2.2.2.F ht9⟩) hX.2.2.2.2.2 dX6_digest_380
                              · skip
                                refine lv_iconst (v := nI 0) hx hb dX6_digest_316 (by decide) ?_
                                refine lv_istore (lv' := [(4, .int (nI 0)), (0, .ref (am 0)), (1, .long d), (3, .int (nI g))]) hx hb dX6_digest_317 hl (by decide) rfl (fun ls hl => ?_)
                                have loop319 : ∀ (fuel : Nat) (d9 : Int64) (g2 : Nat) (hh_g2 : g2 ≤ 4) (qg2 : d9 = iterL (mxSeq M g) g2 (d)) (H : Heap) (locs : List Loc), 4 - g2 < fuel → WM dC dI am (mN M (0, M.2.2.2.1, M.2.2.2.2.1, M.2.2.2.2.2)) [] (AM am) s H locs → ∀ ls : Array Slot, lv_has ls 5 [(0, .ref (am 0)), (1, .long d9), (3, .int (nI g)), (4, .int (nI g2))] → W p l e ({ frames := 4, cells := 0, slots := 0, locals := 98 } : Room) s m ([.ref (am 0)]).toArray below meth c H locs 0 0 (MQ below (va_Ql (fun r M' => r = digM M ∧ M' = thM M 0) (PM dC dI am) (AM am)) ([.ref (am 0)]).toArray s 0 0 (AM am)) (F0 m 319 ls []) := by
                                  intro fuel
                                  induction fuel with
                                  | zero => intro d9 g2 hh_g2 qg2 H locs hf; exact absurd hf (Nat.not_lt_zero _)
                                  | succ fuel ih319 =>
                                    intro d9 g2 hh_g2 qg2 H locs hf hX ls hl
                                    refine lv_iload hx hb dX6_digest_319 (lv_at hl 3 rfl) ?_
                                    refine lv_iconst (v := nI 4) hx hb dX6_digest_321 (by decide) ?_
                                    refine kn_icmp_ge (tgt := 367) hx hb (by omega) (by omega) dX6_digest_322 (by decide) (fun k_6 => ?_) (fun k_6 => ?_)
                                    · skip
                                      refine lv_iinc (v := nI (g + 1)) (lv' := [(3, .int (nI (g + 1))), (0, .ref (am 0)), (1, .long d9), (4, .int (nI g2))]) hx hb dX6_digest_367 hl (k := 2) rfl (nI_1 g) (by decide) rfl (fun ls hl => ?_)
                                      refine lv_goto (tgt := 311) hx hb dX6_digest_370 (by decide) ?_
                                      exact ih311  d9 (g + 1) (by omega) (by rw [qg2, show g2 = 4 by omega, qg]; exact (iterL_s (fun i d => iterL (mxSeq M i) 4 d) g (mx4 M)).symm) _ _ (by omega) hX _ (lv_sub hl [1, 2, 0] rfl)
                                    · skip
                                      refine lv_lload_n hx hb dX6_digest_325 rfl (lv_at hl 1 rfl) ?_
                                      refine lv_ldc2 (v := lN 31) hx hb hown (hts (.constantLong RX6 159 31) (tm 824 (by decide +kernel) rfl)) dX6_digest_326 ?_
                                      refine lv_lmul hx hb dX6_digest_329 ?_
                                      refine lv_aload_n hx hb dX6_digest_330 rfl (lv_at hl 0 rfl) ?_
                                      refine lv_iload_n hx hb dX6_digest_331 rfl (lv_at hl 2 rfl) ?_
                                      refine lv_iload hx hb dX6_digest_332 (lv_at hl 3 rfl) ?_
                                      refine kx_cr (v := nI (cntB (firstB (cM M g2) (M.1 g).1) (M.1 g).2.2)) (va_runV (As := [.int (nI g), .int (nI g2)]) (rest := [.long (d9 * lN 31)]) ⟨hx, hb, hml, hown, hts⟩ (m_X6_kindsNow l dC dI am (mN M (0, M.2.2.2.1, M.2.2.2.2.1, M.2.2.2.2.2)) g g2 (by omega) (by omega) hI) (cwV 2 hts gX6_digest_X6_kindsNow rfl rfl rfl hdX6_kindsNow_2 ⟨Nat.le_of_ble_eq_true rfl, Nat.le_of_ble_eq_true rfl⟩) (hX.preObj) rfl rfl hl.1 rfl (lv_room (Nat.le_of_ble_eq_true rfl)) dX6_digest_334 ⟨Nat.le_of_ble_eq_true rfl, Nat.le_of_ble_eq_true rfl⟩) (fun _ h => h) ?_
                                      have hn := (hI.1 g (by omega)).1
                                      have hv9 := cntB_le (firstB (cM M g2) (M.1 g).1) (M.1 g).2.2
                                      refine lv_i2l (v := lN (cntB (firstB (cM M g2) (M.1 g).1) (M.1 g).2.2)) hx hb dX6_digest_337 (nI_l (by omega)) ?_
                                      refine lv_ladd hx hb dX6_digest_338 ?_
                                      refine lv_ldc2 (v := lN 31) hx hb hown (hts (.constantLong RX6 159 31) (tm 824 (by decide +kernel) rfl)) dX6_digest_339 ?_
                                      refine lv_lmul hx hb dX6_digest_342 ?_
                                      refine lv_aload_n hx hb dX6_digest_343 rfl (lv_at hl 0 rfl) ?_
                                      refine lv_iload_n hx hb dX6_digest_344 rfl (lv_at hl 2 rfl) ?_
                                      refine lv_iload hx hb dX6_digest_345 (lv_at hl 3 rfl) ?_
                                      refine kx_cr (v := bI (seqB (cM M g2) (M.1 g).1 (M.1 g).2.2)) (va_runV (As := [.int (nI g), .int (nI g2)]) (rest := [.long (((d9 * lN 31) + lN (cntB (firstB (cM M g2) (M.1 g).1) (M.1 g).2.2)) * lN 31)]) ⟨hx, hb, hml, hown, hts⟩ (m_X6_isInSequence l dC dI am (mN M (0, M.2.2.2.1, M.2.2.2.2.1, M.2.2.2.2.2)) g g2 (by omega) (by omega) hI) (cwV 2 hts gX6_digest_X6_isInSequence rfl rfl rfl hdX6_isInSequence_2 ⟨Nat.le_of_ble_eq_true rfl, Nat.le_of_ble_eq_true rfl⟩) (hX.preObj) rfl rfl hl.1 rfl (lv_room (Nat.le_of_ble_eq_true rfl)) dX6_digest_347 ⟨Nat.le_of_ble_eq_true rfl, Nat.le_of_ble_eq_true rfl⟩) (fun _ h => h) ?_
                                      refine kb_if_eq (tgt := 357) hx hb dX6_digest_350 (by decide) (fun k_7 => ?_) (fun k_7 => ?_)
                                      · skip
                                        have hb3 := k_7
                                        refine lv_iconst (v := nI 0) hx hb dX6_digest_357 (by decide) ?_
                                        refine lv_i2l (v := lN 0) hx hb dX6_digest_358 (nI_l (by omega)) ?_
                                        refine lv_ladd hx hb dX6_digest_359 ?_
                                        refine lv_lstore_n (lv' := [(1, .long ((((d9 * lN 31) + lN (cntB (firstB (cM M g2) (M.1 g).1) (M.1 g).2.2)) * lN 31) + lN 0)), (0, .ref (am 0)), (3, .int (nI g)), (4, .int (nI g2))]) hx hb dX6_digest_360 rfl hl (by decide) rfl (fun ls hl => ?_)
                                        refine lv_iinc (v := nI (g2 + 1)) (lv' := [(4, .int (nI (g2 + 1))), (1, .long ((((d9 * lN 31) + lN (cntB (firstB (cM M g2) (M.1 g).1) (M.1 g).2.2)) * lN 31) + lN 0)), (0, .ref (am 0)), (3, .int (nI g))]) hx hb dX6_digest_361 hl (k := 3) rfl (nI_1 g2) (by decide) rfl (fun ls hl => ?_)
                                        refine lv_goto (tgt := 319) hx hb dX6_digest_364 (by decide) ?_
                                        exact ih319  ((((d9 * lN 31) + lN (cntB (firstB (cM M g2) (M.1 g).1) (M.1 g).2.2)) * lN 31) + lN 0) (g2 + 1) (by omega) (by rw [qg2, iterL_s]; exact mix_f _ _ hb3) _ _ (by omega) hX _ (lv_sub hl [2, 1, 3, 0] rfl)
                                      · skip
                                        have hb3 := k_7
                                        refine lv_iconst (v := nI 1) hx hb dX6_digest_353 (by decide) ?_
                                        refine lv_goto (tgt := 358) hx hb dX6_digest_354 (by decide) ?_
                                        refine lv_i2l (v := lN 1) hx hb dX6_digest_358 (nI_l (by omega)) ?_
                                        refine lv_ladd hx hb dX6_digest_359 ?_
                                        refine lv_lstore_n (lv' := [(1, .long ((((d9 * lN 31) + lN (cntB (firstB (cM M g2) (M.1 g).1) (M.1 g).2.2)) * lN 31) + lN 1)), (0, .ref (am 0)), (3, .int (nI g)), (4, .int (nI g2))]) hx hb dX6_digest_360 rfl hl (by decide) rfl (fun ls hl => ?_)
                                        refine lv_iinc (v := nI (g2 + 1)) (lv' := [(4, .int (nI (g2 + 1))), (1, .long ((((d9 * lN 31) + lN (cntB (firstB (cM M g2) (M.1 g).1) (M.1 g).2.2)) * lN 31) + lN 1)), (0, .ref (am 0)), (3, .int (nI g))]) hx hb dX6_digest_361 hl (k := 3) rfl (nI_1 g2) (by decide) rfl (fun ls hl => ?_)
                                        refine lv_goto (tgt := 319) hx hb dX6_digest_364 (by decide) ?_
                                        exact ih319  ((((d9 * lN 31) + lN (cntB (firstB (cM M g2) (M.1 g).1) (M.1 g).2.2)) * lN 31) + lN 1) (g2 + 1) (by omega) (by rw [qg2, iterL_s]; exact mix_t _ _ hb3) _ _ (by omega) hX _ (lv_sub hl [2, 1, 3, 0] rfl)
                                exact loop319 (4 + 1) d 0 (by omega) rfl _ _ (by omega) (WM.eqS rfl hX) _ (lv_sub hl [1, 2, 3, 0] rfl)
                          exact loop311 (3 + 1) d 0 (by omega) (by rw [qf, show f = 4 by omega, iterL_0, mx4]) _ _ (by omega) (WM.eqS rfl hX) _ (lv_sub hl [1, 2, 0] rfl)
                        · skip
                          refine lv_iconst (v := nI 0) hx hb dX6_digest_252 (by decide) ?_
                          refine lv_istore (lv' := [(4, .int (nI 0)), (0, .ref (am 0)), (1, .long d), (3, .int (nI f))]) hx hb dX6_digest_253 hl (by decide) rfl (fun ls hl => ?_)
                          have loop255 : ∀ (fuel : Nat) (d9 : Int64) (f2 : Nat) (hh_f2 : f2 ≤ 4) (qf2 : d9 = iterL (mxPair M f) f2 (d)) (H : Heap) (locs : List Loc), 4 - f2 < fuel → WM dC dI am (mN M (0, M.2.2.2.1, M.2.2.2.2.1, M.2.2.2.2.2)) [] (AM am) s H locs → ∀ ls : Array Slot, lv_has ls 5 [(0, .ref (am 0)), (1, .long d9), (3, .int (nI f)), (4, .int (nI f2))] → W p l e ({ frames := 4, cells := 0, slots := 0, locals := 98 } : Room) s m ([.ref (am 0)]).toArray below meth c H locs 0 0 (MQ below (va_Ql (fun r M' => r = digM M ∧ M' = thM M 0) (PM dC dI am) (AM am)) ([.ref (am 0)]).toArray s 0 0 (AM am)) (F0 m 255 ls []) := by
                            intro fuel
                            induction fuel with
                            | zero => intro d9 f2 hh_f2 qf2 H locs hf; exact absurd hf (Nat.not_lt_zero _)
                            | succ fuel ih255 =>
                              intro d9 f2 hh_f2 qf2 H locs hf hX ls hl
                              refine lv_iload hx hb dX6_digest_255 (lv_at hl 3 rfl) ?_
                              refine lv_iconst (v := nI 4) hx hb dX6_digest_257 (by decide) ?_
                              refine kn_icmp_ge (tgt := 303) hx hb (by omega) (by omega) dX6_digest_258 (by decide) (fun k_8 => ?_) (fun k_8 => ?_)
                              · skip
                                refine lv_iinc (v := nI (f + 1)) (lv' := [(3, .int (nI (f + 1))), (0, .ref (am 0)), (1, .long d9), (4, .int (nI f2))]) hx hb dX6_digest_303 hl (k := 2) rfl (nI_1 f) (by decide) rfl (fun ls hl => ?_)
                                refine lv_goto (tgt := 247) hx hb dX6_digest_306 (by decide) ?_
                                exact ih247  d9 (f + 1) (by omega) (by rw [qf2, show f2 = 4 by omega, qf]; exact (iterL_s (fun a d => iterL (mxPair M a) 4 d) f (mx3 M)).symm) _ _ (by omega) hX _ (lv_sub hl [1, 2, 0] rfl)
                              · skip
                                refine lv_lload_n hx hb dX6_digest_261 rfl (lv_at hl 1 rfl) ?_
                                refine lv_ldc2 (v := lN 31) hx hb hown (hts (.constantLong RX6 159 31) (tm 824 (by decide +kernel) rfl)) dX6_digest_262 ?_
                                refine lv_lmul hx hb dX6_digest_265 ?_
                                refine lv_aload_n hx hb dX6_digest_266 rfl (lv_at hl 0 rfl) ?_
                                refine lv_iload_n hx hb dX6_digest_267 rfl (lv_at hl 2 rfl) ?_
                                refine lv_iload hx hb dX6_digest_268 (lv_at hl 3 rfl) ?_
                                refine kx_cr (v := nI (apartM (cM M f) (cM M f2))) (va_runV (As := [.int (nI f), .int (nI f2)]) (rest := [.long (d9 * lN 31)]) ⟨hx, hb, hml, hown, hts⟩ (m_X6_apartNow l dC dI am (mN M (0, M.2.2.2.1, M.2.2.2.2.1, M.2.2.2.2.2)) f f2 (by omega) (by omega) (hI.2 f (by omega)) (hI.2 f2 (by omega))) (cwV 2 hts gX6_digest_X6_apartNow rfl rfl rfl hdX6_apartNow_2 ⟨Nat.le_of_ble_eq_true rfl, Nat.le_of_ble_eq_true rfl⟩) (hX.preObj) rfl rfl hl.1 rfl (lv_room (Nat.le_of_ble_eq_true rfl)) dX6_digest_270 ⟨Nat.le_of_ble_eq_true rfl, Nat.le_of_ble_eq_true rfl⟩) (fun _ h => h) ?_
                                have hv9 := apartM_le (cM M f) (cM M f2)
                                refine lv_i2l (v := lN (apartM (cM M f) (cM M f2))) hx hb dX6_digest_273 (nI_l (by omega)) ?_
                                refine lv_ladd hx hb dX6_digest_274 ?_
                                refine lv_ldc2 (v := lN 31) hx hb hown (hts (.constantLong RX6 159 31) (tm 824 (by decide +kernel) rfl)) dX6_digest_275 ?_
                                refine lv_lmul hx hb dX6_digest_278 ?_
                                refine lv_aload_n hx hb dX6_digest_279 rfl (lv_at hl 0 rfl) ?_
                                refine lv_iload_n hx hb dX6_digest_280 rfl (lv_at hl 2 rfl) ?_
                                refine lv_iload hx hb dX6_digest_281 (lv_at hl 3 rfl) ?_
                                refine kx_cr (v := bI (finerB (cM M f) (cM M f2))) (va_runV (As := [.int (nI f), .int (nI f2)]) (rest := [.long (((d9 * lN 31) + lN (apartM (cM M f) (cM M f2))) * lN 31)]) ⟨hx, hb, hml, hown, hts⟩ (m_X6_isRefined l dC dI am (mN M (0, M.2.2.2.1, M.2.2.2.2.1, M.2.2.2.2.2)) f f2 (by omega) (by omega) (hI.2 f (by omega)) (hI.2 f2 (by omega))) (cwV 2 hts gX6_digest_X6_isRefined rfl rfl rfl hdX6_isRefined_2 ⟨Nat.le_of_ble_eq_true rfl, Nat.le_of_ble_eq_true rfl⟩) (hX.preObj) rfl rfl hl.1 rfl (lv_room (Nat.le_of_ble_eq_true rfl)) dX6_digest_283 ⟨Nat.le_of_ble_eq_true rfl, Nat.le_of_ble_eq_true rfl⟩) (fun _ h => h) ?_
                                refine kb_if_eq (tgt := 293) hx hb dX6_digest_286 (by decide) (fun k_9 => ?_) (fun k_9 => ?_)
                                · skip
                                  have hb2 := k_9
                                  refine lv_iconst (v := nI 0) hx hb dX6_digest_293 (by decide) ?_
                                  refine lv_i2l (v := lN 0) hx hb dX6_digest_294 (nI_l (by omega)) ?_
                                  refine lv_ladd hx hb dX6_digest_295 ?_
                                  refine lv_lstore_n (lv' := [(1, .long ((((d9 * lN 31) + lN (apartM (cM M f) (cM M f2))) * lN 31) + lN 0)), (0, .ref (am 0)), (3, .int (nI f)), (4, .int (nI f2))]) hx hb dX6_digest_296 rfl hl (by decide) rfl (fun ls hl => ?_)
                                  refine lv_iinc (v := nI (f2 + 1)) (lv' := [(4, .int (nI (f2 + 1))), (1, .long ((((d9 * lN 31) + lN (apartM (cM M f) (cM M f2))) * lN 31) + lN 0)), (0, .ref (am 0)), (3, .int (nI f))]) hx hb dX6_digest_297 hl (k := 3) rfl (nI_1 f2) (by decide) rfl (fun ls hl => ?_)
                                  refine lv_goto (tgt := 255) hx hb dX6_digest_300 (by decide) ?_
                                  exact ih255  ((((d9 * lN 31) + lN (apartM (cM M f) (cM M f2))) * lN 31) + lN 0) (f2 + 1) (by omega) (by rw [qf2, iterL_s]; exact mix_f _ _ hb2) _ _ (by omega) hX _ (lv_sub hl [2, 1, 3, 0] rfl)
                                · skip
                                  have hb2 := k_9
                                  refine lv_iconst (v := nI 1) hx hb dX6_digest_289 (by decide) ?_
                                  refine lv_goto (tgt := 294) hx hb dX6_digest_290 (by decide) ?_
                                  refine lv_i2l (v := lN 1) hx hb dX6_digest_294 (nI_l (by omega)) ?_
                                  refine lv_ladd hx hb dX6_digest_295 ?_
                                  refine lv_lstore_n (lv' := [(1, .long ((((d9 * lN 31) + lN (apartM (cM M f) (cM M f2))) * lN 31) + lN 1)), (0, .ref (am 0)), (3, .int (nI f)), (4, .int (nI f2))]) hx hb dX6_digest_296 rfl hl (by decide) rfl (fun ls hl => ?_)
                                  refine lv_iinc (v := nI (f2 + 1)) (lv' := [(4, .int (nI (f2 + 1))), (1, .long ((((d9 * lN 31) + lN (apartM (cM M f) (cM M f2))) * lN 31) + lN 1)), (0, .ref (am 0)), (3, .int (nI f))]) hx hb dX6_digest_297 hl (k := 3) rfl (nI_1 f2) (by decide) rfl (fun ls hl => ?_)
                                  refine lv_goto (tgt := 255) hx hb dX6_digest_300 (by decide) ?_
                                  exact ih255  ((((d9 * lN 31) + lN (apartM (cM M f) (cM M f2))) * lN 31) + lN 1) (f2 + 1) (by omega) (by rw [qf2, iterL_s]; exact mix_t _ _ hb2) _ _ (by omega) hX _ (lv_sub hl [2, 1, 3, 0] rfl)
                          exact loop255 (4 + 1) d 0 (by omega) rfl _ _ (by omega) (WM.eqS rfl hX) _ (lv_sub hl [1, 2, 3, 0] rfl)
                    exact loop247 (4 + 1) d 0 (by omega) (by rw [qo1, show o1 = 4 by omega, iterL_0, mx3]) _ _ (by omega) (WM.eqS rfl hX) _ (lv_sub hl [1, 2, 0] rfl)
                  · skip
                    refine lv_lload_n hx hb dX6_digest_121 rfl (lv_at hl 1 rfl) ?_
                    refine lv_ldc2 (v := lN 31) hx hb hown (hts (.constantLong RX6 159 31) (tm 824 (by decide +kernel) rfl)) dX6_digest_122 ?_
                    refine lv_lmul hx hb dX6_digest_125 ?_
                    refine lv_aload_n hx hb dX6_digest_126 rfl (lv_at hl 0 rfl) ?_
                    refine km_gsteps hx hb hts hin6 hown hX (hts (.fieldLink RX6 29 "OrderlatticeModel" "steps" "[I") (tm 724 (by decide +kernel) rfl)) dX6_digest_127 ?_
                    refine lv_iload_n hx hb dX6_digest_130 rfl (lv_at hl 2 rfl) ?_
                    refine km_lt (v := (M.2.1 o1).2.2) hx hb hX (by omega) rfl dX6_digest_131 ?_
                    have hn := (hI.2 o1 (by omega)).1
                    refine lv_i2l (v := lN ((M.2.1 o1).2.2)) hx hb dX6_digest_132 (nI_l (by omega)) ?_
                    refine lv_ladd hx hb dX6_digest_133 ?_
                    refine lv_lstore_n (lv' := [(1, .long ((d * lN 31) + lN ((M.2.1 o1).2.2))), (0, .ref (am 0)), (3, .int (nI o1))]) hx hb dX6_digest_134 rfl hl (by decide) rfl (fun ls hl => ?_)
                    refine lv_iconst (v := nI 0) hx hb dX6_digest_135 (by decide) ?_
                    refine lv_istore (lv' := [(4, .int (nI 0)), (1, .long ((d * lN 31) + lN ((M.2.1 o1).2.2))), (0, .ref (am 0)), (3, .int (nI o1))]) hx hb dX6_digest_136 hl (by decide) rfl (fun ls hl => ?_)
                    have loop138 : ∀ (fuel : Nat) (d9 : Int64) (o2 : Nat) (hh_o2 : o2 ≤ (M.2.1 o1).2.2) (qo2 : d9 = iterL (fun k d => mixI (mixI d ((M.2.1 o1).1 k)) (bN ((M.2.1 o1).2.1 k))) o2 (mixI d (M.2.1 o1).2.2)) (H : Heap) (locs : List Loc), (M.2.1 o1).2.2 - o2 < fuel → WM dC dI am (mN M (0, M.2.2.2.1, M.2.2.2.2.1, M.2.2.2.2.2)) [] (AM am) s H locs → ∀ ls : Array Slot, lv_has ls 5 [(0, .ref (am 0)), (1, .long d9), (3, .int (nI o1)), (4, .int (nI o2))] → W p l e ({ frames := 4, cells := 0, slots := 0, locals := 98 } : Room) s m ([.ref (am 0)]).toArray below meth c H locs 0 0 (MQ below (va_Ql (fun r M' => r = digM M ∧ M' = thM M 0) (PM dC dI am) (AM am)) ([.ref (am 0)]).toArray s 0 0 (AM am)) (F0 m 138 ls []) := by
                      intro fuel
                      induction fuel with
                      | zero => intro d9 o2 hh_o2 qo2 H locs hf; exact absurd hf (Nat.not_lt_zero _)
                      | succ fuel ih138 =>
                        intro d9 o2 hh_o2 qo2 H locs hf hX ls hl
                        refine lv_iload hx hb dX6_digest_138 (lv_at hl 3 rfl) ?_
                        refine lv_aload_n hx hb dX6_digest_140 rfl (lv_at hl 0 rfl) ?_
                        refine km_gsteps hx hb hts hin6 hown hX (hts (.fieldLink RX6 29 "OrderlatticeModel" "steps" "[I") (tm 724 (by decide +kernel) rfl)) dX6_digest_141 ?_
                        refine lv_iload_n hx hb dX6_digest_144 rfl (lv_at hl 2 rfl) ?_
                        refine km_lt (v := (M.2.1 o1).2.2) hx hb hX (by omega) rfl dX6_digest_145 ?_
                        refine kn_icmp_ge (tgt := 195) hx hb (by omega) (by omega) dX6_digest_146 (by decide) (fun k_10 => ?_) (fun k_10 => ?_)
                        · skip
                          refine lv_lload_n hx hb dX6_digest_195 rfl (lv_at hl 1 rfl) ?_
                          refine lv_ldc2 (v := lN 31) hx hb hown (hts (.constantLong RX6 159 31) (tm 824 (by decide +kernel) rfl)) dX6_digest_196 ?_
                          refine lv_lmul hx hb dX6_digest_199 ?_
                          refine lv_aload_n hx hb dX6_digest_200 rfl (lv_at hl 0 rfl) ?_
                          refine lv_iload_n hx hb dX6_digest_201 rfl (lv_at hl 2 rfl) ?_
                          refine kx_cr (v := nI (classC (cM M o1))) (va_runV (As := [.int (nI o1)]) (rest := [.long (d9 * lN 31)]) ⟨hx, hb, hml, hown, hts⟩ (m_X6_classesNow l dC dI am (mN M (0, M.2.2.2.1, M.2.2.2.2.1, M.2.2.2.2.2)) o1 (by omega) (hI.2 o1 (by omega))) (cwV 1 hts gX6_digest_X6_classesNow rfl rfl rfl hdX6_classesNow_1 ⟨Nat.le_of_ble_eq_true rfl, Nat.le_of_ble_eq_true rfl⟩) (hX.preObj) rfl rfl hl.1 rfl (lv_room (Nat.le_of_ble_eq_true rfl)) dX6_digest_202 ⟨Nat.le_of_ble_eq_true rfl, Nat.le_of_ble_eq_true rfl⟩) (fun _ h => h) ?_
                          have hv9 := classC_le (cM M o1)
                          refine lv_i2l (v := lN (classC (cM M o1))) hx hb dX6_digest_205 (nI_l (by omega)) ?_
                          refine lv_ladd hx hb dX6_digest_206 ?_
                          refine lv_lstore_n (lv' := [(1, .long ((d9 * lN 31) + lN (classC (cM M o1)))), (0, .ref (am 0)), (3, .int (nI o1)), (4, .int (nI o2))]) hx hb dX6_digest_207 rfl hl (by decide) rfl (fun ls hl => ?_)
                          refine lv_iconst (v := nI 0) hx hb dX6_digest_208 (by decide) ?_
                          refine lv_istore (lv' := [(4, .int (nI 0)), (1, .long ((d9 * lN 31) + lN (classC (cM M o1)))), (0, .ref (am 0)), (3, .int (nI o1))]) hx hb dX6_digest_209 hl (by decide) rfl (fun ls hl => ?_)
                          have loop211 : ∀ (fuel : Nat) (d8 : Int64) (o3 : Nat) (hh_o3 : o3 ≤ 16) (qo3 : d8 = iterL (fun v d => mixI d (rankC (cM M o1) v)) o3 (mixI d9 (classC (cM M o1)))) (H : Heap) (locs : List Loc), 16 - o3 < fuel → WM dC dI am (mN M (0, M.2.2.2.1, M.2.2.2.2.1, M.2.2.2.2.2)) [] (AM am) s H locs → ∀ ls : Array Slot, lv_has ls 5 [(0, .ref (am 0)), (1, .long d8), (3, .int (nI o1)), (4, .int (nI o3))] → W p l e ({ frames := 4, cells := 0, slots := 0, locals := 98 } : Room) s m ([.ref (am 0)]).toArray below meth c H locs 0 0 (MQ below (va_Ql (fun r M' => r = digM M ∧ M' = thM M 0) (PM dC dI am) (AM am)) ([.ref (am 0)]).toArray s 0 0 (AM am)) (F0 m 211 ls []) := by
                            intro fuel
                            induction fuel with
                            | zero => intro d8 o3 hh_o3 qo3 H locs hf; exact absurd hf (Nat.not_lt_zero _)
                            | succ fuel ih211 =>
                              intro d8 o3 hh_o3 qo3 H locs hf hX ls hl
                              refine lv_iload hx hb dX6_digest_211 (lv_at hl 3 rfl) ?_
                              refine lv_bipush (v := nI 16) hx hb dX6_digest_213 (by decide) ?_
                              refine kn_icmp_ge (tgt := 239) hx hb (by omega) (by omega) dX6_digest_215 (by decide) (fun k_11 => ?_) (fun k_11 => ?_)
                              · skip
                                refine lv_iinc (v := nI (o1 + 1)) (lv' := [(3, .int (nI (o1 + 1))), (0, .ref (am 0)), (1, .long d8), (4, .int (nI o3))]) hx hb dX6_digest_239 hl (k := 2) rfl (nI_1 o1) (by decide) rfl (fun ls hl => ?_)
                                refine lv_goto (tgt := 116) hx hb dX6_digest_242 (by decide) ?_
                                exact ih116  d8 (o1 + 1) (by omega) (by rw [qo3, show o3 = 16 by omega, qo2, show o2 = (M.2.1 o1).2.2 by omega, qo1]; exact (iterL_s (mxOrd M) o1 (mx2 M)).symm) _ _ (by omega) hX _ (lv_sub hl [1, 2, 0] rfl)
                              · skip
                                refine lv_lload_n hx hb dX6_digest_218 rfl (lv_at hl 1 rfl) ?_
                                refine lv_ldc2 (v := lN 31) hx hb hown (hts (.constantLong RX6 159 31) (tm 824 (by decide +kernel) rfl)) dX6_digest_219 ?_
                                refine lv_lmul hx hb dX6_digest_222 ?_
                                refine lv_aload_n hx hb dX6_digest_223 rfl (lv_at hl 0 rfl) ?_
                                refine lv_iload_n hx hb dX6_digest_224 rfl (lv_at hl 2 rfl) ?_
                                refine lv_iload hx hb dX6_digest_225 (lv_at hl 3 rfl) ?_
                                refine kx_cr (v := nI (rankC (cM M o1) o3)) (va_runV (As := [.int (nI o1), .int (nI o3)]) (rest := [.long (d8 * lN 31)]) ⟨hx, hb, hml, hown, hts⟩ (m_X6_rankNow l dC dI am (mN M (0, M.2.2.2.1, M.2.2.2.2.1, M.2.2.2.2.2)) o1 o3 (by omega) (hI.2 o1 (by omega)) (by omega)) (cwV 2 hts gX6_digest_X6_rankNow rfl rfl rfl hdX6_rankNow_2 ⟨Nat.le_of_ble_eq_true rfl, Nat.le_of_ble_eq_true rfl⟩) (hX.preObj) rfl rfl hl.1 rfl (lv_room (Nat.le_of_ble_eq_true rfl)) dX6_digest_227 ⟨Nat.le_of_ble_eq_true rfl, Nat.le_of_ble_eq_true rfl⟩) (fun _ h => h) ?_
                                have hv9 := rankC_le (cM M o1) o3
                                refine lv_i2l (v := lN (rankC (cM M o1) o3)) hx hb dX6_digest_230 (nI_l (by omega)) ?_
                                refine lv_ladd hx hb dX6_digest_231 ?_
                                refine lv_lstore_n (lv' := [(1, .long ((d8 * lN 31) + lN (rankC (cM M o1) o3))), (0, .ref (am 0)), (3, .int (nI o1)), (4, .int (nI o3))]) hx hb dX6_digest_232 rfl hl (by decide) rfl (fun ls hl => ?_)
                                refine lv_iinc (v := nI (o3 + 1)) (lv' := [(4, .int (nI (o3 + 1))), (1, .long ((d8 * lN 31) + lN (rankC (cM M o1) o3))), (0, .ref (am 0)), (3, .int (nI o1))]) hx hb dX6_digest_233 hl (k := 3) rfl (nI_1 o3) (by decide) rfl (fun ls hl => ?_)
                                refine lv_goto (tgt := 211) hx hb dX6_digest_236 (by decide) ?_
                                exact ih211  ((d8 * lN 31) + lN (rankC (cM M o1) o3)) (o3 + 1) (by omega) (by rw [qo3]; rfl) _ _ (by omega) hX _ (lv_sub hl [2, 1, 3, 0] rfl)
                          exact loop211 (16 + 1) ((d9 * lN 31) + lN (classC (cM M o1))) 0 (by omega) rfl _ _ (by omega) (WM.eqS rfl hX) _ (lv_sub hl [2, 1, 3, 0] rfl)
                        · skip
                          have hv9 := (hI.2 o1 (by omega)).2 o2 (by omega)
                          refine lv_lload_n hx hb dX6_digest_149 rfl (lv_at hl 1 rfl) ?_
                          refine lv_ldc2 (v := lN 31) hx hb hown (hts (.constantLong RX6 159 31) (tm 824 (by decide +kernel) rfl)) dX6_digest_150 ?_
                          refine lv_lmul hx hb dX6_digest_153 ?_
                          refine lv_aload_n hx hb dX6_digest_154 rfl (lv_at hl 0 rfl) ?_
                          refine km_gkeys hx hb hts hin6 hown hX (hts (.fieldLink RX6 21 "OrderlatticeModel" "keys" "[[I") (tm 725 (by decide +kernel) rfl)) dX6_digest_155 ?_
                          refine lv_iload_n hx hb dX6_digest_158 rfl (lv_at hl 2 rfl) ?_
                          refine km_ak hx hb hX (by omega) dX6_digest_159 ?_
                          refine lv_iload hx hb dX6_digest_160 (lv_at hl 3 rfl) ?_
                          refine km_lk (v := ((M.2.1 o1).1) o2) hx hb hX (by omega) (by omega) rfl dX6_digest_162 ?_
                          refine lv_i2l (v := lN (((M.2.1 o1).1) o2)) hx hb dX6_digest_163 (nI_l (by omega)) ?_
                          refine lv_ladd hx hb dX6_digest_164 ?_
                          refine lv_ldc2 (v := lN 31) hx hb hown (hts (.constantLong RX6 159 31) (tm 824 (by decide +kernel) rfl)) dX6_digest_165 ?_
                          refine lv_lmul hx hb dX6_digest_168 ?_
                          refine lv_aload_n hx hb dX6_digest_169 rfl (lv_at hl 0 rfl) ?_
                          refine km_gdowns hx hb hts hin6 hown hX (hts (.fieldLink RX6 26 "OrderlatticeModel" "downs" "[[Z") (tm 726 (by decide +kernel) rfl)) dX6_digest_170 ?_
                          refine lv_iload_n hx hb dX6_digest_173 rfl (lv_at hl 2 rfl) ?_
                          refine km_ad hx hb hX (by omega) dX6_digest_174 ?_
                          refine lv_iload hx hb dX6_digest_175 (lv_at hl 3 rfl) ?_
                          refine km_ld (z := ((M.2.1 o1).2.1) o2) hx hb hX (by omega) (by omega) rfl dX6_digest_177 ?_
                          refine kb_if_eq (tgt := 185) hx hb dX6_digest_178 (by decide) (fun k_12 => ?_) (fun k_12 => ?_)
                          · skip
                            have hb1 := k_12
                            refine lv_iconst (v := nI 0) hx hb dX6_digest_185 (by decide) ?_
                            refine lv_i2l (v := lN 0) hx hb dX6_digest_186 (nI_l (by omega)) ?_
                            refine lv_ladd hx hb dX6_digest_187 ?_
                            refine lv_lstore_n (lv' := [(1, .long ((((d9 * lN 31) + lN (((M.2.1 o1).1) o2)) * lN 31) + lN 0)), (0, .ref (am 0)), (3, .int (nI o1)), (4, .int (nI o2))]) hx hb dX6_digest_188 rfl hl (by decide) rfl (fun ls hl => ?_)
                            refine lv_iinc (v := nI (o2 + 1)) (lv' := [(4, .int (nI (o2 + 1))), (1, .long ((((d9 * lN 31) + lN (((M.2.1 o1).1) o2)) * lN 31) + lN 0)), (0, .ref (am 0)), (3, .int (nI o1))]) hx hb dX6_digest_189 hl (k := 3) rfl (nI_1 o2) (by decide) rfl (fun ls hl => ?_)
                            refine lv_goto (tgt := 138) hx hb dX6_digest_192 (by decide) ?_
                            exact ih138  ((((d9 * lN 31) + lN (((M.2.1 o1).1) o2)) * lN 31) + lN 0) (o2 + 1) (by omega) (by rw [qo2, iterL_s]; exact mix_f _ _ hb1) _ _ (by omega) hX _ (lv_sub hl [2, 1, 3, 0] rfl)
                          · skip
                            have hb1 := k_12
                            refine lv_iconst (v := nI 1) hx hb dX6_digest_181 (by decide) ?_
                            refine lv_goto (tgt := 186) hx hb dX6_digest_182 (by decide) ?_
                            refine lv_i2l (v := lN 1) hx hb dX6_digest_186 (nI_l (by omega)) ?_
                            refine lv_ladd hx hb dX6_digest_187 ?_
                            refine lv_lstore_n (lv' := [(1, .long ((((d9 * lN 31) + lN (((M.2.1 o1).1) o2)) * lN 31) + lN 1)), (0, .ref (am 0)), (3, .int (nI o1)), (4, .int (nI o2))]) hx hb dX6_digest_188 rfl hl (by decide) rfl (fun ls hl => ?_)
                            refine lv_iinc (v := nI (o2 + 1)) (lv' := [(4, .int (nI (o2 + 1))), (1, .long ((((d9 * lN 31) + lN (((M.2.1 o1).1) o2)) * lN 31) + lN 1)), (0, .ref (am 0)), (3, .int (nI o1))]) hx hb dX6_digest_189 hl (k := 3) rfl (nI_1 o2) (by decide) rfl (fun ls hl => ?_)
                            refine lv_goto (tgt := 138) hx hb dX6_digest_192 (by decide) ?_
                            exact ih138  ((((d9 * lN 31) + lN (((M.2.1 o1).1) o2)) * lN 31) + lN 1) (o2 + 1) (by omega) (by rw [qo2, iterL_s]; exact mix_t _ _ hb1) _ _ (by omega) hX _ (lv_sub hl [2, 1, 3, 0] rfl)
                    exact loop138 ((M.2.1 o1).2.2 + 1) ((d * lN 31) + lN ((M.2.1 o1).2.2)) 0 (by omega) rfl _ _ (by omega) (WM.eqS rfl hX) _ (lv_sub hl [2, 1, 3, 0] rfl)
              exact loop116 (4 + 1) d 0 (by omega) (by rw [qb, show b = 3 by omega, iterL_0, mx2]) _ _ (by omega) (WM.eqS rfl hX) _ (lv_sub hl [1, 2, 0] rfl)
            · skip
              refine lv_lload_n hx hb dX6_digest_42 rfl (lv_at hl 1 rfl) ?_
              refine lv_ldc2 (v := lN 31) hx hb hown (hts (.constantLong RX6 159 31) (tm 824 (by decide +kernel) rfl)) dX6_digest_43 ?_
              refine lv_lmul hx hb dX6_digest_46 ?_
              refine lv_aload_n hx hb dX6_digest_47 rfl (lv_at hl 0 rfl) ?_
              refine km_gsizes hx hb hts hin6 hown hX (hts (.fieldLink RX6 17 "OrderlatticeModel" "sizes" "[I") (tm 681 (by decide +kernel) rfl)) dX6_digest_48 ?_
              refine lv_iload_n hx hb dX6_digest_51 rfl (lv_at hl 2 rfl) ?_
              refine km_lz (v := (M.1 b).2.2) hx hb hX (by omega) rfl dX6_digest_52 ?_
              have hn := (hI.1 b (by omega)).1
              refine lv_i2l (v := lN ((M.1 b).2.2)) hx hb dX6_digest_53 (nI_l (by omega)) ?_
              refine lv_ladd hx hb dX6_digest_54 ?_
              refine lv_lstore_n (lv' := [(1, .long ((d * lN 31) + lN ((M.1 b).2.2))), (0, .ref (am 0)), (3, .int (nI b))]) hx hb dX6_digest_55 rfl hl (by decide) rfl (fun ls hl => ?_)
              refine lv_iconst (v := nI 0) hx hb dX6_digest_56 (by decide) ?_
              refine lv_istore (lv' := [(4, .int (nI 0)), (1, .long ((d * lN 31) + lN ((M.1 b).2.2))), (0, .ref (am 0)), (3, .int (nI b))]) hx hb dX6_digest_57 hl (by decide) rfl (fun ls hl => ?_)
              have loop59 : ∀ (fuel : Nat) (d9 : Int64) (b2 : Nat) (hh_b2 : b2 ≤ (M.1 b).2.2) (qb2 : d9 = iterL (fun k d => mixI (mixI d ((M.1 b).1 k)) ((M.1 b).2.1 k)) b2 (mixI d (M.1 b).2.2)) (H : Heap) (locs : List Loc), (M.1 b).2.2 - b2 < fuel → WM dC dI am (mN M (0, M.2.2.2.1, M.2.2.2.2.1, M.2.2.2.2.2)) [] (AM am) s H locs → ∀ ls : Array Slot, lv_has ls 5 [(0, .ref (am 0)), (1, .long d9), (3, .int (nI b)), (4, .int (nI b2))] → W p l e ({ frames := 4, cells := 0, slots := 0, locals := 98 } : Room) s m ([.ref (am 0)]).toArray below meth c H locs 0 0 (MQ below (va_Ql (fun r M' => r = digM M ∧ M' = thM M 0) (PM dC dI am) (AM am)) ([.ref (am 0)]).toArray s 0 0 (AM am)) (F0 m 59 ls []) := by
                intro fuel
                induction fuel with
                | zero => intro d9 b2 hh_b2 qb2 H locs hf; exact absurd hf (Nat.not_lt_zero _)
                | succ fuel ih59 =>
                  intro d9 b2 hh_b2 qb2 H locs hf hX ls hl
                  refine lv_iload hx hb dX6_digest_59 (lv_at hl 3 rfl) ?_
                  refine lv_aload_n hx hb dX6_digest_61 rfl (lv_at hl 0 rfl) ?_
                  refine km_gsizes hx hb hts hin6 hown hX (hts (.fieldLink RX6 17 "OrderlatticeModel" "sizes" "[I") (tm 681 (by decide +kernel) rfl)) dX6_digest_62 ?_
                  refine lv_iload_n hx hb dX6_digest_65 rfl (lv_at hl 2 rfl) ?_
                  refine km_lz (v := (M.1 b).2.2) hx hb hX (by omega) rfl dX6_digest_66 ?_
                  refine kn_icmp_ge (tgt := 108) hx hb (by omega) (by omega) dX6_digest_67 (by decide) (fun k_13 => ?_) (fun k_13 => ?_)
                  · skip
                    refine lv_iinc (v := nI (b + 1)) (lv' := [(3, .int (nI (b + 1))), (0, .ref (am 0)), (1, .long d9), (4, .int (nI b2))]) hx hb dX6_digest_108 hl (k := 2) rfl (nI_1 b) (by decide) rfl (fun ls hl => ?_)
                    refine lv_goto (tgt := 37) hx hb dX6_digest_111 (by decide) ?_
                    exact ih37  d9 (b + 1) (by omega) (by rw [qb2, show b2 = (M.1 b).2.2 by omega, qb]; exact (iterL_s (mxRow M) b (mx1 M)).symm) _ _ (by omega) hX _ (lv_sub hl [1, 2, 0] rfl)
                  · skip
                    have hv9 := (hI.1 b (by omega)).2 b2 (by omega)
                    refine lv_lload_n hx hb dX6_digest_70 rfl (lv_at hl 1 rfl) ?_
                    refine lv_ldc2 (v := lN 31) hx hb hown (hts (.constantLong RX6 159 31) (tm 824 (by decide +kernel) rfl)) dX6_digest_71 ?_
                    refine lv_lmul hx hb dX6_digest_74 ?_
                    refine lv_aload_n hx hb dX6_digest_75 rfl (lv_at hl 0 rfl) ?_
                    refine km_gvalues hx hb hts hin6 hown hX (hts (.fieldLink RX6 11 "OrderlatticeModel" "values" "[[I") (tm 710 (by decide +kernel) rfl)) dX6_digest_76 ?_
                    refine lv_iload_n hx hb dX6_digest_79 rfl (lv_at hl 2 rfl) ?_
                    refine km_av hx hb hX (by omega) dX6_digest_80 ?_
                    refine lv_iload hx hb dX6_digest_81 (lv_at hl 3 rfl) ?_
                    refine km_lv (v := ((M.1 b).1) b2) hx hb hX (by omega) (by omega) rfl dX6_digest_83 ?_
                    refine lv_i2l (v := lN (((M.1 b).1) b2)) hx hb dX6_digest_84 (nI_l (by omega)) ?_
                    refine lv_ladd hx hb dX6_digest_85 ?_
                    refine lv_ldc2 (v := lN 31) hx hb hown (hts (.constantLong RX6 159 31) (tm 824 (by decide +kernel) rfl)) dX6_digest_86 ?_
                    refine lv_lmul hx hb dX6_digest_89 ?_
                    refine lv_aload_n hx hb dX6_digest_90 rfl (lv_at hl 0 rfl) ?_
                    refine km_gmarks hx hb hts hin6 hown hX (hts (.fieldLink RX6 14 "OrderlatticeModel" "marks" "[[I") (tm 711 (by decide +kernel) rfl)) dX6_digest_91 ?_
                    refine lv_iload_n hx hb dX6_digest_94 rfl (lv_at hl 2 rfl) ?_
                    refine km_am hx hb hX (by omega) dX6_digest_95 ?_
                    refine lv_iload hx hb dX6_digest_96 (lv_at hl 3 rfl) ?_
                    refine km_lm (v := ((M.1 b).2.1) b2) hx hb hX (by omega) (by omega) rfl dX6_digest_98 ?_
                    refine lv_i2l (v := lN (((M.1 b).2.1) b2)) hx hb dX6_digest_99 (nI_l (by omega)) ?_
                    refine lv_ladd hx hb dX6_digest_100 ?_
                    refine lv_lstore_n (lv' := [(1, .long ((((d9 * lN 31) + lN (((M.1 b).1) b2)) * lN 31) + lN (((M.1 b).2.1) b2))), (0, .ref (am 0)), (3, .int (nI b)), (4, .int (nI b2))]) hx hb dX6_digest_101 rfl hl (by decide) rfl (fun ls hl => ?_)
                    refine lv_iinc (v := nI (b2 + 1)) (lv' := [(4, .int (nI (b2 + 1))), (1, .long ((((d9 * lN 31) + lN (((M.1 b).1) b2)) * lN 31) + lN (((M.1 b).2.1) b2))), (0, .ref (am 0)), (3, .int (nI b))]) hx hb dX6_digest_102 hl (k := 3) rfl (nI_1 b2) (by decide) rfl (fun ls hl => ?_)
                    refine lv_goto (tgt := 59) hx hb dX6_digest_105 (by decide) ?_
                    exact ih59  ((((d9 * lN 31) + lN (((M.1 b).1) b2)) * lN 31) + lN (((M.1 b).2.1) b2)) (b2 + 1) (by omega) (by rw [qb2]; rfl) _ _ (by omega) hX _ (lv_sub hl [2, 1, 3, 0] rfl)
              exact loop59 ((M.1 b).2.2 + 1) ((d * lN 31) + lN ((M.1 b).2.2)) 0 (by omega) rfl _ _ (by omega) (WM.eqS rfl hX) _ (lv_sub hl [2, 1, 3, 0] rfl)
        exact loop37 (3 + 1) d 0 (by omega) (by rw [qa, show a = 5 by omega, iterL_0, mx1]) _ _ (by omega) (WM.eqS rfl hX) _ (lv_sub hl [1, 2, 0] rfl)
      · skip
        refine lv_lload_n hx hb dX6_digest_16 rfl (lv_at hl 1 rfl) ?_
        refine lv_ldc2 (v := lN 31) hx hb hown (hts (.constantLong RX6 159 31) (tm 824 (by decide +kernel) rfl)) dX6_digest_17 ?_
        refine lv_lmul hx hb dX6_digest_20 ?_
        refine lv_aload_n hx hb dX6_digest_21 rfl (lv_at hl 0 rfl) ?_
        refine lv_iload_n hx hb dX6_digest_22 rfl (lv_at hl 2 rfl) ?_
        refine kx_cr (v := nI (houM M a)) (va_runV (As := [.int (nI a)]) (rest := [.long (d * lN 31)]) ⟨hx, hb, hml, hown, hts⟩ (m_X6_houseNow l dC dI am (mN M (0, M.2.2.2.1, M.2.2.2.2.1, M.2.2.2.2.2)) a (by omega) hI) (cwV 1 hts gX6_digest_X6_houseNow rfl rfl rfl hdX6_houseNow_1 ⟨Nat.le_of_ble_eq_true rfl, Nat.le_of_ble_eq_true rfl⟩) (hX.preObj) rfl rfl hl.1 rfl (lv_room (Nat.le_of_ble_eq_true rfl)) dX6_digest_23 ⟨Nat.le_of_ble_eq_true rfl, Nat.le_of_ble_eq_true rfl⟩) (fun _ h => h) ?_
        have hh9 := houM_lt hI hc (k := a) (by omega)
        refine lv_i2l (v := lN (houM M a)) hx hb dX6_digest_26 (nI_l (by omega)) ?_
        refine lv_ladd hx hb dX6_digest_27 ?_
        refine lv_lstore_n (lv' := [(1, .long ((d * lN 31) + lN (houM M a))), (0, .ref (am 0)), (3, .int (nI a))]) hx hb dX6_digest_28 rfl hl (by decide) rfl (fun ls hl => ?_)
        refine lv_iinc (v := nI (a + 1)) (lv' := [(3, .int (nI (a + 1))), (1, .long ((d * lN 31) + lN (houM M a))), (0, .ref (am 0))]) hx hb dX6_digest_29 hl (k := 2) rfl (nI_1 a) (by decide) rfl (fun ls hl => ?_)
        refine lv_goto (tgt := 11) hx hb dX6_digest_32 (by decide) ?_
        exact ih11  ((d * lN 31) + lN (houM M a)) (a + 1) (by omega) (by rw [qa]; rfl) _ _ (by omega) hX _ (lv_sub hl [2, 1, 0] rfl)
  exact loop11 (5 + 1) (lN 7842) 0 (by omega) rfl _ _ (by omega) (WM.eqS rfl hX) _ (lv_sub hl [2, 1, 0] rfl)
set_option maxHeartbeats 4000000 in
set_option maxRecDepth 100000 in
theorem o_X6_compare_1 (l : Launch) (dC : Nat → ClassId) (dI : Nat → Nat → Nat) (am : Nat → Nat) (M : MS) (x9 : Int32) (y1 : Int32) (y2 : Int32) (hb9 : x9 < 0 ∨ nI 4 ≤ x9) (hI : InvM M) : Met l yX6_compare wsX6_compare ({ frames := 2, cells := 0, slots := 0, locals := 47 } : Room) (va_Pc [.ref (am 0), .int x9, .int y1, .int y2] (PM dC dI am M)) (va_Qi (fun r M' => M' = thM M 1) (PM dC dI am) (AM am)) 0 0 (AM am) := by
  refine Met.ofW (cc := cX6_compare) (maxL := 4) (ret := (some .int)) pl_X6 rfl ?_
  intro p e s m args below meth c s₁ B hml hv
  obtain ⟨rfl, hPX⟩ := hv
  have hx := B.exec
  have hb := B.bytes
  have hr := B.returns
  have hts := atoms_spec (ws := wsX6_compare) B.pre
  have hown : s.vm.findClass RX6 = some m.cls := findClass_of_methodNamed B.named
  have hlocks := B.notSynchronized
  have hX := WM.of hPX
  have hl := lv_entry ([.ref (am 0), .int x9, .int y1, .int y2]) (n := 4) (Nat.le_of_ble_eq_true rfl)
  rw [lg_entry_eq]
  generalize (lg_sl ([.ref (am 0), .int x9, .int y1, .int y2]) ++ List.replicate (4 - (lg_sl ([.ref (am 0), .int x9, .int y1, .int y2])).length) Slot.unset).toArray = ls at hl ⊢
  have hl : lv_has ls 4 [(0, .ref (am 0)), (1, .int x9), (2, .int y1), (3, .int y2)] := hl
  show W p l e ({ frames := 2, cells := 0, slots := 0, locals := 47 } : Room) s m ([.ref (am 0), .int x9, .int y1, .int y2]).toArray below meth c s.heap [] 0 0 (MQ below (va_Qi (fun r M' => M' = thM M 1) (PM dC dI am) (AM am)) ([.ref (am 0), .int x9, .int y1, .int y2]).toArray s 0 0 (AM am)) (F0 m 0 ls [])
  refine lv_aload_n hx hb dX6_compare_0 rfl (lv_at hl 0 rfl) ?_
  refine lv_iload_n hx hb dX6_compare_1 rfl (lv_at hl 1 rfl) ?_
  refine kx_cr (v := bI true) (va_runS (As := [.int x9]) (rest := [.ref (am 0)]) ⟨hx, hb, hml, hown, hts⟩ (m_X6_isNoOrder l dC dI am M x9) (va_cwS 1 hts gX6_compare_X6_isNoOrder rfl rfl rfl hdX6_isNoOrder_1.2 ⟨Nat.le_of_ble_eq_true rfl, Nat.le_of_ble_eq_true rfl⟩) hX.preS rfl rfl hl.1 rfl (lv_room (Nat.le_of_ble_eq_true rfl)) dX6_compare_2 ⟨Nat.le_of_ble_eq_true rfl, Nat.le_of_ble_eq_true rfl⟩) (fun _ h => h.trans (isNo_bad (isNo_o hb9))) ?_
  refine lv_iconst (v := nI 1) hx hb dX6_compare_5 (by decide) ?_
  refine km_ci (va_runV (As := [.int (bI true), .int (nI 1)]) (rest := []) ⟨hx, hb, hml, hown, hts⟩ (m_X6_start l dC dI am M true 1 (by omega)) (cwV 2 hts gX6_compare_X6_start rfl rfl rfl hdX6_start_2 ⟨Nat.le_of_ble_eq_true rfl, Nat.le_of_ble_eq_true rfl⟩) (hX.preObj) rfl rfl hl.1 rfl (lv_room (Nat.le_of_ble_eq_true rfl)) dX6_compare_6 ⟨Nat.le_of_ble_eq_true rfl, Nat.le_of_ble_eq_true rfl⟩) hX (fun _ h => h) (fun r_ S_ H locs hw hX => ?_)
  obtain ⟨rfl, rfl⟩ := hw
  refine kb_if_ne (tgt := 39) hx hb dX6_compare_9 (by decide) (fun k_1 => ?_) (fun k_1 => absurd k_1 (by decide))
  refine lv_iconst (v := nI 0) hx hb dX6_compare_39 (by decide) ?_
  refine lv_goto (tgt := 50) hx hb dX6_compare_40 (by decide) ?_
  exact W.iret (v := nI 0) hx hb hr (fun t9 ht9 hW9 => ⟨⟨_, (mN M (1, M.2.2.2.1, M.2.2.2.2.1, M.2.2.2.2.2)), rfl, rfl, hX.P ht9 hW9⟩, hX.2.2.2.F ht9⟩) hX.2.2.2.2.2 dX6_compare_50
set_option maxHeartbeats 4000000 in
set_option maxRecDepth 100000 in
theorem o_X6_compare_2 (l : Launch) (dC : Nat → ClassId) (dI : Nat → Nat → Nat) (am : Nat → Nat) (M : MS) (j : Nat) (x9 : Int32) (y2 : Int32) (hj : j < 4) (hb9 : x9 < 0 ∨ nI 15 < x9) (hI : InvM M) : Met l yX6_compare wsX6_compare ({ frames := 2, cells := 0, slots := 0, locals := 47 } : Room) (va_Pc [.ref (am 0), .int (nI j), .int x9, .int y2] (PM dC dI am M)) (va_Qi (fun r M' => M' = thM M 2) (PM dC dI am) (AM am)) 0 0 (AM am) := by
  refine Met.ofW (cc := cX6_compare) (maxL := 4) (ret := (some .int)) pl_X6 rfl ?_
  intro p e s m args below meth c s₁ B hml hv
  obtain ⟨rfl, hPX⟩ := hv
  have hx := B.exec
  have hb := B.bytes
  have hr := B.returns
  have hts := atoms_spec (ws := wsX6_compare) B.pre
  have hown : s.vm.findClass RX6 = some m.cls := findClass_of_methodNamed B.named
  have hlocks := B.notSynchronized
  have hX := WM.of hPX
  have hl := lv_entry ([.ref (am 0), .int (nI j), .int x9, .int y2]) (n := 4) (Nat.le_of_ble_eq_true rfl)
  rw [lg_entry_eq]
  generalize (lg_sl ([.ref (am 0), .int (nI j), .int x9, .int y2]) ++ List.replicate (4 - (lg_sl ([.ref (am 0), .int (nI j), .int x9, .int y2])).length) Slot.unset).toArray = ls at hl ⊢
  have hl : lv_has ls 4 [(0, .ref (am 0)), (1, .int (nI j)), (2, .int x9), (3, .int y2)] := hl
  show W p l e ({ frames := 2, cells := 0, slots := 0, locals := 47 } : Room) s m ([.ref (am 0), .int (nI j), .int x9, .int y2]).toArray below meth c s.heap [] 0 0 (MQ below (va_Qi (fun r M' => M' = thM M 2) (PM dC dI am) (AM am)) ([.ref (am 0), .int (nI j), .int x9, .int y2]).toArray s 0 0 (AM am)) (F0 m 0 ls [])
  refine lv_aload_n hx hb dX6_compare_0 rfl (lv_at hl 0 rfl) ?_
  refine lv_iload_n hx hb dX6_compare_1 rfl (lv_at hl 1 rfl) ?_
  refine kx_cr (v := bI false) (va_runS (As := [.int (nI j)]) (rest := [.ref (am 0)]) ⟨hx, hb, hml, hown, hts⟩ (m_X6_isNoOrder l dC dI am M (nI j)) (va_cwS 1 hts gX6_compare_X6_isNoOrder rfl rfl rfl hdX6_isNoOrder_1.2 ⟨Nat.le_of_ble_eq_true rfl, Nat.le_of_ble_eq_true rfl⟩) hX.preS rfl rfl hl.1 rfl (lv_room (Nat.le_of_ble_eq_true rfl)) dX6_compare_2 ⟨Nat.le_of_ble_eq_true rfl, Nat.le_of_ble_eq_true rfl⟩) (fun _ h => h.trans (isNo_ok (by omega) (by omega))) ?_
  refine lv_iconst (v := nI 1) hx hb dX6_compare_5 (by decide) ?_
  refine km_ci (va_runV (As := [.int (bI false), .int (nI 1)]) (rest := []) ⟨hx, hb, hml, hown, hts⟩ (m_X6_start l dC dI am M false 1 (by omega)) (cwV 2 hts gX6_compare_X6_start rfl rfl rfl hdX6_start_2 ⟨Nat.le_of_ble_eq_true rfl, Nat.le_of_ble_eq_true rfl⟩) (hX.preObj) rfl rfl hl.1 rfl (lv_room (Nat.le_of_ble_eq_true rfl)) dX6_compare_6 ⟨Nat.le_of_ble_eq_true rfl, Nat.le_of_ble_eq_true rfl⟩) hX (fun _ h => h) (fun r_ S_ H locs hw hX => ?_)
  obtain ⟨rfl, rfl⟩ := hw
  refine kb_if_ne (tgt := 39) hx hb dX6_compare_9 (by decide) (fun k_1 => absurd k_1 (by decide)) (fun k_1 => ?_)
  refine lv_aload_n hx hb dX6_compare_12 rfl (lv_at hl 0 rfl) ?_
  refine lv_iload_n hx hb dX6_compare_13 rfl (lv_at hl 2 rfl) ?_
  refine kx_cr (v := bI true) (va_runS (As := [.int x9]) (rest := [.ref (am 0)]) ⟨hx, hb, hml, hown, hts⟩ (m_X6_isNoValue l dC dI am (mN M (0, M.2.2.2.1, M.2.2.2.2.1, M.2.2.2.2.2)) x9) (va_cwS 1 hts gX6_compare_X6_isNoValue rfl rfl rfl hdX6_isNoValue_1.2 ⟨Nat.le_of_ble_eq_true rfl, Nat.le_of_ble_eq_true rfl⟩) hX.preS rfl rfl hl.1 rfl (lv_room (Nat.le_of_ble_eq_true rfl)) dX6_compare_14 ⟨Nat.le_of_ble_eq_true rfl, Nat.le_of_ble_eq_true rfl⟩) (fun _ h => h.trans (isNo_bad hb9)) ?_
  refine kb_if_ne (tgt := 27) hx hb dX6_compare_17 (by decide) (fun k_2 => ?_) (fun k_2 => absurd k_2 (by decide))
  refine lv_iconst (v := nI 1) hx hb dX6_compare_27 (by decide) ?_
  refine lv_goto (tgt := 32) hx hb dX6_compare_28 (by decide) ?_
  refine lv_iconst (v := nI 2) hx hb dX6_compare_32 (by decide) ?_
  refine km_ci (va_runV (As := [.int (nI 1), .int (nI 2)]) (rest := []) ⟨hx, hb, hml, hown, hts⟩ (m_X6_refuse l dC dI am (mN M (0, M.2.2.2.1, M.2.2.2.2.1, M.2.2.2.2.2)) true 2 (by omega) rfl) (cwV 2 hts gX6_compare_X6_refuse rfl rfl rfl hdX6_refuse_2 ⟨Nat.le_of_ble_eq_true rfl, Nat.le_of_ble_eq_true rfl⟩) (hX.preObj) rfl rfl hl.1 rfl (lv_room (Nat.le_of_ble_eq_true rfl)) dX6_compare_33 ⟨Nat.le_of_ble_eq_true rfl, Nat.le_of_ble_eq_true rfl⟩) hX (fun _ h => h) (fun r_ S_ H locs hw hX => ?_)
  obtain ⟨rfl, rfl⟩ := hw
  refine kb_if_eq (tgt := 43) hx hb dX6_compare_36 (by decide) (fun k_3 => absurd k_3 (by decide)) (fun k_3 => ?_)
  refine lv_iconst (v := nI 0) hx hb dX6_compare_39 (by decide) ?_
  refine lv_goto (tgt := 50) hx hb dX6_compare_40 (by decide) ?_
  exact W.iret (v := nI 0) hx hb hr (fun t9 ht9 hW9 => ⟨⟨_, (mN M (2, M.2.2.2.1, M.2.2.2.2.1, M.2.2.2.2.2)), rfl, rfl, hX.P ht9 hW9⟩, hX.2.2.2.F ht9⟩) hX.2.2.2.2.2 dX6_compare_50
set_option maxHeartbeats 4000000 in
set_option maxRecDepth 100000 in
theorem o_X6_compare_3 (l : Launch) (dC : Nat → ClassId) (dI : Nat → Nat → Nat) (am : Nat → Nat) (M : MS) (j : Nat) (v : Nat) (x9 : Int32) (hj : j < 4) (hv : v < 16) (hb9 : x9 < 0 ∨ nI 15 < x9) (hI : InvM M) : Met l yX6_compare wsX6_compare ({ frames := 2, cells := 0, slots := 0, locals := 47 } : Room) (va_Pc [.ref (am 0), .int (nI j), .int (nI v), .int x9] (PM dC dI am M)) (va_Qi (fun r M' => M' = thM M 2) (PM dC dI am) (AM am)) 0 0 (AM am) := by
  refine Met.ofW (cc := cX6_compare) (maxL := 4) (ret := (some .int)) pl_X6 rfl ?_
  intro p e s m args below meth c s₁ B hml hv
  obtain ⟨rfl, hPX⟩ := hv
  have hx := B.exec
  have hb := B.bytes
  have hr := B.returns
  have hts := atoms_spec (ws := wsX6_compare) B.pre
  have hown : s.vm.findClass RX6 = some m.cls := findClass_of_methodNamed B.named
  have hlocks := B.notSynchronized
  have hX := WM.of hPX
  have hl := lv_entry ([.ref (am 0), .int (nI j), .int (nI v), .int x9]) (n := 4) (Nat.le_of_ble_eq_true rfl)
  rw [lg_entry_eq]
  generalize (lg_sl ([.ref (am 0), .int (nI j), .int (nI v), .int x9]) ++ List.replicate (4 - (lg_sl ([.ref (am 0), .int (nI j), .int (nI v), .int x9])).length) Slot.unset).toArray = ls at hl ⊢
  have hl : lv_has ls 4 [(0, .ref (am 0)), (1, .int (nI j)), (2, .int (nI v)), (3, .int x9)] := hl
  show W p l e ({ frames := 2, cells := 0, slots := 0, locals := 47 } : Room) s m ([.ref (am 0), .int (nI j), .int (nI v), .int x9]).toArray below meth c s.heap [] 0 0 (MQ below (va_Qi (fun r M' => M' = thM M 2) (PM dC dI am) (AM am)) ([.ref (am 0), .int (nI j), .int (nI v), .int x9]).toArray s 0 0 (AM am)) (F0 m 0 ls [])
  refine lv_aload_n hx hb dX6_compare_0 rfl (lv_at hl 0 rfl) ?_
  refine lv_iload_n hx hb dX6_compare_1 rfl (lv_at hl 1 rfl) ?_
  refine kx_cr (v := bI false) (va_runS (As := [.int (nI j)]) (rest := [.ref (am 0)]) ⟨hx, hb, hml, hown, hts⟩ (m_X6_isNoOrder l dC dI am M (nI j)) (va_cwS 1 hts gX6_compare_X6_isNoOrder rfl rfl rfl hdX6_isNoOrder_1.2 ⟨Nat.le_of_ble_eq_true rfl, Nat.le_of_ble_eq_true rfl⟩) hX.preS rfl rfl hl.1 rfl (lv_room (Nat.le_of_ble_eq_true rfl)) dX6_compare_2 ⟨Nat.le_of_ble_eq_true rfl, Nat.le_of_ble_eq_true rfl⟩) (fun _ h => h.trans (isNo_ok (by omega) (by omega))) ?_
  refine lv_iconst (v := nI 1) hx hb dX6_compare_5 (by decide) ?_
  refine km_ci (va_runV (As := [.int (bI false), .int (nI 1)]) (rest := []) ⟨hx, hb, hml, hown, hts⟩ (m_X6_start l dC dI am M false 1 (by omega)) (cwV 2 hts gX6_compare_X6_start rfl rfl rfl hdX6_start_2 ⟨Nat.le_of_ble_eq_true rfl, Nat.le_of_ble_eq_true rfl⟩) (hX.preObj) rfl rfl hl.1 rfl (lv_room (Nat.le_of_ble_eq_true rfl)) dX6_compare_6 ⟨Nat.le_of_ble_eq_true rfl, Nat.le_of_ble_eq_true rfl⟩) hX (fun _ h => h) (fun r_ S_ H locs hw hX => ?_)
  obtain ⟨rfl, rfl⟩ := hw
  refine kb_if_ne (tgt := 39) hx hb dX6_compare_9 (by decide) (fun k_1 => absurd k_1 (by decide)) (fun k_1 => ?_)
  refine lv_aload_n hx hb dX6_compare_12 rfl (lv_at hl 0 rfl) ?_
  refine lv_iload_n hx hb dX6_compare_13 rfl (lv_at hl 2 rfl) ?_
  refine kx_cr (v := bI false) (va_runS (As := [.int (nI v)]) (rest := [.ref (am 0)]) ⟨hx, hb, hml, hown, hts⟩ (m_X6_isNoValue l dC dI am (mN M (0, M.2.2.2.1, M.2.2.2.2.1, M.2.2.2.2.2)) (nI v)) (va_cwS 1 hts gX6_compare_X6_isNoValue rfl rfl rfl hdX6_isNoValue_1.2 ⟨Nat.le_of_ble_eq_true rfl, Nat.le_of_ble_eq_true rfl⟩) hX.preS rfl rfl hl.1 rfl (lv_room (Nat.le_of_ble_eq_true rfl)) dX6_compare_14 ⟨Nat.le_of_ble_eq_true rfl, Nat.le_of_ble_eq_true rfl⟩) (fun _ h => h.trans (isNo_ok (by omega) (by omega))) ?_
  refine kb_if_ne (tgt := 27) hx hb dX6_compare_17 (by decide) (fun k_2 => absurd k_2 (by decide)) (fun k_2 => ?_)
  refine lv_iload_n hx hb dX6_compare_20 rfl (lv_at hl 3 rfl) ?_
  refine kx_cr (v := bI true) (va_runS (As := [.int x9]) (rest := [.ref (am 0)]) ⟨hx, hb, hml, hown, hts⟩ (m_X6_isNoValue l dC dI am (mN M (0, M.2.2.2.1, M.2.2.2.2.1, M.2.2.2.2.2)) x9) (va_cwS 1 hts gX6_compare_X6_isNoValue rfl rfl rfl hdX6_isNoValue_1.2 ⟨Nat.le_of_ble_eq_true rfl, Nat.le_of_ble_eq_true rfl⟩) hX.preS rfl rfl hl.1 rfl (lv_room (Nat.le_of_ble_eq_true rfl)) dX6_compare_21 ⟨Nat.le_of_ble_eq_true rfl, Nat.le_of_ble_eq_true rfl⟩) (fun _ h => h.trans (isNo_bad hb9)) ?_
  refine kb_if_eq (tgt := 31) hx hb dX6_compare_24 (by decide) (fun k_3 => absurd k_3 (by decide)) (fun k_3 => ?_)
  refine lv_iconst (v := nI 1) hx hb dX6_compare_27 (by decide) ?_
  refine lv_goto (tgt := 32) hx hb dX6_compare_28 (by decide) ?_
  refine lv_iconst (v := nI 2) hx hb dX6_compare_32 (by decide) ?_
  refine km_ci (va_runV (As := [.int (nI 1), .int (nI 2)]) (rest := []) ⟨hx, hb, hml, hown, hts⟩ (m_X6_refuse l dC dI am (mN M (0, M.2.2.2.1, M.2.2.2.2.1, M.2.2.2.2.2)) true 2 (by omega) rfl) (cwV 2 hts gX6_compare_X6_refuse rfl rfl rfl hdX6_refuse_2 ⟨Nat.le_of_ble_eq_true rfl, Nat.le_of_ble_eq_true rfl⟩) (hX.preObj) rfl rfl hl.1 rfl (lv_room (Nat.le_of_ble_eq_true rfl)) dX6_compare_33 ⟨Nat.le_of_ble_eq_true rfl, Nat.le_of_ble_eq_true rfl⟩) hX (fun _ h => h) (fun r_ S_ H locs hw hX => ?_)
  obtain ⟨rfl, rfl⟩ := hw
  refine kb_if_eq (tgt := 43) hx hb dX6_compare_36 (by decide) (fun k_4 => absurd k_4 (by decide)) (fun k_4 => ?_)
  refine lv_iconst (v := nI 0) hx hb dX6_compare_39 (by decide) ?_
  refine lv_goto (tgt := 50) hx hb dX6_compare_40 (by decide) ?_
  exact W.iret (v := nI 0) hx hb hr (fun t9 ht9 hW9 => ⟨⟨_, (mN M (2, M.2.2.2.1, M.2.2.2.2.1, M.2.2.2.2.2)), rfl, rfl, hX.P ht9 hW9⟩, hX.2.2.2.F ht9⟩) hX.2.2.2.2.2 dX6_compare_50
set_option maxHeartbeats 4000000 in
set_option maxRecDepth 100000 in
theorem o_X6_both_1 (l : Launch) (dC : Nat → ClassId) (dI : Nat → Nat → Nat) (am : Nat → Nat) (M : MS) (x9 : Int32) (y1 : Int32) (y2 : Int32) (y3 : Int32) (hb9 : x9 < 0 ∨ nI 4 ≤ x9) (hI : InvM M) : Met l yX6_both wsX6_both ({ frames := 3, cells := 0, slots := 0, locals := 73 } : Room) (va_Pc [.ref (am 0), .int x9, .int y1, .int y2, .int y3] (PM dC dI am M)) (va_Qi (fun r M' => M' = thM M 1) (PM dC dI am) (AM am)) 0 0 (AM am) := by
  refine Met.ofW (cc := cX6_both) (maxL := 5) (ret := (some .int)) pl_X6 rfl ?_
  intro p e s m args below meth c s₁ B hml hv
  obtain ⟨rfl, hPX⟩ := hv
  have hx := B.exec
  have hb := B.bytes
  have hr := B.returns
  have hts := atoms_spec (ws := wsX6_both) B.pre
  have hown : s.vm.findClass RX6 = some m.cls := findClass_of_methodNamed B.named
  have hlocks := B.notSynchronized
  have hX := WM.of hPX
  have hl := lv_entry ([.ref (am 0), .int x9, .int y1, .int y2, .int y3]) (n := 5) (Nat.le_of_ble_eq_true rfl)
  rw [lg_entry_eq]
  generalize (lg_sl ([.ref (am 0), .int x9, .int y1, .int y2, .int y3]) ++ List.replicate (5 - (lg_sl ([.ref (am 0), .int x9, .int y1, .int y2, .int y3])).length) Slot.unset).toArray = ls at hl ⊢
  have hl : lv_has ls 5 [(0, .ref (am 0)), (1, .int x9), (2, .int y1), (3, .int y2), (4, .int y3)] := hl
  show W p l e ({ frames := 3, cells := 0, slots := 0, locals := 73 } : Room) s m ([.ref (am 0), .int x9, .int y1, .int y2, .int y3]).toArray below meth c s.heap [] 0 0 (MQ below (va_Qi (fun r M' => M' = thM M 1) (PM dC dI am) (AM am)) ([.ref (am 0), .int x9, .int y1, .int y2, .int y3]).toArray s 0 0 (AM am)) (F0 m 0 ls [])
  refine lv_aload_n hx hb dX6_both_0 rfl (lv_at hl 0 rfl) ?_
  refine lv_iload_n hx hb dX6_both_1 rfl (lv_at hl 1 rfl) ?_
  refine kx_cr (v := bI true) (va_runS (As := [.int x9]) (rest := [.ref (am 0)]) ⟨hx, hb, hml, hown, hts⟩ (m_X6_isNoOrder l dC dI am M x9) (va_cwS 1 hts gX6_both_X6_isNoOrder rfl rfl rfl hdX6_isNoOrder_1.2 ⟨Nat.le_of_ble_eq_true rfl, Nat.le_of_ble_eq_true rfl⟩) hX.preS rfl rfl hl.1 rfl (lv_room (Nat.le_of_ble_eq_true rfl)) dX6_both_2 ⟨Nat.le_of_ble_eq_true rfl, Nat.le_of_ble_eq_true rfl⟩) (fun _ h => h.trans (isNo_bad (isNo_o hb9))) ?_
  refine kb_if_ne (tgt := 15) hx hb dX6_both_5 (by decide) (fun k_1 => ?_) (fun k_1 => absurd k_1 (by decide))
  refine lv_iconst (v := nI 1) hx hb dX6_both_15 (by decide) ?_
  refine lv_goto (tgt := 20) hx hb dX6_both_16 (by decide) ?_
  refine lv_iconst (v := nI 1) hx hb dX6_both_20 (by decide) ?_
  refine km_ci (va_runV (As := [.int (nI 1), .int (nI 1)]) (rest := []) ⟨hx, hb, hml, hown, hts⟩ (m_X6_start l dC dI am M true 1 (by omega)) (cwV 2 hts gX6_both_X6_start rfl rfl rfl hdX6_start_2 ⟨Nat.le_of_ble_eq_true rfl, Nat.le_of_ble_eq_true rfl⟩) (hX.preObj) rfl rfl hl.1 rfl (lv_room (Nat.le_of_ble_eq_true rfl)) dX6_both_21 ⟨Nat.le_of_ble_eq_true rfl, Nat.le_of_ble_eq_true rfl⟩) hX (fun _ h => h) (fun r_ S_ H locs hw hX => ?_)
  obtain ⟨rfl, rfl⟩ := hw
  refine kb_if_ne (tgt := 55) hx hb dX6_both_24 (by decide) (fun k_2 => ?_) (fun k_2 => absurd k_2 (by decide))
  refine lv_iconst (v := nI 0) hx hb dX6_both_55 (by decide) ?_
  refine lv_goto (tgt := 68) hx hb dX6_both_56 (by decide) ?_
  exact W.iret (v := nI 0) hx hb hr (fun t9 ht9 hW9 => ⟨⟨_, (mN M (1, M.2.2.2.1, M.2.2.2.2.1, M.2.2.2.2.2)), rfl, rfl, hX.P ht9 hW9⟩, hX.2.2.2.F ht9⟩) hX.2.2.2.2.2 dX6_both_68
set_option maxHeartbeats 4000000 in
set_option maxRecDepth 100000 in
theorem o_X6_both_2 (l : Launch) (dC : Nat → ClassId) (dI : Nat → Nat → Nat) (am : Nat → Nat) (M : MS) (j : Nat) (x9 : Int32) (y2 : Int32) (y3 : Int32) (hj : j < 4) (hb9 : x9 < 0 ∨ nI 4 ≤ x9) (hI : InvM M) : Met l yX6_both wsX6_both ({ frames := 3, cells := 0, slots := 0, locals := 73 } : Room) (va_Pc [.ref (am 0), .int (nI j), .int x9, .int y2, .int y3] (PM dC dI am M)) (va_Qi (fun r M' => M' = thM M 1) (PM dC dI am) (AM am)) 0 0 (AM am) := by
  refine Met.ofW (cc := cX6_both) (maxL := 5) (ret := (some .int)) pl_X6 rfl ?_
  intro p e s m args below meth c s₁ B hml hv
  obtain ⟨rfl, hPX⟩ := hv
  have hx := B.exec
  have hb := B.bytes
  have hr := B.returns
  have hts := atoms_spec (ws := wsX6_both) B.pre
  have hown : s.vm.findClass RX6 = some m.cls := findClass_of_methodNamed B.named
  have hlocks := B.notSynchronized
  have hX := WM.of hPX
  have hl := lv_entry ([.ref (am 0), .int (nI j), .int x9, .int y2, .int y3]) (n := 5) (Nat.le_of_ble_eq_true rfl)
  rw [lg_entry_eq]
  generalize (lg_sl ([.ref (am 0), .int (nI j), .int x9, .int y2, .int y3]) ++ List.replicate (5 - (lg_sl ([.ref (am 0), .int (nI j), .int x9, .int y2, .int y3])).length) Slot.unset).toArray = ls at hl ⊢
  have hl : lv_has ls 5 [(0, .ref (am 0)), (1, .int (nI j)), (2, .int x9), (3, .int y2), (4, .int y3)] := hl
  show W p l e ({ frames := 3, cells := 0, slots := 0, locals := 73 } : Room) s m ([.ref (am 0), .int (nI j), .int x9, .int y2, .int y3]).toArray below meth c s.heap [] 0 0 (MQ below (va_Qi (fun r M' => M' = thM M 1) (PM dC dI am) (AM am)) ([.ref (am 0), .int (nI j), .int x9, .int y2, .int y3]).toArray s 0 0 (AM am)) (F0 m 0 ls [])
  refine lv_aload_n hx hb dX6_both_0 rfl (lv_at hl 0 rfl) ?_
  refine lv_iload_n hx hb dX6_both_1 rfl (lv_at hl 1 rfl) ?_
  refine kx_cr (v := bI false) (va_runS (As := [.int (nI j)]) (rest := [.ref (am 0)]) ⟨hx, hb, hml, hown, hts⟩ (m_X6_isNoOrder l dC dI am M (nI j)) (va_cwS 1 hts gX6_both_X6_isNoOrder rfl rfl rfl hdX6_isNoOrder_1.2 ⟨Nat.le_of_ble_eq_true rfl, Nat.le_of_ble_eq_true rfl⟩) hX.preS rfl rfl hl.1 rfl (lv_room (Nat.le_of_ble_eq_true rfl)) dX6_both_2 ⟨Nat.le_of_ble_eq_true rfl, Nat.le_of_ble_eq_true rfl⟩) (fun _ h => h.trans (isNo_ok (by omega) (by omega))) ?_
  refine kb_if_ne (tgt := 15) hx hb dX6_both_5 (by decide) (fun k_1 => absurd k_1 (by decide)) (fun k_1 => ?_)
  refine lv_iload_n hx hb dX6_both_8 rfl (lv_at hl 2 rfl) ?_
  refine kx_cr (v := bI true) (va_runS (As := [.int x9]) (rest := [.ref (am 0)]) ⟨hx, hb, hml, hown, hts⟩ (m_X6_isNoOrder l dC dI am M x9) (va_cwS 1 hts gX6_both_X6_isNoOrder rfl rfl rfl hdX6_isNoOrder_1.2 ⟨Nat.le_of_ble_eq_true rfl, Nat.le_of_ble_eq_true rfl⟩) hX.preS rfl rfl hl.1 rfl (lv_room (Nat.le_of_ble_eq_true rfl)) dX6_both_9 ⟨Nat.le_of_ble_eq_true rfl, Nat.le_of_ble_eq_true rfl⟩) (fun _ h => h.trans (isNo_bad (isNo_o hb9))) ?_
  refine kb_if_eq (tgt := 19) hx hb dX6_both_12 (by decide) (fun k_2 => absurd k_2 (by decide)) (fun k_2 => ?_)
  refine lv_iconst (v := nI 1) hx hb dX6_both_15 (by decide) ?_
  refine lv_goto (tgt := 20) hx hb dX6_both_16 (by decide) ?_
  refine lv_iconst (v := nI 1) hx hb dX6_both_20 (by decide) ?_
  refine km_ci (va_runV (As := [.int (nI 1), .int (nI 1)]) (rest := []) ⟨hx, hb, hml, hown, hts⟩ (m_X6_start l dC dI am M true 1 (by omega)) (cwV 2 hts gX6_both_X6_start rfl rfl rfl hdX6_start_2 ⟨Nat.le_of_ble_eq_true rfl, Nat.le_of_ble_eq_true rfl⟩) (hX.preObj) rfl rfl hl.1 rfl (lv_room (Nat.le_of_ble_eq_true rfl)) dX6_both_21 ⟨Nat.le_of_ble_eq_true rfl, Nat.le_of_ble_eq_true rfl⟩) hX (fun _ h => h) (fun r_ S_ H locs hw hX => ?_)
  obtain ⟨rfl, rfl⟩ := hw
  refine kb_if_ne (tgt := 55) hx hb dX6_both_24 (by decide) (fun k_3 => ?_) (fun k_3 => absurd k_3 (by decide))
  refine lv_iconst (v := nI 0) hx hb dX6_both_55 (by decide) ?_
  refine lv_goto (tgt := 68) hx hb dX6_both_56 (by decide) ?_
  exact W.iret (v := nI 0) hx hb hr (fun t9 ht9 hW9 => ⟨⟨_, (mN M (1, M.2.2.2.1, M.2.2.2.2.1, M.2.2.2.2.2)), rfl, rfl, hX.P ht9 hW9⟩, hX.2.2.2.F ht9⟩) hX.2.2.2.2.2 dX6_both_68
set_option maxHeartbeats 4000000 in
set_option maxRecDepth 100000 in
theorem o_X6_both_3 (l : Launch) (dC : Nat → ClassId) (dI : Nat → Nat → Nat) (am : Nat → Nat) (M : MS) (j : Nat) (j2 : Nat) (x9 : Int32) (y3 : Int32) (hj : j < 4) (hj2 : j2 < 4) (hb9 : x9 < 0 ∨ nI 15 < x9) (hI : InvM M) : Met l yX6_both wsX6_both ({ frames := 3, cells := 0, slots := 0, locals := 73 } : Room) (va_Pc [.ref (am 0), .int (nI j), .int (nI j2), .int x9, .int y3] (PM dC dI am M)) (va_Qi (fun r M' => M' = thM M 2) (PM dC dI am) (AM am)) 0 0 (AM am) := by
  refine Met.ofW (cc := cX6_both) (maxL := 5) (ret := (some .int)) pl_X6 rfl ?_
  intro p e s m args below meth c s₁ B hml hv
  obtain ⟨rfl, hPX⟩ := hv
  have hx := B.exec
  have hb := B.bytes
  have hr := B.returns
  have hts := atoms_spec (ws := wsX6_both) B.pre
  have hown : s.vm.findClass RX6 = some m.cls := findClass_of_methodNamed B.named
  have hlocks := B.notSynchronized
  have hX := WM.of hPX
  have hl := lv_entry ([.ref (am 0), .int (nI j), .int (nI j2), .int x9, .int y3]) (n := 5) (Nat.le_of_ble_eq_true rfl)
  rw [lg_entry_eq]
  generalize (lg_sl ([.ref (am 0), .int (nI j), .int (nI j2), .int x9, .int y3]) ++ List.replicate (5 - (lg_sl ([.ref (am 0), .int (nI j), .int (nI j2), .int x9, .int y3])).length) Slot.unset).toArray = ls at hl ⊢
  have hl : lv_has ls 5 [(0, .ref (am 0)), (1, .int (nI j)), (2, .int (nI j2)), (3, .int x9), (4, .int y3)] := hl
  show W p l e ({ frames := 3, cells := 0, slots := 0, locals := 73 } : Room) s m ([.ref (am 0), .int (nI j), .int (nI j2), .int x9, .int y3]).toArray below meth c s.heap [] 0 0 (MQ below (va_Qi (fun r M' => M' = thM M 2) (PM dC dI am) (AM am)) ([.ref (am 0), .int (nI j), .int (nI j2), .int x9, .int y3]).toArray s 0 0 (AM am)) (F0 m 0 ls [])
  refine lv_aload_n hx hb dX6_both_0 rfl (lv_at hl 0 rfl) ?_
  refine lv_iload_n hx hb dX6_both_1 rfl (lv_at hl 1 rfl) ?_
  refine kx_cr (v := bI false) (va_runS (As := [.int (nI j)]) (rest := [.ref (am 0)]) ⟨hx, hb, hml, hown, hts⟩ (m_X6_isNoOrder l dC dI am M (nI j)) (va_cwS 1 hts gX6_both_X6_isNoOrder rfl rfl rfl hdX6_isNoOrder_1.2 ⟨Nat.le_of_ble_eq_true rfl, Nat.le_of_ble_eq_true rfl⟩) hX.preS rfl rfl hl.1 rfl (lv_room (Nat.le_of_ble_eq_true rfl)) dX6_both_2 ⟨Nat.le_of_ble_eq_true rfl, Nat.le_of_ble_eq_true rfl⟩) (fun _ h => h.trans (isNo_ok (by omega) (by omega))) ?_
  refine kb_if_ne (tgt := 15) hx hb dX6_both_5 (by decide) (fun k_1 => absurd k_1 (by decide)) (fun k_1 => ?_)
  refine lv_iload_n hx hb dX6_both_8 rfl (lv_at hl 2 rfl) ?_
  refine kx_cr (v := bI false) (va_runS (As := [.int (nI j2)]) (rest := [.ref (am 0)]) ⟨hx, hb, hml, hown, hts⟩ (m_X6_isNoOrder l dC dI am M (nI j2)) (va_cwS 1 hts gX6_both_X6_isNoOrder rfl rfl rfl hdX6_isNoOrder_1.2 ⟨Nat.le_of_ble_eq_true rfl, Nat.le_of_ble_eq_true rfl⟩) hX.preS rfl rfl hl.1 rfl (lv_room (Nat.le_of_ble_eq_true rfl)) dX6_both_9 ⟨Nat.le_of_ble_eq_true rfl, Nat.le_of_ble_eq_true rfl⟩) (fun _ h => h.trans (isNo_ok (by omega) (by omega))) ?_
  refine kb_if_eq (tgt := 19) hx hb dX6_both_12 (by decide) (fun k_2 => ?_) (fun k_2 => absurd k_2 (by decide))
  refine lv_iconst (v := nI 0) hx hb dX6_both_19 (by decide) ?_
  refine lv_iconst (v := nI 1) hx hb dX6_both_20 (by decide) ?_
  refine km_ci (va_runV (As := [.int (nI 0), .int (nI 1)]) (rest := []) ⟨hx, hb, hml, hown, hts⟩ (m_X6_start l dC dI am M false 1 (by omega)) (cwV 2 hts gX6_both_X6_start rfl rfl rfl hdX6_start_2 ⟨Nat.le_of_ble_eq_true rfl, Nat.le_of_ble_eq_true rfl⟩) (hX.preObj) rfl rfl hl.1 rfl (lv_room (Nat.le_of_ble_eq_true rfl)) dX6_both_21 ⟨Nat.le_of_ble_eq_true rfl, Nat.le_of_ble_eq_true rfl⟩) hX (fun _ h => h) (fun r_ S_ H locs hw hX => ?_)
  obtain ⟨rfl, rfl⟩ := hw
  refine kb_if_ne (tgt := 55) hx hb dX6_both_24 (by decide) (fun k_3 => absurd k_3 (by decide)) (fun k_3 => ?_)
  refine lv_aload_n hx hb dX6_both_27 rfl (lv_at hl 0 rfl) ?_
  refine lv_iload_n hx hb dX6_both_28 rfl (lv_at hl 3 rfl) ?_
  refine kx_cr (v := bI true) (va_runS (As := [.int x9]) (rest := [.ref (am 0)]) ⟨hx, hb, hml, hown, hts⟩ (m_X6_isNoValue l dC dI am (mN M (0, M.2.2.2.1, M.2.2.2.2.1, M.2.2.2.2.2)) x9) (va_cwS 1 hts gX6_both_X6_isNoValue rfl rfl rfl hdX6_isNoValue_1.2 ⟨Nat.le_of_ble_eq_true rfl, Nat.le_of_ble_eq_true rfl⟩) hX.preS rfl rfl hl.1 rfl (lv_room (Nat.le_of_ble_eq_true rfl)) dX6_both_29 ⟨Nat.le_of_ble_eq_true rfl, Nat.le_of_ble_eq_true rfl⟩) (fun _ h => h.trans (isNo_bad hb9)) ?_
  refine kb_if_ne (tgt := 43) hx hb dX6_both_32 (by decide) (fun k_4 => ?_) (fun k_4 => absurd k_4 (by decide))
  refine lv_iconst (v := nI 1) hx hb dX6_both_43 (by decide) ?_
  refine lv_goto (tgt := 48) hx hb dX6_both_44 (by decide) ?_
  refine lv_iconst (v := nI 2) hx hb dX6_both_48 (by decide) ?_
  refine km_ci (va_runV (As := [.int (nI 1), .int (nI 2)]) (rest := []) ⟨hx, hb, hml, hown, hts⟩ (m_X6_refuse l dC dI am (mN M (0, M.2.2.2.1, M.2.2.2.2.1, M.2.2.2.2.2)) true 2 (by omega) rfl) (cwV 2 hts gX6_both_X6_refuse rfl rfl rfl hdX6_refuse_2 ⟨Nat.le_of_ble_eq_true rfl, Nat.le_of_ble_eq_true rfl⟩) (hX.preObj) rfl rfl hl.1 rfl (lv_room (Nat.le_of_ble_eq_true rfl)) dX6_both_49 ⟨Nat.le_of_ble_eq_true rfl, Nat.le_of_ble_eq_true rfl⟩) hX (fun _ h => h) (fun r_ S_ H locs hw hX => ?_)
  obtain ⟨rfl, rfl⟩ := hw
  refine kb_if_eq (tgt := 59) hx hb dX6_both_52 (by decide) (fun k_5 => absurd k_5 (by decide)) (fun k_5 => ?_)
  refine lv_iconst (v := nI 0) hx hb dX6_both_55 (by decide) ?_
  refine lv_goto (tgt := 68) hx hb dX6_both_56 (by decide) ?_
  exact W.iret (v := nI 0) hx hb hr (fun t9 ht9 hW9 => ⟨⟨_, (mN M (2, M.2.2.2.1, M.2.2.2.2.1, M.2.2.2.2.2)), rfl, rfl, hX.P ht9 hW9⟩, hX.2.2.2.F ht9⟩) hX.2.2.2.2.2 dX6_both_68
set_option maxHeartbeats 4000000 in
set_option maxRecDepth 100000 in
theorem o_X6_both_4 (l : Launch) (dC : Nat → ClassId) (dI : Nat → Nat → Nat) (am : Nat → Nat) (M : MS) (j : Nat) (j2 : Nat) (v : Nat) (x9 : Int32) (hj : j < 4) (hj2 : j2 < 4) (hv : v < 16) (hb9 : x9 < 0 ∨ nI 15 < x9) (hI : InvM M) : Met l yX6_both wsX6_both ({ frames := 3, cells := 0, slots := 0, locals := 73 } : Room) (va_Pc [.ref (am 0), .int (nI j), .int (nI j2), .int (nI v), .int x9] (PM dC dI am M)) (va_Qi (fun r M' => M' = thM M 2) (PM dC dI am) (AM am)) 0 0 (AM am) := by
  refine Met.ofW (cc := cX6_both) (maxL := 5) (ret := (some .int)) pl_X6 rfl ?_
  intro p e s m args below meth c s₁ B hml hv
  obtain ⟨rfl, hPX⟩ := hv
  have hx := B.exec
  have hb := B.bytes
  have hr := B.returns
  have hts := atoms_spec (ws := wsX6_both) B.pre
  have hown : s.vm.findClass RX6 = some m.cls := findClass_of_methodNamed B.named
  have hlocks := B.notSynchronized
  have hX := WM.of hPX
  have hl := lv_entry ([.ref (am 0), .int (nI j), .int (nI j2), .int (nI v), .int x9]) (n := 5) (Nat.le_of_ble_eq_true rfl)
  rw [lg_entry_eq]
  generalize (lg_sl ([.ref (am 0), .int (nI j), .int (nI j2), .int (nI v), .int x9]) ++ List.replicate (5 - (lg_sl ([.ref (am 0), .int (nI j), .int (nI j2), .int (nI v), .int x9])).length) Slot.unset).toArray = ls at hl ⊢
  have hl : lv_has ls 5 [(0, .ref (am 0)), (1, .int (nI j)), (2, .int (nI j2)), (3, .int (nI v)), (4, .int x9)] := hl
  show W p l e ({ frames := 3, cells := 0, slots := 0, locals := 73 } : Room) s m ([.ref (am 0), .int (nI j), .int (nI j2), .int (nI v), .int x9]).toArray below meth c s.heap [] 0 0 (MQ below (va_Qi (fun r M' => M' = thM M 2) (PM dC dI am) (AM am)) ([.ref (am 0), .int (nI j), .int (nI j2), .int (nI v), .int x9]).toArray s 0 0 (AM am)) (F0 m 0 ls [])
  refine lv_aload_n hx hb dX6_both_0 rfl (lv_at hl 0 rfl) ?_
  refine lv_iload_n hx hb dX6_both_1 rfl (lv_at hl 1 rfl) ?_
  refine kx_cr (v := bI false) (va_runS (As := [.int (nI j)]) (rest := [.ref (am 0)]) ⟨hx, hb, hml, hown, hts⟩ (m_X6_isNoOrder l dC dI am M (nI j)) (va_cwS 1 hts gX6_both_X6_isNoOrder rfl rfl rfl hdX6_isNoOrder_1.2 ⟨Nat.le_of_ble_eq_true rfl, Nat.le_of_ble_eq_true rfl⟩) hX.preS rfl rfl hl.1 rfl (lv_room (Nat.le_of_ble_eq_true rfl)) dX6_both_2 ⟨Nat.le_of_ble_eq_true rfl, Nat.le_of_ble_eq_true rfl⟩) (fun _ h => h.trans (isNo_ok (by omega) (by omega))) ?_
  refine kb_if_ne (tgt := 15) hx hb dX6_both_5 (by decide) (fun k_1 => absurd k_1 (by decide)) (fun k_1 => ?_)
  refine lv_iload_n hx hb dX6_both_8 rfl (lv_at hl 2 rfl) ?_
  refine kx_cr (v := bI false) (va_runS (As := [.int (nI j2)]) (rest := [.ref (am 0)]) ⟨hx, hb, hml, hown, hts⟩ (m_X6_isNoOrder l dC dI am M (nI j2)) (va_cwS 1 hts gX6_both_X6_isNoOrder rfl rfl rfl hdX6_isNoOrder_1.2 ⟨Nat.le_of_ble_eq_true rfl, Nat.le_of_ble_eq_true rfl⟩) hX.preS rfl rfl hl.1 rfl (lv_room (Nat.le_of_ble_eq_true rfl)) dX6_both_9 ⟨Nat.le_of_ble_eq_true rfl, Nat.le_of_ble_eq_true rfl⟩) (fun _ h => h.trans (isNo_ok (by omega) (by omega))) ?_
  refine kb_if_eq (tgt := 19) hx hb dX6_both_12 (by decide) (fun k_2 => ?_) (fun k_2 => absurd k_2 (by decide))
  refine lv_iconst (v := nI 0) hx hb dX6_both_19 (by decide) ?_
  refine lv_iconst (v := nI 1) hx hb dX6_both_20 (by decide) ?_
  refine km_ci (va_runV (As := [.int (nI 0), .int (nI 1)]) (rest := []) ⟨hx, hb, hml, hown, hts⟩ (m_X6_start l dC dI am M false 1 (by omega)) (cwV 2 hts gX6_both_X6_start rfl rfl rfl hdX6_start_2 ⟨Nat.le_of_ble_eq_true rfl, Nat.le_of_ble_eq_true rfl⟩) (hX.preObj) rfl rfl hl.1 rfl (lv_room (Nat.le_of_ble_eq_true rfl)) dX6_both_21 ⟨Nat.le_of_ble_eq_true rfl, Nat.le_of_ble_eq_true rfl⟩) hX (fun _ h => h) (fun r_ S_ H locs hw hX => ?_)
  obtain ⟨rfl, rfl⟩ := hw
  refine kb_if_ne (tgt := 55) hx hb dX6_both_24 (by decide) (fun k_3 => absurd k_3 (by decide)) (fun k_3 => ?_)
  refine lv_aload_n hx hb dX6_both_27 rfl (lv_at hl 0 rfl) ?_
  refine lv_iload_n hx hb dX6_both_28 rfl (lv_at hl 3 rfl) ?_
  refine kx_cr (v := bI false) (va_runS (As := [.int (nI v)]) (rest := [.ref (am 0)]) ⟨hx, hb, hml, hown, hts⟩ (m_X6_isNoValue l dC dI am (mN M (0, M.2.2.2.1, M.2.2.2.2.1, M.2.2.2.2.2)) (nI v)) (va_cwS 1 hts gX6_both_X6_isNoValue rfl rfl rfl hdX6_isNoValue_1.2 ⟨Nat.le_of_ble_eq_true rfl, Nat.le_of_ble_eq_true rfl⟩) hX.preS rfl rfl hl.1 rfl (lv_room (Nat.le_of_ble_eq_true rfl)) dX6_both_29 ⟨Nat.le_of_ble_eq_true rfl, Nat.le_of_ble_eq_true rfl⟩) (fun _ h => h.trans (isNo_ok (by omega) (by omega))) ?_
  refine kb_if_ne (tgt := 43) hx hb dX6_both_32 (by decide) (fun k_4 => absurd k_4 (by decide)) (fun k_4 => ?_)
  refine lv_iload hx hb dX6_both_35 (lv_at hl 4 rfl) ?_
  refine kx_cr (v := bI true) (va_runS (As := [.int x9]) (rest := [.ref (am 0)]) ⟨hx, hb, hml, hown, hts⟩ (m_X6_isNoValue l dC dI am (mN M (0, M.2.2.2.1, M.2.2.2.2.1, M.2.2.2.2.2)) x9) (va_cwS 1 hts gX6_both_X6_isNoValue rfl rfl rfl hdX6_isNoValue_1.2 ⟨Nat.le_of_ble_eq_true rfl, Nat.le_of_ble_eq_true rfl⟩) hX.preS rfl rfl hl.1 rfl (lv_room (Nat.le_of_ble_eq_true rfl)) dX6_both_37 ⟨Nat.le_of_ble_eq_true rfl, Nat.le_of_ble_eq_true rfl⟩) (fun _ h => h.trans (isNo_bad hb9)) ?_
  refine kb_if_eq (tgt := 47) hx hb dX6_both_40 (by decide) (fun k_5 => absurd k_5 (by decide)) (fun k_5 => ?_)
  refine lv_iconst (v := nI 1) hx hb dX6_both_43 (by decide) ?_
  refine lv_goto (tgt := 48) hx hb dX6_both_44 (by decide) ?_
  refine lv_iconst (v := nI 2) hx hb dX6_both_48 (by decide) ?_
  refine km_ci (va_runV (As := [.int (nI 1), .int (nI 2)]) (rest := []) ⟨hx, hb, hml, hown, hts⟩ (m_X6_refuse l dC dI am (mN M (0, M.2.2.2.1, M.2.2.2.2.1, M.2.2.2.2.2)) true 2 (by omega) rfl) (cwV 2 hts gX6_both_X6_refuse rfl rfl rfl hdX6_refuse_2 ⟨Nat.le_of_ble_eq_true rfl, Nat.le_of_ble_eq_true rfl⟩) (hX.preObj) rfl rfl hl.1 rfl (lv_room (Nat.le_of_ble_eq_true rfl)) dX6_both_49 ⟨Nat.le_of_ble_eq_true rfl, Nat.le_of_ble_eq_true rfl⟩) hX (fun _ h => h) (fun r_ S_ H locs hw hX => ?_)
  obtain ⟨rfl, rfl⟩ := hw
  refine kb_if_eq (tgt := 59) hx hb dX6_both_52 (by decide) (fun k_6 => absurd k_6 (by decide)) (fun k_6 => ?_)
  refine lv_iconst (v := nI 0) hx hb dX6_both_55 (by decide) ?_
  refine lv_goto (tgt := 68) hx hb dX6_both_56 (by decide) ?_
  exact W.iret (v := nI 0) hx hb hr (fun t9 ht9 hW9 => ⟨⟨_, (mN M (2, M.2.2.2.1, M.2.2.2.2.1, M.2.2.2.2.2)), rfl, rfl, hX.P ht9 hW9⟩, hX.2.2.2.F ht9⟩) hX.2.2.2.2.2 dX6_both_68
set_option maxHeartbeats 4000000 in
set_option maxRecDepth 100000 in
theorem o_X6_refines_1 (l : Launch) (dC : Nat → ClassId) (dI : Nat → Nat → Nat) (am : Nat → Nat) (M : MS) (x9 : Int32) (y1 : Int32) (hb9 : x9 < 0 ∨ nI 4 ≤ x9) (hI : InvM M) : Met l yX6_refines wsX6_refines ({ frames := 3, cells := 0, slots := 0, locals := 71 } : Room) (va_Pc [.ref (am 0), .int x9, .int y1] (PM dC dI am M)) (va_Qi (fun r M' => M' = thM M 1) (PM dC dI am) (AM am)) 0 0 (AM am) := by
  refine Met.ofW (cc := cX6_refines) (maxL := 3) (ret := (some .boolean)) pl_X6 rfl ?_
  intro p e s m args below meth c s₁ B hml hv
  obtain ⟨rfl, hPX⟩ := hv
  have hx := B.exec
  have hb := B.bytes
  have hr := B.returns
  have hts := atoms_spec (ws := wsX6_refines) B.pre
  have hown : s.vm.findClass RX6 = some m.cls := findClass_of_methodNamed B.named
  have hlocks := B.notSynchronized
  have hX := WM.of hPX
  have hl := lv_entry ([.ref (am 0), .int x9, .int y1]) (n := 3) (Nat.le_of_ble_eq_true rfl)
  rw [lg_entry_eq]
  generalize (lg_sl ([.ref (am 0), .int x9, .int y1]) ++ List.replicate (3 - (lg_sl ([.ref (am 0), .int x9, .int y1])).length) Slot.unset).toArray = ls at hl ⊢
  have hl : lv_has ls 3 [(0, .ref (am 0)), (1, .int x9), (2, .int y1)] := hl
  show W p l e ({ frames := 3, cells := 0, slots := 0, locals := 71 } : Room) s m ([.ref (am 0), .int x9, .int y1]).toArray below meth c s.heap [] 0 0 (MQ below (va_Qi (fun r M' => M' = thM M 1) (PM dC dI am) (AM am)) ([.ref (am 0), .int x9, .int y1]).toArray s 0 0 (AM am)) (F0 m 0 ls [])
  refine lv_aload_n hx hb dX6_refines_0 rfl (lv_at hl 0 rfl) ?_
  refine lv_iload_n hx hb dX6_refines_1 rfl (lv_at hl 1 rfl) ?_
  refine kx_cr (v := bI true) (va_runS (As := [.int x9]) (rest := [.ref (am 0)]) ⟨hx, hb, hml, hown, hts⟩ (m_X6_isNoOrder l dC dI am M x9) (va_cwS 1 hts gX6_refines_X6_isNoOrder rfl rfl rfl hdX6_isNoOrder_1.2 ⟨Nat.le_of_ble_eq_true rfl, Nat.le_of_ble_eq_true rfl⟩) hX.preS rfl rfl hl.1 rfl (lv_room (Nat.le_of_ble_eq_true rfl)) dX6_refines_2 ⟨Nat.le_of_ble_eq_true rfl, Nat.le_of_ble_eq_true rfl⟩) (fun _ h => h.trans (isNo_bad (isNo_o hb9))) ?_
  refine kb_if_ne (tgt := 15) hx hb dX6_refines_5 (by decide) (fun k_1 => ?_) (fun k_1 => absurd k_1 (by decide))
  refine lv_iconst (v := nI 1) hx hb dX6_refines_15 (by decide) ?_
  refine lv_goto (tgt := 20) hx hb dX6_refines_16 (by decide) ?_
  refine lv_iconst (v := nI 1) hx hb dX6_refines_20 (by decide) ?_
  refine km_ci (va_runV (As := [.int (nI 1), .int (nI 1)]) (rest := []) ⟨hx, hb, hml, hown, hts⟩ (m_X6_start l dC dI am M true 1 (by omega)) (cwV 2 hts gX6_refines_X6_start rfl rfl rfl hdX6_start_2 ⟨Nat.le_of_ble_eq_true rfl, Nat.le_of_ble_eq_true rfl⟩) (hX.preObj) rfl rfl hl.1 rfl (lv_room (Nat.le_of_ble_eq_true rfl)) dX6_refines_21 ⟨Nat.le_of_ble_eq_true rfl, Nat.le_of_ble_eq_true rfl⟩) hX (fun _ h => h) (fun r_ S_ H locs hw hX => ?_)
  obtain ⟨rfl, rfl⟩ := hw
  refine kb_if_ne (tgt := 40) hx hb dX6_refines_24 (by decide) (fun k_2 => ?_) (fun k_2 => absurd k_2 (by decide))
  refine lv_iconst (v := nI 0) hx hb dX6_refines_40 (by decide) ?_
  exact W.zret (v := bI false) hx hb hr (bI_narrow _) (fun t9 ht9 hW9 => ⟨⟨_, (mN M (1, M.2.2.2.1, M.2.2.2.2.1, M.2.2.2.2.2)), rfl, rfl, hX.P ht9 hW9⟩, hX.2.2.2.F ht9⟩) hX.2.2.2.2.2 dX6_refines_41
set_option maxHeartbeats 4000000 in
set_option maxRecDepth 100000 in
theorem o_X6_refines_2 (l : Launch) (dC : Nat → ClassId) (dI : Nat → Nat → Nat) (am : Nat → Nat) (M : MS) (j : Nat) (x9 : Int32) (hj : j < 4) (hb9 : x9 < 0 ∨ nI 4 ≤ x9) (hI : InvM M) : Met l yX6_refines wsX6_refines ({ frames := 3, cells := 0, slots := 0, locals := 71 } : Room) (va_Pc [.ref (am 0), .int (nI j), .int x9] (PM dC dI am M)) (va_Qi (fun r M' => M' = thM M 1) (PM dC dI am) (AM am)) 0 0 (AM am) := by
  refine Met.ofW (cc := cX6_refines) (maxL := 3) (ret := (some .boolean)) pl_X6 rfl ?_
  intro p e s m args below meth c s₁ B hml hv
  obtain ⟨rfl, hPX⟩ := hv
  have hx := B.exec
  have hb := B.bytes
  have hr := B.returns
  have hts := atoms_spec (ws := wsX6_refines) B.pre
  have hown : s.vm.findClass RX6 = some m.cls := findClass_of_methodNamed B.named
  have hlocks := B.notSynchronized
  have hX := WM.of hPX
  have hl := lv_entry ([.ref (am 0), .int (nI j), .int x9]) (n := 3) (Nat.le_of_ble_eq_true rfl)
  rw [lg_entry_eq]
  generalize (lg_sl ([.ref (am 0), .int (nI j), .int x9]) ++ List.replicate (3 - (lg_sl ([.ref (am 0), .int (nI j), .int x9])).length) Slot.unset).toArray = ls at hl ⊢
  have hl : lv_has ls 3 [(0, .ref (am 0)), (1, .int (nI j)), (2, .int x9)] := hl
  show W p l e ({ frames := 3, cells := 0, slots := 0, locals := 71 } : Room) s m ([.ref (am 0), .int (nI j), .int x9]).toArray below meth c s.heap [] 0 0 (MQ below (va_Qi (fun r M' => M' = thM M 1) (PM dC dI am) (AM am)) ([.ref (am 0), .int (nI j), .int x9]).toArray s 0 0 (AM am)) (F0 m 0 ls [])
  refine lv_aload_n hx hb dX6_refines_0 rfl (lv_at hl 0 rfl) ?_
  refine lv_iload_n hx hb dX6_refines_1 rfl (lv_at hl 1 rfl) ?_
  refine kx_cr (v := bI false) (va_runS (As := [.int (nI j)]) (rest := [.ref (am 0)]) ⟨hx, hb, hml, hown, hts⟩ (m_X6_isNoOrder l dC dI am M (nI j)) (va_cwS 1 hts gX6_refines_X6_isNoOrder rfl rfl rfl hdX6_isNoOrder_1.2 ⟨Nat.le_of_ble_eq_true rfl, Nat.le_of_ble_eq_true rfl⟩) hX.preS rfl rfl hl.1 rfl (lv_room (Nat.le_of_ble_eq_true rfl)) dX6_refines_2 ⟨Nat.le_of_ble_eq_true rfl, Nat.le_of_ble_eq_true rfl⟩) (fun _ h => h.trans (isNo_ok (by omega) (by omega))) ?_
  refine kb_if_ne (tgt := 15) hx hb dX6_refines_5 (by decide) (fun k_1 => absurd k_1 (by decide)) (fun k_1 => ?_)
  refine lv_iload_n hx hb dX6_refines_8 rfl (lv_at hl 2 rfl) ?_
  refine kx_cr (v := bI true) (va_runS (As := [.int x9]) (rest := [.ref (am 0)]) ⟨hx, hb, hml, hown, hts⟩ (m_X6_isNoOrder l dC dI am M x9) (va_cwS 1 hts gX6_refines_X6_isNoOrder rfl rfl rfl hdX6_isNoOrder_1.2 ⟨Nat.le_of_ble_eq_true rfl, Nat.le_of_ble_eq_true rfl⟩) hX.preS rfl rfl hl.1 rfl (lv_room (Nat.le_of_ble_eq_true rfl)) dX6_refines_9 ⟨Nat.le_of_ble_eq_true rfl, Nat.le_of_ble_eq_true rfl⟩) (fun _ h => h.trans (isNo_bad (isNo_o hb9))) ?_
  refine kb_if_eq (tgt := 19) hx hb dX6_refines_12 (by decide) (fun k_2 => absurd k_2 (by decide)) (fun k_2 => ?_)
  refine lv_iconst (v := nI 1) hx hb dX6_refines_15 (by decide) ?_
  refine lv_goto (tgt := 20) hx hb dX6_refines_16 (by decide) ?_
  refine lv_iconst (v := nI 1) hx hb dX6_refines_20 (by decide) ?_
  refine km_ci (va_runV (As := [.int (nI 1), .int (nI 1)]) (rest := []) ⟨hx, hb, hml, hown, hts⟩ (m_X6_start l dC dI am M true 1 (by omega)) (cwV 2 hts gX6_refines_X6_start rfl rfl rfl hdX6_start_2 ⟨Nat.le_of_ble_eq_true rfl, Nat.le_of_ble_eq_true rfl⟩) (hX.preObj) rfl rfl hl.1 rfl (lv_room (Nat.le_of_ble_eq_true rfl)) dX6_refines_21 ⟨Nat.le_of_ble_eq_true rfl, Nat.le_of_ble_eq_true rfl⟩) hX (fun _ h => h) (fun r_ S_ H locs hw hX => ?_)
  obtain ⟨rfl, rfl⟩ := hw
  refine kb_if_ne (tgt := 40) hx hb dX6_refines_24 (by decide) (fun k_3 => ?_) (fun k_3 => absurd k_3 (by decide))
  refine lv_iconst (v := nI 0) hx hb dX6_refines_40 (by decide) ?_
  exact W.zret (v := bI false) hx hb hr (bI_narrow _) (fun t9 ht9 hW9 => ⟨⟨_, (mN M (1, M.2.2.2.1, M.2.2.2.2.1, M.2.2.2.2.2)), rfl, rfl, hX.P ht9 hW9⟩, hX.2.2.2.F ht9⟩) hX.2.2.2.2.2 dX6_refines_41
set_option maxHeartbeats 4000000 in
set_option maxRecDepth 100000 in
theorem o_X6_areSame_1 (l : Launch) (dC : Nat → ClassId) (dI : Nat → Nat → Nat) (am : Nat → Nat) (M : MS) (x9 : Int32) (y1 : Int32) (hb9 : x9 < 0 ∨ nI 4 ≤ x9) (hI : InvM M) : Met l yX6_areSame wsX6_areSame ({ frames := 2, cells := 0, slots := 0, locals := 47 } : Room) (va_Pc [.ref (am 0), .int x9, .int y1] (PM dC dI am M)) (va_Qi (fun r M' => M' = thM M 1) (PM dC dI am) (AM am)) 0 0 (AM am) := by
  refine Met.ofW (cc := cX6_areSame) (maxL := 5) (ret := (some .boolean)) pl_X6 rfl ?_
  intro p e s m args below meth c s₁ B hml hv
  obtain ⟨rfl, hPX⟩ := hv
  have hx := B.exec
  have hb := B.bytes
  have hr := B.returns
  have hts := atoms_spec (ws := wsX6_areSame) B.pre
  have hown : s.vm.findClass RX6 = some m.cls := findClass_of_methodNamed B.named
  have hlocks := B.notSynchronized
  have hX := WM.of hPX
  have hl := lv_entry ([.ref (am 0), .int x9, .int y1]) (n := 5) (Nat.le_of_ble_eq_true rfl)
  rw [lg_entry_eq]
  generalize (lg_sl ([.ref (am 0), .int x9, .int y1]) ++ List.replicate (5 - (lg_sl ([.ref (am 0), .int x9, .int y1])).length) Slot.unset).toArray = ls at hl ⊢
  have hl : lv_has ls 5 [(0, .ref (am 0)), (1, .int x9), (2, .int y1)] := hl
  show W p l e ({ frames := 2, cells := 0, slots := 0, locals := 47 } : Room) s m ([.ref (am 0), .int x9, .int y1]).toArray below meth c s.heap [] 0 0 (MQ below (va_Qi (fun r M' => M' = thM M 1) (PM dC dI am) (AM am)) ([.ref (am 0), .int x9, .int y1]).toArray s 0 0 (AM am)) (F0 m 0 ls [])
  refine lv_aload_n hx hb dX6_areSame_0 rfl (lv_at hl 0 rfl) ?_
  refine lv_iload_n hx hb dX6_areSame_1 rfl (lv_at hl 1 rfl) ?_
  refine kx_cr (v := bI true) (va_runS (As := [.int x9]) (rest := [.ref (am 0)]) ⟨hx, hb, hml, hown, hts⟩ (m_X6_isNoOrder l dC dI am M x9) (va_cwS 1 hts gX6_areSame_X6_isNoOrder rfl rfl rfl hdX6_isNoOrder_1.2 ⟨Nat.le_of_ble_eq_true rfl, Nat.le_of_ble_eq_true rfl⟩) hX.preS rfl rfl hl.1 rfl (lv_room (Nat.le_of_ble_eq_true rfl)) dX6_areSame_2 ⟨Nat.le_of_ble_eq_true rfl, Nat.le_of_ble_eq_true rfl⟩) (fun _ h => h.trans (isNo_bad (isNo_o hb9))) ?_
  refine kb_if_ne (tgt := 15) hx hb dX6_areSame_5 (by decide) (fun k_1 => ?_) (fun k_1 => absurd k_1 (by decide))
  refine lv_iconst (v := nI 1) hx hb dX6_areSame_15 (by decide) ?_
  refine lv_goto (tgt := 20) hx hb dX6_areSame_16 (by decide) ?_
  refine lv_iconst (v := nI 1) hx hb dX6_areSame_20 (by decide) ?_
  refine km_ci (va_runV (As := [.int (nI 1), .int (nI 1)]) (rest := []) ⟨hx, hb, hml, hown, hts⟩ (m_X6_start l dC dI am M true 1 (by omega)) (cwV 2 hts gX6_areSame_X6_start rfl rfl rfl hdX6_start_2 ⟨Nat.le_of_ble_eq_true rfl, Nat.le_of_ble_eq_true rfl⟩) (hX.preObj) rfl rfl hl.1 rfl (lv_room (Nat.le_of_ble_eq_true rfl)) dX6_areSame_21 ⟨Nat.le_of_ble_eq_true rfl, Nat.le_of_ble_eq_true rfl⟩) hX (fun _ h => h) (fun r_ S_ H locs hw hX => ?_)
  obtain ⟨rfl, rfl⟩ := hw
  refine kb_if_eq (tgt := 29) hx hb dX6_areSame_24 (by decide) (fun k_2 => absurd k_2 (by decide)) (fun k_2 => ?_)
  refine lv_iconst (v := nI 0) hx hb dX6_areSame_27 (by decide) ?_
  exact W.zret (v := bI false) hx hb hr (bI_narrow _) (fun t9 ht9 hW9 => ⟨⟨_, (mN M (1, M.2.2.2.1, M.2.2.2.2.1, M.2.2.2.2.2)), rfl, rfl, hX.P ht9 hW9⟩, hX.2.2.2.F ht9⟩) hX.2.2.2.2.2 dX6_areSame_28
set_option maxHeartbeats 4000000 in
set_option maxRecDepth 100000 in
theorem o_X6_areSame_2 (l : Launch) (dC : Nat → ClassId) (dI : Nat → Nat → Nat) (am : Nat → Nat) (M : MS) (j : Nat) (x9 : Int32) (hj : j < 4) (hb9 : x9 < 0 ∨ nI 4 ≤ x9) (hI : InvM M) : Met l yX6_areSame wsX6_areSame ({ frames := 2, cells := 0, slots := 0, locals := 47 } : Room) (va_Pc [.ref (am 0), .int (nI j), .int x9] (PM dC dI am M)) (va_Qi (fun r M' => M' = thM M 1) (PM dC dI am) (AM am)) 0 0 (AM am) := by
  refine Met.ofW (cc := cX6_areSame) (maxL := 5) (ret := (some .boolean)) pl_X6 rfl ?_
  intro p e s m args below meth c s₁ B hml hv
  obtain ⟨rfl, hPX⟩ := hv
  have hx := B.exec
  have hb := B.bytes
  have hr := B.returns
  have hts := atoms_spec (ws := wsX6_areSame) B.pre
  have hown : s.vm.findClass RX6 = some m.cls := findClass_of_methodNamed B.named
  have hlocks := B.notSynchronized
  have hX := WM.of hPX
  have hl := lv_entry ([.ref (am 0), .int (nI j), .int x9]) (n := 5) (Nat.le_of_ble_eq_true rfl)
  rw [lg_entry_eq]
  generalize (lg_sl ([.ref (am 0), .int (nI j), .int x9]) ++ List.replicate (5 - (lg_sl ([.ref (am 0), .int (nI j), .int x9])).length) Slot.unset).toArray = ls at hl ⊢
  have hl : lv_has ls 5 [(0, .ref (am 0)), (1, .int (nI j)), (2, .int x9)] := hl
  show W p l e ({ frames := 2, cells := 0, slots := 0, locals := 47 } : Room) s m ([.ref (am 0), .int (nI j), .int x9]).toArray below meth c s.heap [] 0 0 (MQ below (va_Qi (fun r M' => M' = thM M 1) (PM dC dI am) (AM am)) ([.ref (am 0), .int (nI j), .int x9]).toArray s 0 0 (AM am)) (F0 m 0 ls [])
  refine lv_aload_n hx hb dX6_areSame_0 rfl (lv_at hl 0 rfl) ?_
  refine lv_iload_n hx hb dX6_areSame_1 rfl (lv_at hl 1 rfl) ?_
  refine kx_cr (v := bI false) (va_runS (As := [.int (nI j)]) (rest := [.ref (am 0)]) ⟨hx, hb, hml, hown, hts⟩ (m_X6_isNoOrder l dC dI am M (nI j)) (va_cwS 1 hts gX6_areSame_X6_isNoOrder rfl rfl rfl hdX6_isNoOrder_1.2 ⟨Nat.le_of_ble_eq_true rfl, Nat.le_of_ble_eq_true rfl⟩) hX.preS rfl rfl hl.1 rfl (lv_room (Nat.le_of_ble_eq_true rfl)) dX6_areSame_2 ⟨Nat.le_of_ble_eq_true rfl, Nat.le_of_ble_eq_true rfl⟩) (fun _ h => h.trans (isNo_ok (by omega) (by omega))) ?_
  refine kb_if_ne (tgt := 15) hx hb dX6_areSame_5 (by decide) (fun k_1 => absurd k_1 (by decide)) (fun k_1 => ?_)
  refine lv_iload_n hx hb dX6_areSame_8 rfl (lv_at hl 2 rfl) ?_
  refine kx_cr (v := bI true) (va_runS (As := [.int x9]) (rest := [.ref (am 0)]) ⟨hx, hb, hml, hown, hts⟩ (m_X6_isNoOrder l dC dI am M x9) (va_cwS 1 hts gX6_areSame_X6_isNoOrder rfl rfl rfl hdX6_isNoOrder_1.2 ⟨Nat.le_of_ble_eq_true rfl, Nat.le_of_ble_eq_true rfl⟩) hX.preS rfl rfl hl.1 rfl (lv_room (Nat.le_of_ble_eq_true rfl)) dX6_areSame_9 ⟨Nat.le_of_ble_eq_true rfl, Nat.le_of_ble_eq_true rfl⟩) (fun _ h => h.trans (isNo_bad (isNo_o hb9))) ?_
  refine kb_if_eq (tgt := 19) hx hb dX6_areSame_12 (by decide) (fun k_2 => absurd k_2 (by decide)) (fun k_2 => ?_)
  refine lv_iconst (v := nI 1) hx hb dX6_areSame_15 (by decide) ?_
  refine lv_goto (tgt := 20) hx hb dX6_areSame_16 (by decide) ?_
  refine lv_iconst (v := nI 1) hx hb dX6_areSame_20 (by decide) ?_
  refine km_ci (va_runV (As := [.int (nI 1), .int (nI 1)]) (rest := []) ⟨hx, hb, hml, hown, hts⟩ (m_X6_start l dC dI am M true 1 (by omega)) (cwV 2 hts gX6_areSame_X6_start rfl rfl rfl hdX6_start_2 ⟨Nat.le_of_ble_eq_true rfl, Nat.le_of_ble_eq_true rfl⟩) (hX.preObj) rfl rfl hl.1 rfl (lv_room (Nat.le_of_ble_eq_true rfl)) dX6_areSame_21 ⟨Nat.le_of_ble_eq_true rfl, Nat.le_of_ble_eq_true rfl⟩) hX (fun _ h => h) (fun r_ S_ H locs hw hX => ?_)
  obtain ⟨rfl, rfl⟩ := hw
  refine kb_if_eq (tgt := 29) hx hb dX6_areSame_24 (by decide) (fun k_3 => absurd k_3 (by decide)) (fun k_3 => ?_)
  refine lv_iconst (v := nI 0) hx hb dX6_areSame_27 (by decide) ?_
  exact W.zret (v := bI false) hx hb hr (bI_narrow _) (fun t9 ht9 hW9 => ⟨⟨_, (mN M (1, M.2.2.2.1, M.2.2.2.2.1, M.2.2.2.2.2)), rfl, rfl, hX.P ht9 hW9⟩, hX.2.2.2.F ht9⟩) hX.2.2.2.2.2 dX6_areSame_28
set_option maxHeartbeats 4000000 in
set_option maxRecDepth 100000 in
theorem o_X6_apart_1 (l : Launch) (dC : Nat → ClassId) (dI : Nat → Nat → Nat) (am : Nat → Nat) (M : MS) (x9 : Int32) (y1 : Int32) (hb9 : x9 < 0 ∨ nI 4 ≤ x9) (hI : InvM M) : Met l yX6_apart wsX6_apart ({ frames := 4, cells := 0, slots := 0, locals := 98 } : Room) (va_Pc [.ref (am 0), .int x9, .int y1] (PM dC dI am M)) (va_Qi (fun r M' => M' = thM M 1) (PM dC dI am) (AM am)) 0 0 (AM am) := by
  refine Met.ofW (cc := cX6_apart) (maxL := 3) (ret := (some .int)) pl_X6 rfl ?_
  intro p e s m args below meth c s₁ B hml hv
  obtain ⟨rfl, hPX⟩ := hv
  have hx := B.exec
  have hb := B.bytes
  have hr := B.returns
  have hts := atoms_spec (ws := wsX6_apart) B.pre
  have hown : s.vm.findClass RX6 = some m.cls := findClass_of_methodNamed B.named
  have hlocks := B.notSynchronized
  have hX := WM.of hPX
  have hl := lv_entry ([.ref (am 0), .int x9, .int y1]) (n := 3) (Nat.le_of_ble_eq_true rfl)
  rw [lg_entry_eq]
  generalize (lg_sl ([.ref (am 0), .int x9, .int y1]) ++ List.replicate (3 - (lg_sl ([.ref (am 0), .int x9, .int y1])).length) Slot.unset).toArray = ls at hl ⊢
  have hl : lv_has ls 3 [(0, .ref (am 0)), (1, .int x9), (2, .int y1)] := hl
  show W p l e ({ frames := 4, cells := 0, slots := 0, locals := 98 } : Room) s m ([.ref (am 0), .int x9, .int y1]).toArray below meth c s.heap [] 0 0 (MQ below (va_Qi (fun r M' => M' = thM M 1) (PM dC dI am) (AM am)) ([.ref (am 0), .int x9, .int y1]).toArray s 0 0 (AM am)) (F0 m 0 ls [])
  refine lv_aload_n hx hb dX6_apart_0 rfl (lv_at hl 0 rfl) ?_
  refine lv_iload_n hx hb dX6_apart_1 rfl (lv_at hl 1 rfl) ?_
  refine kx_cr (v := bI true) (va_runS (As := [.int x9]) (rest := [.ref (am 0)]) ⟨hx, hb, hml, hown, hts⟩ (m_X6_isNoOrder l dC dI am M x9) (va_cwS 1 hts gX6_apart_X6_isNoOrder rfl rfl rfl hdX6_isNoOrder_1.2 ⟨Nat.le_of_ble_eq_true rfl, Nat.le_of_ble_eq_true rfl⟩) hX.preS rfl rfl hl.1 rfl (lv_room (Nat.le_of_ble_eq_true rfl)) dX6_apart_2 ⟨Nat.le_of_ble_eq_true rfl, Nat.le_of_ble_eq_true rfl⟩) (fun _ h => h.trans (isNo_bad (isNo_o hb9))) ?_
  refine kb_if_ne (tgt := 15) hx hb dX6_apart_5 (by decide) (fun k_1 => ?_) (fun k_1 => absurd k_1 (by decide))
  refine lv_iconst (v := nI 1) hx hb dX6_apart_15 (by decide) ?_
  refine lv_goto (tgt := 20) hx hb dX6_apart_16 (by decide) ?_
  refine lv_iconst (v := nI 1) hx hb dX6_apart_20 (by decide) ?_
  refine km_ci (va_runV (As := [.int (nI 1), .int (nI 1)]) (rest := []) ⟨hx, hb, hml, hown, hts⟩ (m_X6_start l dC dI am M true 1 (by omega)) (cwV 2 hts gX6_apart_X6_start rfl rfl rfl hdX6_start_2 ⟨Nat.le_of_ble_eq_true rfl, Nat.le_of_ble_eq_true rfl⟩) (hX.preObj) rfl rfl hl.1 rfl (lv_room (Nat.le_of_ble_eq_true rfl)) dX6_apart_21 ⟨Nat.le_of_ble_eq_true rfl, Nat.le_of_ble_eq_true rfl⟩) hX (fun _ h => h) (fun r_ S_ H locs hw hX => ?_)
  obtain ⟨rfl, rfl⟩ := hw
  refine kb_if_eq (tgt := 31) hx hb dX6_apart_24 (by decide) (fun k_2 => absurd k_2 (by decide)) (fun k_2 => ?_)
  refine lv_iconst (v := nI 0) hx hb dX6_apart_27 (by decide) ?_
  refine lv_goto (tgt := 37) hx hb dX6_apart_28 (by decide) ?_
  exact W.iret (v := nI 0) hx hb hr (fun t9 ht9 hW9 => ⟨⟨_, (mN M (1, M.2.2.2.1, M.2.2.2.2.1, M.2.2.2.2.2)), rfl, rfl, hX.P ht9 hW9⟩, hX.2.2.2.F ht9⟩) hX.2.2.2.2.2 dX6_apart_37
set_option maxHeartbeats 4000000 in
set_option maxRecDepth 100000 in
theorem o_X6_apart_2 (l : Launch) (dC : Nat → ClassId) (dI : Nat → Nat → Nat) (am : Nat → Nat) (M : MS) (j : Nat) (x9 : Int32) (hj : j < 4) (hb9 : x9 < 0 ∨ nI 4 ≤ x9) (hI : InvM M) : Met l yX6_apart wsX6_apart ({ frames := 4, cells := 0, slots := 0, locals := 98 } : Room) (va_Pc [.ref (am 0), .int (nI j), .int x9] (PM dC dI am M)) (va_Qi (fun r M' => M' = thM M 1) (PM dC dI am) (AM am)) 0 0 (AM am) := by
  refine Met.ofW (cc := cX6_apart) (maxL := 3) (ret := (some .int)) pl_X6 rfl ?_
  intro p e s m args below meth c s₁ B hml hv
  obtain ⟨rfl, hPX⟩ := hv
  have hx := B.exec
  have hb := B.bytes
  have hr := B.returns
  have hts := atoms_spec (ws := wsX6_apart) B.pre
  have hown : s.vm.findClass RX6 = some m.cls := findClass_of_methodNamed B.named
  have hlocks := B.notSynchronized
  have hX := WM.of hPX
  have hl := lv_entry ([.ref (am 0), .int (nI j), .int x9]) (n := 3) (Nat.le_of_ble_eq_true rfl)
  rw [lg_entry_eq]
  generalize (lg_sl ([.ref (am 0), .int (nI j), .int x9]) ++ List.replicate (3 - (lg_sl ([.ref (am 0), .int (nI j), .int x9])).length) Slot.unset).toArray = ls at hl ⊢
  have hl : lv_has ls 3 [(0, .ref (am 0)), (1, .int (nI j)), (2, .int x9)] := hl
  show W p l e ({ frames := 4, cells := 0, slots := 0, locals := 98 } : Room) s m ([.ref (am 0), .int (nI j), .int x9]).toArray below meth c s.heap [] 0 0 (MQ below (va_Qi (fun r M' => M' = thM M 1) (PM dC dI am) (AM am)) ([.ref (am 0), .int (nI j), .int x9]).toArray s 0 0 (AM am)) (F0 m 0 ls [])
  refine lv_aload_n hx hb dX6_apart_0 rfl (lv_at hl 0 rfl) ?_
  refine lv_iload_n hx hb dX6_apart_1 rfl (lv_at hl 1 rfl) ?_
  refine kx_cr (v := bI false) (va_runS (As := [.int (nI j)]) (rest := [.ref (am 0)]) ⟨hx, hb, hml, hown, hts⟩ (m_X6_isNoOrder l dC dI am M (nI j)) (va_cwS 1 hts gX6_apart_X6_isNoOrder rfl rfl rfl hdX6_isNoOrder_1.2 ⟨Nat.le_of_ble_eq_true rfl, Nat.le_of_ble_eq_true rfl⟩) hX.preS rfl rfl hl.1 rfl (lv_room (Nat.le_of_ble_eq_true rfl)) dX6_apart_2 ⟨Nat.le_of_ble_eq_true rfl, Nat.le_of_ble_eq_true rfl⟩) (fun _ h => h.trans (isNo_ok (by omega) (by omega))) ?_
  refine kb_if_ne (tgt := 15) hx hb dX6_apart_5 (by decide) (fun k_1 => absurd k_1 (by decide)) (fun k_1 => ?_)
  refine lv_iload_n hx hb dX6_apart_8 rfl (lv_at hl 2 rfl) ?_
  refine kx_cr (v := bI true) (va_runS (As := [.int x9]) (rest := [.ref (am 0)]) ⟨hx, hb, hml, hown, hts⟩ (m_X6_isNoOrder l dC dI am M x9) (va_cwS 1 hts gX6_apart_X6_isNoOrder rfl rfl rfl hdX6_isNoOrder_1.2 ⟨Nat.le_of_ble_eq_true rfl, Nat.le_of_ble_eq_true rfl⟩) hX.preS rfl rfl hl.1 rfl (lv_room (Nat.le_of_ble_eq_true rfl)) dX6_apart_9 ⟨Nat.le_of_ble_eq_true rfl, Nat.le_of_ble_eq_true rfl⟩) (fun _ h => h.trans (isNo_bad (isNo_o hb9))) ?_
  refine kb_if_eq (tgt := 19) hx hb dX6_apart_12 (by decide) (fun k_2 => absurd k_2 (by decide)) (fun k_2 => ?_)
  refine lv_iconst (v := nI 1) hx hb dX6_apart_15 (by decide) ?_
  refine lv_goto (tgt := 20) hx hb dX6_apart_16 (by decide) ?_
  refine lv_iconst (v := nI 1) hx hb dX6_apart_20 (by decide) ?_
  refine km_ci (va_runV (As := [.int (nI 1), .int (nI 1)]) (rest := []) ⟨hx, hb, hml, hown, hts⟩ (m_X6_start l dC dI am M true 1 (by omega)) (cwV 2 hts gX6_apart_X6_start rfl rfl rfl hdX6_start_2 ⟨Nat.le_of_ble_eq_true rfl, Nat.le_of_ble_eq_true rfl⟩) (hX.preObj) rfl rfl hl.1 rfl (lv_room (Nat.le_of_ble_eq_true rfl)) dX6_apart_21 ⟨Nat.le_of_ble_eq_true rfl, Nat.le_of_ble_eq_true rfl⟩) hX (fun _ h => h) (fun r_ S_ H locs hw hX => ?_)
  obtain ⟨rfl, rfl⟩ := hw
  refine kb_if_eq (tgt := 31) hx hb dX6_apart_24 (by decide) (fun k_3 => absurd k_3 (by decide)) (fun k_3 => ?_)
  refine lv_iconst (v := nI 0) hx hb dX6_apart_27 (by decide) ?_
  refine lv_goto (tgt := 37) hx hb dX6_apart_28 (by decide) ?_
  exact W.iret (v := nI 0) hx hb hr (fun t9 ht9 hW9 => ⟨⟨_, (mN M (1, M.2.2.2.1, M.2.2.2.2.1, M.2.2.2.2.2)), rfl, rfl, hX.P ht9 hW9⟩, hX.2.2.2.F ht9⟩) hX.2.2.2.2.2 dX6_apart_37
set_option maxHeartbeats 4000000 in
set_option maxRecDepth 100000 in
theorem o_X6_classes_1 (l : Launch) (dC : Nat → ClassId) (dI : Nat → Nat → Nat) (am : Nat → Nat) (M : MS) (x9 : Int32) (hb9 : x9 < 0 ∨ nI 4 ≤ x9) (hI : InvM M) : Met l yX6_classes wsX6_classes ({ frames := 4, cells := 0, slots := 0, locals := 93 } : Room) (va_Pc [.ref (am 0), .int x9] (PM dC dI am M)) (va_Qi (fun r M' => M' = thM M 1) (PM dC dI am) (AM am)) 0 0 (AM am) := by
  refine Met.ofW (cc := cX6_classes) (maxL := 2) (ret := (some .int)) pl_X6 rfl ?_
  intro p e s m args below meth c s₁ B hml hv
  obtain ⟨rfl, hPX⟩ := hv
  have hx := B.exec
  have hb := B.bytes
  have hr := B.returns
  have hts := atoms_spec (ws := wsX6_classes) B.pre
  have hown : s.vm.findClass RX6 = some m.cls := findClass_of_methodNamed B.named
  have hlocks := B.notSynchronized
  have hX := WM.of hPX
  have hl := lv_entry ([.ref (am 0), .int x9]) (n := 2) (Nat.le_of_ble_eq_true rfl)
  rw [lg_entry_eq]
  generalize (lg_sl ([.ref (am 0), .int x9]) ++ List.replicate (2 - (lg_sl ([.ref (am 0), .int x9])).length) Slot.unset).toArray = ls at hl ⊢
  have hl : lv_has ls 2 [(0, .ref (am 0)), (1, .int x9)] := hl
  show W p l e ({ frames := 4, cells := 0, slots := 0, locals := 93 } : Room) s m ([.ref (am 0), .int x9]).toArray below meth c s.heap [] 0 0 (MQ below (va_Qi (fun r M' => M' = thM M 1) (PM dC dI am) (AM am)) ([.ref (am 0), .int x9]).toArray s 0 0 (AM am)) (F0 m 0 ls [])
  refine lv_aload_n hx hb dX6_classes_0 rfl (lv_at hl 0 rfl) ?_
  refine lv_iload_n hx hb dX6_classes_1 rfl (lv_at hl 1 rfl) ?_
  refine kx_cr (v := bI true) (va_runS (As := [.int x9]) (rest := [.ref (am 0)]) ⟨hx, hb, hml, hown, hts⟩ (m_X6_isNoOrder l dC dI am M x9) (va_cwS 1 hts gX6_classes_X6_isNoOrder rfl rfl rfl hdX6_isNoOrder_1.2 ⟨Nat.le_of_ble_eq_true rfl, Nat.le_of_ble_eq_true rfl⟩) hX.preS rfl rfl hl.1 rfl (lv_room (Nat.le_of_ble_eq_true rfl)) dX6_classes_2 ⟨Nat.le_of_ble_eq_true rfl, Nat.le_of_ble_eq_true rfl⟩) (fun _ h => h.trans (isNo_bad (isNo_o hb9))) ?_
  refine lv_iconst (v := nI 1) hx hb dX6_classes_5 (by decide) ?_
  refine km_ci (va_runV (As := [.int (bI true), .int (nI 1)]) (rest := []) ⟨hx, hb, hml, hown, hts⟩ (m_X6_start l dC dI am M true 1 (by omega)) (cwV 2 hts gX6_classes_X6_start rfl rfl rfl hdX6_start_2 ⟨Nat.le_of_ble_eq_true rfl, Nat.le_of_ble_eq_true rfl⟩) (hX.preObj) rfl rfl hl.1 rfl (lv_room (Nat.le_of_ble_eq_true rfl)) dX6_classes_6 ⟨Nat.le_of_ble_eq_true rfl, Nat.le_of_ble_eq_true rfl⟩) hX (fun _ h => h) (fun r_ S_ H locs hw hX => ?_)
  obtain ⟨rfl, rfl⟩ := hw
  refine kb_if_eq (tgt := 16) hx hb dX6_classes_9 (by decide) (fun k_1 => absurd k_1 (by decide)) (fun k_1 => ?_)
  refine lv_iconst (v := nI 0) hx hb dX6_classes_12 (by decide) ?_
  refine lv_goto (tgt := 21) hx hb dX6_classes_13 (by decide) ?_
  exact W.iret (v := nI 0) hx hb hr (fun t9 ht9 hW9 => ⟨⟨_, (mN M (1, M.2.2.2.1, M.2.2.2.2.1, M.2.2.2.2.2)), rfl, rfl, hX.P ht9 hW9⟩, hX.2.2.2.F ht9⟩) hX.2.2.2.2.2 dX6_classes_21
set_option maxHeartbeats 4000000 in
set_option maxRecDepth 100000 in
theorem o_X6_rank_1 (l : Launch) (dC : Nat → ClassId) (dI : Nat → Nat → Nat) (am : Nat → Nat) (M : MS) (x9 : Int32) (y1 : Int32) (hb9 : x9 < 0 ∨ nI 4 ≤ x9) (hI : InvM M) : Met l yX6_rank wsX6_rank ({ frames := 4, cells := 0, slots := 0, locals := 94 } : Room) (va_Pc [.ref (am 0), .int x9, .int y1] (PM dC dI am M)) (va_Qi (fun r M' => M' = thM M 1) (PM dC dI am) (AM am)) 0 0 (AM am) := by
  refine Met.ofW (cc := cX6_rank) (maxL := 3) (ret := (some .int)) pl_X6 rfl ?_
  intro p e s m args below meth c s₁ B hml hv
  obtain ⟨rfl, hPX⟩ := hv
  have hx := B.exec
  have hb := B.bytes
  have hr := B.returns
  have hts := atoms_spec (ws := wsX6_rank) B.pre
  have hown : s.vm.findClass RX6 = some m.cls := findClass_of_methodNamed B.named
  have hlocks := B.notSynchronized
  have hX := WM.of hPX
  have hl := lv_entry ([.ref (am 0), .int x9, .int y1]) (n := 3) (Nat.le_of_ble_eq_true rfl)
  rw [lg_entry_eq]
  generalize (lg_sl ([.ref (am 0), .int x9, .int y1]) ++ List.replicate (3 - (lg_sl ([.ref (am 0), .int x9, .int y1])).length) Slot.unset).toArray = ls at hl ⊢
  have hl : lv_has ls 3 [(0, .ref (am 0)), (1, .int x9), (2, .int y1)] := hl
  show W p l e ({ frames := 4, cells := 0, slots := 0, locals := 94 } : Room) s m ([.ref (am 0), .int x9, .int y1]).toArray below meth c s.heap [] 0 0 (MQ below (va_Qi (fun r M' => M' = thM M 1) (PM dC dI am) (AM am)) ([.ref (am 0), .int x9, .int y1]).toArray s 0 0 (AM am)) (F0 m 0 ls [])
  refine lv_aload_n hx hb dX6_rank_0 rfl (lv_at hl 0 rfl) ?_
  refine lv_iload_n hx hb dX6_rank_1 rfl (lv_at hl 1 rfl) ?_
  refine kx_cr (v := bI true) (va_runS (As := [.int x9]) (rest := [.ref (am 0)]) ⟨hx, hb, hml, hown, hts⟩ (m_X6_isNoOrder l dC dI am M x9) (va_cwS 1 hts gX6_rank_X6_isNoOrder rfl rfl rfl hdX6_isNoOrder_1.2 ⟨Nat.le_of_ble_eq_true rfl, Nat.le_of_ble_eq_true rfl⟩) hX.preS rfl rfl hl.1 rfl (lv_room (Nat.le_of_ble_eq_true rfl)) dX6_rank_2 ⟨Nat.le_of_ble_eq_true rfl, Nat.le_of_ble_eq_true rfl⟩) (fun _ h => h.trans (isNo_bad (isNo_o hb9))) ?_
  refine lv_iconst (v := nI 1) hx hb dX6_rank_5 (by decide) ?_
  refine km_ci (va_runV (As := [.int (bI true), .int (nI 1)]) (rest := []) ⟨hx, hb, hml, hown, hts⟩ (m_X6_start l dC dI am M true 1 (by omega)) (cwV 2 hts gX6_rank_X6_start rfl rfl rfl hdX6_start_2 ⟨Nat.le_of_ble_eq_true rfl, Nat.le_of_ble_eq_true rfl⟩) (hX.preObj) rfl rfl hl.1 rfl (lv_room (Nat.le_of_ble_eq_true rfl)) dX6_rank_6 ⟨Nat.le_of_ble_eq_true rfl, Nat.le_of_ble_eq_true rfl⟩) hX (fun _ h => h) (fun r_ S_ H locs hw hX => ?_)
  obtain ⟨rfl, rfl⟩ := hw
  refine kb_if_ne (tgt := 24) hx hb dX6_rank_9 (by decide) (fun k_1 => ?_) (fun k_1 => absurd k_1 (by decide))
  refine lv_iconst (v := nI 0) hx hb dX6_rank_24 (by decide) ?_
  refine lv_goto (tgt := 34) hx hb dX6_rank_25 (by decide) ?_
  exact W.iret (v := nI 0) hx hb hr (fun t9 ht9 hW9 => ⟨⟨_, (mN M (1, M.2.2.2.1, M.2.2.2.2.1, M.2.2.2.2.2)), rfl, rfl, hX.P ht9 hW9⟩, hX.2.2.2.F ht9⟩) hX.2.2.2.2.2 dX6_rank_34
set_option maxHeartbeats 4000000 in
set_option maxRecDepth 100000 in
theorem o_X6_rank_2 (l : Launch) (dC : Nat → ClassId) (dI : Nat → Nat → Nat) (am : Nat → Nat) (M : MS) (j : Nat) (x9 : Int32) (hj : j < 4) (hb9 : x9 < 0 ∨ nI 15 < x9) (hI : InvM M) : Met l yX6_rank wsX6_rank ({ frames := 4, cells := 0, slots := 0, locals := 94 } : Room) (va_Pc [.ref (am 0), .int (nI j), .int x9] (PM dC dI am M)) (va_Qi (fun r M' => M' = thM M 2) (PM dC dI am) (AM am)) 0 0 (AM am) := by
  refine Met.ofW (cc := cX6_rank) (maxL := 3) (ret := (some .int)) pl_X6 rfl ?_
  intro p e s m args below meth c s₁ B hml hv
  obtain ⟨rfl, hPX⟩ := hv
  have hx := B.exec
  have hb := B.bytes
  have hr := B.returns
  have hts := atoms_spec (ws := wsX6_rank) B.pre
  have hown : s.vm.findClass RX6 = some m.cls := findClass_of_methodNamed B.named
  have hlocks := B.notSynchronized
  have hX := WM.of hPX
  have hl := lv_entry ([.ref (am 0), .int (nI j), .int x9]) (n := 3) (Nat.le_of_ble_eq_true rfl)
  rw [lg_entry_eq]
  generalize (lg_sl ([.ref (am 0), .int (nI j), .int x9]) ++ List.replicate (3 - (lg_sl ([.ref (am 0), .int (nI j), .int x9])).length) Slot.unset).toArray = ls at hl ⊢
  have hl : lv_has ls 3 [(0, .ref (am 0)), (1, .int (nI j)), (2, .int x9)] := hl
  show W p l e ({ frames := 4, cells := 0, slots := 0, locals := 94 } : Room) s m ([.ref (am 0), .int (nI j), .int x9]).toArray below meth c s.heap [] 0 0 (MQ below (va_Qi (fun r M' => M' = thM M 2) (PM dC dI am) (AM am)) ([.ref (am 0), .int (nI j), .int x9]).toArray s 0 0 (AM am)) (F0 m 0 ls [])
  refine lv_aload_n hx hb dX6_rank_0 rfl (lv_at hl 0 rfl) ?_
  refine lv_iload_n hx hb dX6_rank_1 rfl (lv_at hl 1 rfl) ?_
  refine kx_cr (v := bI false) (va_runS (As := [.int (nI j)]) (rest := [.ref (am 0)]) ⟨hx, hb, hml, hown, hts⟩ (m_X6_isNoOrder l dC dI am M (nI j)) (va_cwS 1 hts gX6_rank_X6_isNoOrder rfl rfl rfl hdX6_isNoOrder_1.2 ⟨Nat.le_of_ble_eq_true rfl, Nat.le_of_ble_eq_true rfl⟩) hX.preS rfl rfl hl.1 rfl (lv_room (Nat.le_of_ble_eq_true rfl)) dX6_rank_2 ⟨Nat.le_of_ble_eq_true rfl, Nat.le_of_ble_eq_true rfl⟩) (fun _ h => h.trans (isNo_ok (by omega) (by omega))) ?_
  refine lv_iconst (v := nI 1) hx hb dX6_rank_5 (by decide) ?_
  refine km_ci (va_runV (As := [.int (bI false), .int (nI 1)]) (rest := []) ⟨hx, hb, hml, hown, hts⟩ (m_X6_start l dC dI am M false 1 (by omega)) (cwV 2 hts gX6_rank_X6_start rfl rfl rfl hdX6_start_2 ⟨Nat.le_of_ble_eq_true rfl, Nat.le_of_ble_eq_true rfl⟩) (hX.preObj) rfl rfl hl.1 rfl (lv_room (Nat.le_of_ble_eq_true rfl)) dX6_rank_6 ⟨Nat.le_of_ble_eq_true rfl, Nat.le_of_ble_eq_true rfl⟩) hX (fun _ h => h) (fun r_ S_ H locs hw hX => ?_)
  obtain ⟨rfl, rfl⟩ := hw
  refine kb_if_ne (tgt := 24) hx hb dX6_rank_9 (by decide) (fun k_1 => absurd k_1 (by decide)) (fun k_1 => ?_)
  refine lv_aload_n hx hb dX6_rank_12 rfl (lv_at hl 0 rfl) ?_
  refine lv_iload_n hx hb dX6_rank_13 rfl (lv_at hl 2 rfl) ?_
  refine kx_cr (v := bI true) (va_runS (As := [.int x9]) (rest := [.ref (am 0)]) ⟨hx, hb, hml, hown, hts⟩ (m_X6_isNoValue l dC dI am (mN M (0, M.2.2.2.1, M.2.2.2.2.1, M.2.2.2.2.2)) x9) (va_cwS 1 hts gX6_rank_X6_isNoValue rfl rfl rfl hdX6_isNoValue_1.2 ⟨Nat.le_of_ble_eq_true rfl, Nat.le_of_ble_eq_true rfl⟩) hX.preS rfl rfl hl.1 rfl (lv_room (Nat.le_of_ble_eq_true rfl)) dX6_rank_14 ⟨Nat.le_of_ble_eq_true rfl, Nat.le_of_ble_eq_true rfl⟩) (fun _ h => h.trans (isNo_bad hb9)) ?_
  refine lv_iconst (v := nI 2) hx hb dX6_rank_17 (by decide) ?_
  refine km_ci (va_runV (As := [.int (bI true), .int (nI 2)]) (rest := []) ⟨hx, hb, hml, hown, hts⟩ (m_X6_refuse l dC dI am (mN M (0, M.2.2.2.1, M.2.2.2.2.1, M.2.2.2.2.2)) true 2 (by omega) rfl) (cwV 2 hts gX6_rank_X6_refuse rfl rfl rfl hdX6_refuse_2 ⟨Nat.le_of_ble_eq_true rfl, Nat.le_of_ble_eq_true rfl⟩) (hX.preObj) rfl rfl hl.1 rfl (lv_room (Nat.le_of_ble_eq_true rfl)) dX6_rank_18 ⟨Nat.le_of_ble_eq_true rfl, Nat.le_of_ble_eq_true rfl⟩) hX (fun _ h => h) (fun r_ S_ H locs hw hX => ?_)
  obtain ⟨rfl, rfl⟩ := hw
  refine kb_if_eq (tgt := 28) hx hb dX6_rank_21 (by decide) (fun k_2 => absurd k_2 (by decide)) (fun k_2 => ?_)
  refine lv_iconst (v := nI 0) hx hb dX6_rank_24 (by decide) ?_
  refine lv_goto (tgt := 34) hx hb dX6_rank_25 (by decide) ?_
  exact W.iret (v := nI 0) hx hb hr (fun t9 ht9 hW9 => ⟨⟨_, (mN M (2, M.2.2.2.1, M.2.2.2.2.1, M.2.2.2.2.2)), rfl, rfl, hX.P ht9 hW9⟩, hX.2.2.2.F ht9⟩) hX.2.2.2.2.2 dX6_rank_34
set_option maxHeartbeats 4000000 in
set_option maxRecDepth 100000 in
theorem o_X6_keyOf_1 (l : Launch) (dC : Nat → ClassId) (dI : Nat → Nat → Nat) (am : Nat → Nat) (M : MS) (x9 : Int32) (y1 : Int32) (hb9 : x9 < 0 ∨ nI 7 < x9) (hI : InvM M) : Met l yX6_keyOf wsX6_keyOf ({ frames := 2, cells := 0, slots := 0, locals := 44 } : Room) (va_Pc [.ref (am 0), .int x9, .int y1] (PM dC dI am M)) (va_Qi (fun r M' => M' = thM M 1) (PM dC dI am) (AM am)) 0 0 (AM am) := by
  refine Met.ofW (cc := cX6_keyOf) (maxL := 3) (ret := (some .int)) pl_X6 rfl ?_
  intro p e s m args below meth c s₁ B hml hv
  obtain ⟨rfl, hPX⟩ := hv
  have hx := B.exec
  have hb := B.bytes
  have hr := B.returns
  have hts := atoms_spec (ws := wsX6_keyOf) B.pre
  have hown : s.vm.findClass RX6 = some m.cls := findClass_of_methodNamed B.named
  have hlocks := B.notSynchronized
  have hX := WM.of hPX
  have hl := lv_entry ([.ref (am 0), .int x9, .int y1]) (n := 3) (Nat.le_of_ble_eq_true rfl)
  rw [lg_entry_eq]
  generalize (lg_sl ([.ref (am 0), .int x9, .int y1]) ++ List.replicate (3 - (lg_sl ([.ref (am 0), .int x9, .int y1])).length) Slot.unset).toArray = ls at hl ⊢
  have hl : lv_has ls 3 [(0, .ref (am 0)), (1, .int x9), (2, .int y1)] := hl
  show W p l e ({ frames := 2, cells := 0, slots := 0, locals := 44 } : Room) s m ([.ref (am 0), .int x9, .int y1]).toArray below meth c s.heap [] 0 0 (MQ below (va_Qi (fun r M' => M' = thM M 1) (PM dC dI am) (AM am)) ([.ref (am 0), .int x9, .int y1]).toArray s 0 0 (AM am)) (F0 m 0 ls [])
  refine lv_aload_n hx hb dX6_keyOf_0 rfl (lv_at hl 0 rfl) ?_
  refine lv_iload_n hx hb dX6_keyOf_1 rfl (lv_at hl 1 rfl) ?_
  refine lv_bipush (v := nI 7) hx hb dX6_keyOf_2 (by decide) ?_
  refine kx_cr (v := bI true) (va_runS (As := [.int x9, .int (nI 7)]) (rest := [.ref (am 0)]) ⟨hx, hb, hml, hown, hts⟩ (m_X6_isNo l dC dI am M x9 (nI 7)) (va_cwS 2 hts gX6_keyOf_X6_isNo rfl rfl rfl hdX6_isNo_2.2 ⟨Nat.le_of_ble_eq_true rfl, Nat.le_of_ble_eq_true rfl⟩) hX.preS rfl rfl hl.1 rfl (lv_room (Nat.le_of_ble_eq_true rfl)) dX6_keyOf_4 ⟨Nat.le_of_ble_eq_true rfl, Nat.le_of_ble_eq_true rfl⟩) (fun _ h => h.trans (isNo_bad hb9)) ?_
  refine kb_if_ne (tgt := 17) hx hb dX6_keyOf_7 (by decide) (fun k_1 => ?_) (fun k_1 => absurd k_1 (by decide))
  refine lv_iconst (v := nI 1) hx hb dX6_keyOf_17 (by decide) ?_
  refine lv_goto (tgt := 22) hx hb dX6_keyOf_18 (by decide) ?_
  refine lv_iconst (v := nI 1) hx hb dX6_keyOf_22 (by decide) ?_
  refine km_ci (va_runV (As := [.int (nI 1), .int (nI 1)]) (rest := []) ⟨hx, hb, hml, hown, hts⟩ (m_X6_start l dC dI am M true 1 (by omega)) (cwV 2 hts gX6_keyOf_X6_start rfl rfl rfl hdX6_start_2 ⟨Nat.le_of_ble_eq_true rfl, Nat.le_of_ble_eq_true rfl⟩) (hX.preObj) rfl rfl hl.1 rfl (lv_room (Nat.le_of_ble_eq_true rfl)) dX6_keyOf_23 ⟨Nat.le_of_ble_eq_true rfl, Nat.le_of_ble_eq_true rfl⟩) hX (fun _ h => h) (fun r_ S_ H locs hw hX => ?_)
  obtain ⟨rfl, rfl⟩ := hw
  refine kb_if_eq (tgt := 33) hx hb dX6_keyOf_26 (by decide) (fun k_2 => absurd k_2 (by decide)) (fun k_2 => ?_)
  refine lv_iconst (v := nI 0) hx hb dX6_keyOf_29 (by decide) ?_
  refine lv_goto (tgt := 38) hx hb dX6_keyOf_30 (by decide) ?_
  exact W.iret (v := nI 0) hx hb hr (fun t9 ht9 hW9 => ⟨⟨_, (mN M (1, M.2.2.2.1, M.2.2.2.2.1, M.2.2.2.2.2)), rfl, rfl, hX.P ht9 hW9⟩, hX.2.2.2.F ht9⟩) hX.2.2.2.2.2 dX6_keyOf_38
set_option maxHeartbeats 4000000 in
set_option maxRecDepth 100000 in
theorem o_X6_keyOf_2 (l : Launch) (dC : Nat → ClassId) (dI : Nat → Nat → Nat) (am : Nat → Nat) (M : MS) (k : Nat) (x9 : Int32) (hk : k ≤ 7) (hb9 : x9 < 0 ∨ nI 15 < x9) (hI : InvM M) : Met l yX6_keyOf wsX6_keyOf ({ frames := 2, cells := 0, slots := 0, locals := 44 } : Room) (va_Pc [.ref (am 0), .int (nI k), .int x9] (PM dC dI am M)) (va_Qi (fun r M' => M' = thM M 1) (PM dC dI am) (AM am)) 0 0 (AM am) := by
  refine Met.ofW (cc := cX6_keyOf) (maxL := 3) (ret := (some .int)) pl_X6 rfl ?_
  intro p e s m args below meth c s₁ B hml hv
  obtain ⟨rfl, hPX⟩ := hv
  have hx := B.exec
  have hb := B.bytes
  have hr := B.returns
  have hts := atoms_spec (ws := wsX6_keyOf) B.pre
  have hown : s.vm.findClass RX6 = some m.cls := findClass_of_methodNamed B.named
  have hlocks := B.notSynchronized
  have hX := WM.of hPX
  have hl := lv_entry ([.ref (am 0), .int (nI k), .int x9]) (n := 3) (Nat.le_of_ble_eq_true rfl)
  rw [lg_entry_eq]
  generalize (lg_sl ([.ref (am 0), .int (nI k), .int x9]) ++ List.replicate (3 - (lg_sl ([.ref (am 0), .int (nI k), .int x9])).length) Slot.unset).toArray = ls at hl ⊢
  have hl : lv_has ls 3 [(0, .ref (am 0)), (1, .int (nI k)), (2, .int x9)] := hl
  show W p l e ({ frames := 2, cells := 0, slots := 0, locals := 44 } : Room) s m ([.ref (am 0), .int (nI k), .int x9]).toArray below meth c s.heap [] 0 0 (MQ below (va_Qi (fun r M' => M' = thM M 1) (PM dC dI am) (AM am)) ([.ref (am 0), .int (nI k), .int x9]).toArray s 0 0 (AM am)) (F0 m 0 ls [])
  refine lv_aload_n hx hb dX6_keyOf_0 rfl (lv_at hl 0 rfl) ?_
  refine lv_iload_n hx hb dX6_keyOf_1 rfl (lv_at hl 1 rfl) ?_
  refine lv_bipush (v := nI 7) hx hb dX6_keyOf_2 (by decide) ?_
  refine kx_cr (v := bI false) (va_runS (As := [.int (nI k), .int (nI 7)]) (rest := [.ref (am 0)]) ⟨hx, hb, hml, hown, hts⟩ (m_X6_isNo l dC dI am M (nI k) (nI 7)) (va_cwS 2 hts gX6_keyOf_X6_isNo rfl rfl rfl hdX6_isNo_2.2 ⟨Nat.le_of_ble_eq_true rfl, Nat.le_of_ble_eq_true rfl⟩) hX.preS rfl rfl hl.1 rfl (lv_room (Nat.le_of_ble_eq_true rfl)) dX6_keyOf_4 ⟨Nat.le_of_ble_eq_true rfl, Nat.le_of_ble_eq_true rfl⟩) (fun _ h => h.trans (isNo_ok (by omega) (by omega))) ?_
  refine kb_if_ne (tgt := 17) hx hb dX6_keyOf_7 (by decide) (fun k_1 => absurd k_1 (by decide)) (fun k_1 => ?_)
  refine lv_iload_n hx hb dX6_keyOf_10 rfl (lv_at hl 2 rfl) ?_
  refine kx_cr (v := bI true) (va_runS (As := [.int x9]) (rest := [.ref (am 0)]) ⟨hx, hb, hml, hown, hts⟩ (m_X6_isNoValue l dC dI am M x9) (va_cwS 1 hts gX6_keyOf_X6_isNoValue rfl rfl rfl hdX6_isNoValue_1.2 ⟨Nat.le_of_ble_eq_true rfl, Nat.le_of_ble_eq_true rfl⟩) hX.preS rfl rfl hl.1 rfl (lv_room (Nat.le_of_ble_eq_true rfl)) dX6_keyOf_11 ⟨Nat.le_of_ble_eq_true rfl, Nat.le_of_ble_eq_true rfl⟩) (fun _ h => h.trans (isNo_bad hb9)) ?_
  refine kb_if_eq (tgt := 21) hx hb dX6_keyOf_14 (by decide) (fun k_2 => absurd k_2 (by decide)) (fun k_2 => ?_)
  refine lv_iconst (v := nI 1) hx hb dX6_keyOf_17 (by decide) ?_
  refine lv_goto (tgt := 22) hx hb dX6_keyOf_18 (by decide) ?_
  refine lv_iconst (v := nI 1) hx hb dX6_keyOf_22 (by decide) ?_
  refine km_ci (va_runV (As := [.int (nI 1), .int (nI 1)]) (rest := []) ⟨hx, hb, hml, hown, hts⟩ (m_X6_start l dC dI am M true 1 (by omega)) (cwV 2 hts gX6_keyOf_X6_start rfl rfl rfl hdX6_start_2 ⟨Nat.le_of_ble_eq_true rfl, Nat.le_of_ble_eq_true rfl⟩) (hX.preObj) rfl rfl hl.1 rfl (lv_room (Nat.le_of_ble_eq_true rfl)) dX6_keyOf_23 ⟨Nat.le_of_ble_eq_true rfl, Nat.le_of_ble_eq_true rfl⟩) hX (fun _ h => h) (fun r_ S_ H locs hw hX => ?_)
  obtain ⟨rfl, rfl⟩ := hw
  refine kb_if_eq (tgt := 33) hx hb dX6_keyOf_26 (by decide) (fun k_3 => absurd k_3 (by decide)) (fun k_3 => ?_)
  refine lv_iconst (v := nI 0) hx hb dX6_keyOf_29 (by decide) ?_
  refine lv_goto (tgt := 38) hx hb dX6_keyOf_30 (by decide) ?_
  exact W.iret (v := nI 0) hx hb hr (fun t9 ht9 hW9 => ⟨⟨_, (mN M (1, M.2.2.2.1, M.2.2.2.2.1, M.2.2.2.2.2)), rfl, rfl, hX.P ht9 hW9⟩, hX.2.2.2.F ht9⟩) hX.2.2.2.2.2 dX6_keyOf_38
set_option maxHeartbeats 4000000 in
set_option maxRecDepth 100000 in
theorem o_X6_house_1 (l : Launch) (dC : Nat → ClassId) (dI : Nat → Nat → Nat) (am : Nat → Nat) (M : MS) (x9 : Int32) (hb9 : x9 < 0 ∨ nI 4 < x9) (hI : InvM M) : Met l yX6_house wsX6_house ({ frames := 2, cells := 0, slots := 0, locals := 44 } : Room) (va_Pc [.ref (am 0), .int x9] (PM dC dI am M)) (va_Qi (fun r M' => M' = thM M 1) (PM dC dI am) (AM am)) 0 0 (AM am) := by
  refine Met.ofW (cc := cX6_house) (maxL := 2) (ret := (some .int)) pl_X6 rfl ?_
  intro p e s m args below meth c s₁ B hml hv
  obtain ⟨rfl, hPX⟩ := hv
  have hx := B.exec
  have hb := B.bytes
  have hr := B.returns
  have hts := atoms_spec (ws := wsX6_house) B.pre
  have hown : s.vm.findClass RX6 = some m.cls := findClass_of_methodNamed B.named
  have hlocks := B.notSynchronized
  have hX := WM.of hPX
  have hl := lv_entry ([.ref (am 0), .int x9]) (n := 2) (Nat.le_of_ble_eq_true rfl)
  rw [lg_entry_eq]
  generalize (lg_sl ([.ref (am 0), .int x9]) ++ List.replicate (2 - (lg_sl ([.ref (am 0), .int x9])).length) Slot.unset).toArray = ls at hl ⊢
  have hl : lv_has ls 2 [(0, .ref (am 0)), (1, .int x9)] := hl
  show W p l e ({ frames := 2, cells := 0, slots := 0, locals := 44 } : Room) s m ([.ref (am 0), .int x9]).toArray below meth c s.heap [] 0 0 (MQ below (va_Qi (fun r M' => M' = thM M 1) (PM dC dI am) (AM am)) ([.ref (am 0), .int x9]).toArray s 0 0 (AM am)) (F0 m 0 ls [])
  refine lv_aload_n hx hb dX6_house_0 rfl (lv_at hl 0 rfl) ?_
  refine lv_iload_n hx hb dX6_house_1 rfl (lv_at hl 1 rfl) ?_
  refine lv_iconst (v := nI 4) hx hb dX6_house_2 (by decide) ?_
  refine kx_cr (v := bI true) (va_runS (As := [.int x9, .int (nI 4)]) (rest := [.ref (am 0)]) ⟨hx, hb, hml, hown, hts⟩ (m_X6_isNo l dC dI am M x9 (nI 4)) (va_cwS 2 hts gX6_house_X6_isNo rfl rfl rfl hdX6_isNo_2.2 ⟨Nat.le_of_ble_eq_true rfl, Nat.le_of_ble_eq_true rfl⟩) hX.preS rfl rfl hl.1 rfl (lv_room (Nat.le_of_ble_eq_true rfl)) dX6_house_3 ⟨Nat.le_of_ble_eq_true rfl, Nat.le_of_ble_eq_true rfl⟩) (fun _ h => h.trans (isNo_bad hb9)) ?_
  refine lv_iconst (v := nI 1) hx hb dX6_house_6 (by decide) ?_
  refine km_ci (va_runV (As := [.int (bI true), .int (nI 1)]) (rest := []) ⟨hx, hb, hml, hown, hts⟩ (m_X6_start l dC dI am M true 1 (by omega)) (cwV 2 hts gX6_house_X6_start rfl rfl rfl hdX6_start_2 ⟨Nat.le_of_ble_eq_true rfl, Nat.le_of_ble_eq_true rfl⟩) (hX.preObj) rfl rfl hl.1 rfl (lv_room (Nat.le_of_ble_eq_true rfl)) dX6_house_7 ⟨Nat.le_of_ble_eq_true rfl, Nat.le_of_ble_eq_true rfl⟩) hX (fun _ h => h) (fun r_ S_ H locs hw hX => ?_)
  obtain ⟨rfl, rfl⟩ := hw
  refine kb_if_eq (tgt := 17) hx hb dX6_house_10 (by decide) (fun k_1 => absurd k_1 (by decide)) (fun k_1 => ?_)
  refine lv_iconst (v := nI 0) hx hb dX6_house_13 (by decide) ?_
  refine lv_goto (tgt := 22) hx hb dX6_house_14 (by decide) ?_
  exact W.iret (v := nI 0) hx hb hr (fun t9 ht9 hW9 => ⟨⟨_, (mN M (1, M.2.2.2.1, M.2.2.2.2.1, M.2.2.2.2.2)), rfl, rfl, hX.P ht9 hW9⟩, hX.2.2.2.F ht9⟩) hX.2.2.2.2.2 dX6_house_22
end
section
/-! the object itself -/
section KC3
variable {p : Program} {l : Launch} {e : Env} {R : Room} {s : State} {m : MethodId} {args : Array Value} {below : List Frame} {meth : Method} {c : Code} {H : Heap} {locs : List Loc} {cells slots : Nat} {Q : State → Prop}
variable {cc : ByteArray} {pc : Nat} {ls : Array Slot} {rest st0 : List Value} {dC : Nat → ClassId} {dI : Nat → Nat → Nat} {z : Nat} {G : va_W} {index n : Nat} {own : String}
theorem kc_newqR (hx : p.tables.exec = Jvm.exec) (hb : c.code = cc) (hown : s.vm.findClass own = some m.cls) (hcl : (Cond.classLink own index "Orderlattice$Row").before args s = true) (hA : va_AO "Orderlattice$Row" s) (hC : WC dC dI z G s H locs) (hn : n ≤ 65536) (hcells : cells + 1 ≤ R.cells) (hslots : slots + n ≤ R.slots) (hdg : decode cc pc = .ok (.anewarray index, 3))
    (kk : ∀ (q : Nat) (H1 : Heap), WC dC dI z (G ++ [(q, .inl (dC 23, n, .inr (.inr (.inr (.inr (fun _ => none))))))]) s H1 locs → W p l e R s m args below meth c H1 locs (cells + 1) (slots + n) Q (F0 m (pc + 3) ls (.ref q :: rest))) : W p l e R s m args below meth c H locs cells slots Q (F0 m pc ls (.int (nI n) :: rest)) := by
  refine va_newq hx hb hown hcl hA hC.2.1 hC.1 hC.2.2.1 hC.2.2.2.1 (fun q hq => Nat.le_trans hC.2.2.2.2.1 hq) (nI_pos (by omega)) (nI_clamp (by omega)) (by omega) hcells hslots hdg (fun q cA H1 hK1 h1 h2 h3 => ?_)
  have e0 : cA = dC 23 := by
    obtain ⟨_, _, _, _, _, e1⟩ := (hK1.2 3 (dC 23, .object "Orderlattice$Row") rfl).2
    obtain ⟨_, _, _, _, _, e2⟩ := (hK1.2 5 (cA, .object "Orderlattice$Row") rfl).2
    exact Option.some.inj (e2.symm.trans e1)
  subst e0
  exact kk q H1 (hC.to h1 h2 h3)
theorem kc_newqO (hx : p.tables.exec = Jvm.exec) (hb : c.code = cc) (hown : s.vm.findClass own = some m.cls) (hcl : (Cond.classLink own index "Orderlattice$Order").before args s = true) (hA : va_AO "Orderlattice$Order" s) (hC : WC dC dI z G s H locs) (hn : n ≤ 65536) (hcells : cells + 1 ≤ R.cells) (hslots : slots + n ≤ R.slots) (hdg : decode cc pc = .ok (.anewarray index, 3))
    (kk : ∀ (q : Nat) (H1 : Heap), WC dC dI z (G ++ [(q, .inl (dC 24, n, .inr (.inr (.inr (.inr (fun _ => none))))))]) s H1 locs → W p l e R s m args below meth c H1 locs (cells + 1) (slots + n) Q (F0 m (pc + 3) ls (.ref q :: rest))) : W p l e R s m args below meth c H locs cells slots Q (F0 m pc ls (.int (nI n) :: rest)) := by
  refine va_newq hx hb hown hcl hA hC.2.1 hC.1 hC.2.2.1 hC.2.2.2.1 (fun q hq => Nat.le_trans hC.2.2.2.2.1 hq) (nI_pos (by omega)) (nI_clamp (by omega)) (by omega) hcells hslots hdg (fun q cA H1 hK1 h1 h2 h3 => ?_)
  have e0 : cA = dC 24 := by
    obtain ⟨_, _, _, _, _, e1⟩ := (hK1.2 4 (dC 24, .object "Orderlattice$Order") rfl).2
    obtain ⟨_, _, _, _, _, e2⟩ := (hK1.2 5 (cA, .object "Orderlattice$Order") rfl).2
    exact Option.some.inj (e2.symm.trans e1)
  subst e0
  exact kk q H1 (hC.to h1 h2 h3)
end KC3
theorem al0 {P : Nat → Prop} : ∀ k, k < 0 → P k := fun k hk => absurd hk (Nat.not_lt_zero k)
theorem al {P : Nat → Prop} {n : Nat} (h : ∀ k, k < n → P k) (hn : P n) : ∀ k, k < n + 1 → P k := fun k hk => by
  by_cases e : k = n
  · subst e; exact hn
  · exact h k (by omega)
theorem arrV_cong {c : ClassId} {n : Nat} {f g : Nat → Value} (h : ∀ j, j < n → f j = g j) : arrV c n f = arrV c n g := by
  unfold arrV
  have e : (fun j : Fin n => f j.val) = fun j => g j.val := funext (fun j => h j.val j.isLt)
  rw [e]
theorem at_arr {D : va_G} {cl : List vw_C} {q : Nat} {c : ClassId} {n : Nat} {f g : Nat → Option Nat} {H : Heap} (h : ∀ j, j < n → f j = g j) (ha : va_at D cl (q, .inl (c, n, .inr (.inr (.inr (.inr f))))) H) : va_at D cl (q, .inl (c, n, .inr (.inr (.inr (.inr g))))) H := by
  have e : vp_cell c (n, .inr (.inr (.inr (.inr f)))) = vp_cell c (n, .inr (.inr (.inr (.inr g)))) := by
    rw [vp_cell_q, vp_cell_q]
    exact arrV_cong (fun j hj => by rw [h j hj])
  show H[q]? = some (vp_cell c (n, .inr (.inr (.inr (.inr g)))))
  rw [← e]
  exact ha
def adl (l : List Nat) (k : Nat) : Nat := l.getD k 0
def S00 : XS := (fun _ => (fun _ => 0, fun _ => 0, 0), fun _ => (fun _ => 0, fun _ => false, fun _ => 0, fun _ => 0, 0, 1), 0, 0, 0)
theorem wX_of {dC : Nat → ClassId} {dI : Nat → Nat → Nat} {ad : Nat → Nat} {S : XS} {z : Nat} {H : Heap} {G : va_W} (P Q : Nat → Nat) (hi : ∀ k, k < 60 → Q (P k) = k) (hP : va_P (dC, dI) vwCl G H) (hD : va_D (zB z) G) (hk : ∀ k, k < 60 → ∃ e, G[P k]? = some (ad k, e) ∧ (va_at (dC, dI) vwCl (ad k, e) H → va_at (dC, dI) vwCl (ad k, kX dC ad S k) H)) : va_P (dC, dI) vwCl (wX dC ad S) H ∧ va_D (AX ad) (wX dC ad S) ∧ ∀ q, AX ad q → zB z q := by
  refine ⟨fun k q hq => ?_, ⟨fun i j p q hi9 hj9 e => ?_, fun k q hq => ?_⟩, ?_⟩
  · obtain ⟨h1, h2⟩ := wX_in k q hq
    rw [wX_get h1] at hq
    cases hq
    obtain ⟨e, h3, h4⟩ := hk k h1
    exact h4 (hP _ _ h3)
  · obtain ⟨h1, h2⟩ := wX_in i p hi9
    obtain ⟨h3, h4⟩ := wX_in j q hj9
    obtain ⟨e1, h5, -⟩ := hk i h1
    obtain ⟨e2, h6, -⟩ := hk j h3
    have h7 := hD.1 _ _ _ _ h5 h6 (by rw [← h2, ← h4, e])
    rw [← hi i h1, ← hi j h3, h7]
  · obtain ⟨h1, h2⟩ := wX_in k q hq
    exact ⟨k, h1, h2⟩
  · rintro q ⟨k, h1, rfl⟩
    obtain ⟨e, h3, -⟩ := hk k h1
    exact hD.2 _ _ h3
theorem dec60 {p : Nat → Bool} (h : (List.range 60).all p = true) : ∀ k, k < 60 → p k = true := fun k hk => List.all_eq_true.mp h k (List.mem_range.mpr hk)
theorem InvX_0 : InvX S00 := by
  refine ⟨fun i _ => ⟨Nat.zero_le _, fun k _ => ⟨by show 0 < 16; omega, by show 0 < 1000000; omega⟩⟩, fun j _ => ⟨⟨Nat.zero_le _, fun k _ => by show 0 < 8; omega⟩, fun v _ => rfl, fun v hv => ?_, ?_⟩⟩
  · show 0 = rankC (codeOf (fun _ => 0) (fun _ => false) 0) v
    unfold rankC
    exact (cntB_none (n := 16) (fun y _ => by
      rw [decide_eq_false (show ¬ codeOf (fun _ => 0) (fun _ => false) 0 y < codeOf (fun _ => 0) (fun _ => false) 0 v from Nat.lt_irrefl 0), Bool.and_false])).symm
  · show 1 = classC (codeOf (fun _ => 0) (fun _ => false) 0)
    decide +kernel
def ad4 (a0 a1 a2 a3 a4 a5 a6 a7 a8 a9 a10 a11 a12 a13 a14 a15 a16 a17 a18 a19 a20 a21 a22 a23 a24 a25 a26 a27 a28 a29 a30 a31 a32 a33 a34 a35 a36 a37 a38 a39 a40 a41 a42 a43 a44 a45 a46 a47 a48 a49 a50 a51 a52 a53 a54 a55 a56 a57 a58 a59 : Nat) : List Nat := [a31, a32, a33, a34, a35, a36, a37, a38, a39, a4, a5, a6, a23, a24, a25, a9, a10, a11, a12, a13, a14, a15, a16, a17, a40, a41, a42, a43, a44, a45, a46, a47, a48, a49, a50, a51, a52, a53, a54, a55, a56, a57, a58, a59, a26, a27, a28, a29, a30, a18, a19, a20, a21, a22, a3, a8, a7, a0, a1, a2]
set_option maxHeartbeats 4000000 in
set_option maxRecDepth 100000 in
theorem X4_fin {dC : Nat → ClassId} {dI : Nat → Nat → Nat} {z : Nat} {H : Heap} {G : va_W} {k : Nat} (a0 a1 a2 a3 a4 a5 a6 a7 a8 a9 a10 a11 a12 a13 a14 a15 a16 a17 a18 a19 a20 a21 a22 a23 a24 a25 a26 a27 a28 a29 a30 a31 a32 a33 a34 a35 a36 a37 a38 a39 a40 a41 a42 a43 a44 a45 a46 a47 a48 a49 a50 a51 a52 a53 a54 a55 a56 a57 a58 a59 : Nat) (hG0 : G = [(a0, .inr (6, [.null, .null, .null, .null, .null, .null, .int (nI 0), .int (nI 0), .int (nI 0)]))] ∧ k = 0) (hP : va_P (dC, dI) vwCl (G.set k (a0, .inr (6, [.ref a1, .ref a2, .ref a3, .ref a7, .ref a23, .ref a26, .int (nI 0), .int (nI 0), .int (nI 0)])) ++ [(a1, .inl (dC 23, 3, .inr (.inr (.inr (.inr (va_up (va_up (va_up (fun _ => none) 0 (some a31)) 1 (some a34)) 2 (some a37))))))), (a2, .inl (dC 24, 4, .inr (.inr (.inr (.inr (va_up (va_up (va_up (va_up (fun _ => none) 0 (some a40)) 1 (some a45)) 2 (some a50)) 3 (some a55))))))), (a3, .inr (5, [.ref a4])), (a4, .inr (4, [.ref a5, .ref a6, .int (nI 0)])), (a5, .inl (dC 20, 16, .inl (fun _ => nI 0))), (a6, .inl (dC 20, 16, .inl (fun _ => nI 0))), (a7, .inr (2, [.ref a8, .ref a12, .ref a15, .ref a18])), (a8, .inr (5, [.ref a9])), (a9, .inr (4, [.ref a10, .ref a11, .int (nI 0)])), (a10, .inl (dC 20, 16, .inl (fun _ => nI 0))), (a11, .inl (dC 20, 16, .inl (fun _ => nI 0))), (a12, .inr (4, [.ref a13, .ref a14, .int (nI 0)])), (a13, .inl (dC 20, 16, .inl (fun _ => nI 0))), (a14, .inl (dC 20, 16, .inl (fun _ => nI 0))), (a15, .inr (4, [.ref a16, .ref a17, .int (nI 0)])), (a16, .inl (dC 20, 16, .inl (fun _ => nI 0))), (a17, .inl (dC 20, 16, .inl (fun _ => nI 0))), (a18, .inr (3, [.ref a19, .ref a20, .ref a21, .ref a22, .int (nI 0), .int (nI 1)])), (a19, .inl (dC 20, 10, .inl (fun _ => nI 0))), (a20, .inl (dC 21, 10, .inl (fun _ => bI false))), (a21, .inl (dC 22, 16, .inr (.inl (fun _ => lN 0)))), (a22, .inl (dC 20, 16, .inl (fun _ => nI 0))), (a23, .inr (4, [.ref a24, .ref a25, .int (nI 0)])), (a24, .inl (dC 20, 16, .inl (fun _ => nI 0))), (a25, .inl (dC 20, 16, .inl (fun _ => nI 0))), (a26, .inr (3, [.ref a27, .ref a28, .ref a29, .ref a30, .int (nI 0), .int (nI 1)])), (a27, .inl (dC 20, 10, .inl (fun _ => nI 0))), (a28, .inl (dC 21, 10, .inl (fun _ => bI false))), (a29, .inl (dC 22, 16, .inr (.inl (fun _ => lN 0)))), (a30, .inl (dC 20, 16, .inl (fun _ => nI 0))), (a31, .inr (4, [.ref a32, .ref a33, .int (nI 0)])), (a32, .inl (dC 20, 16, .inl (fun _ => nI 0))), (a33, .inl (dC 20, 16, .inl (fun _ => nI 0))), (a34, .inr (4, [.ref a35, .ref a36, .int (nI 0)])), (a35, .inl (dC 20, 16, .inl (fun _ => nI 0))), (a36, .inl (dC 20, 16, .inl (fun _ => nI 0))), (a37, .inr (4, [.ref a38, .ref a39, .int (nI 0)])), (a38, .inl (dC 20, 16, .inl (fun _ => nI 0))), (a39, .inl (dC 20, 16, .inl (fun _ => nI 0))), (a40, .inr (3, [.ref a41, .ref a42, .ref a43, .ref a44, .int (nI 0), .int (nI 1)])), (a41, .inl (dC 20, 10, .inl (fun _ => nI 0))), (a42, .inl (dC 21, 10, .inl (fun _ => bI false))), (a43, .inl (dC 22, 16, .inr (.inl (fun _ => lN 0)))), (a44, .inl (dC 20, 16, .inl (fun _ => nI 0))), (a45, .inr (3, [.ref a46, .ref a47, .ref a48, .ref a49, .int (nI 0), .int (nI 1)])), (a46, .inl (dC 20, 10, .inl (fun _ => nI 0))), (a47, .inl (dC 21, 10, .inl (fun _ => bI false))), (a48, .inl (dC 22, 16, .inr (.inl (fun _ => lN 0)))), (a49, .inl (dC 20, 16, .inl (fun _ => nI 0))), (a50, .inr (3, [.ref a51, .ref a52, .ref a53, .ref a54, .int (nI 0), .int (nI 1)])), (a51, .inl (dC 20, 10, .inl (fun _ => nI 0))), (a52, .inl (dC 21, 10, .inl (fun _ => bI false))), (a53, .inl (dC 22, 16, .inr (.inl (fun _ => lN 0)))), (a54, .inl (dC 20, 16, .inl (fun _ => nI 0))), (a55, .inr (3, [.ref a56, .ref a57, .ref a58, .ref a59, .int (nI 0), .int (nI 1)])), (a56, .inl (dC 20, 10, .inl (fun _ => nI 0))), (a57, .inl (dC 21, 10, .inl (fun _ => bI false))), (a58, .inl (dC 22, 16, .inr (.inl (fun _ => lN 0)))), (a59, .inl (dC 20, 16, .inl (fun _ => nI 0)))]) H) (hD : va_D (zB z) (G.set k (a0, .inr (6, [.ref a1, .ref a2, .ref a3, .ref a7, .ref a23, .ref a26, .int (nI 0), .int (nI 0), .int (nI 0)])) ++ [(a1, .inl (dC 23, 3, .inr (.inr (.inr (.inr (va_up (va_up (va_up (fun _ => none) 0 (some a31)) 1 (some a34)) 2 (some a37))))))), (a2, .inl (dC 24, 4, .inr (.inr (.inr (.inr (va_up (va_up (va_up (va_up (fun _ => none) 0 (some a40)) 1 (some a45)) 2 (some a50)) 3 (some a55))))))), (a3, .inr (5, [.ref a4])), (a4, .inr (4, [.ref a5, .ref a6, .int (nI 0)])), (a5, .inl (dC 20, 16, .inl (fun _ => nI 0))), (a6, .inl (dC 20, 16, .inl (fun _ => nI 0))), (a7, .inr (2, [.ref a8, .ref a12, .ref a15, .ref a18])), (a8, .inr (5, [.ref a9])), (a9, .inr (4, [.ref a10, .ref a11, .int (nI 0)])), (a10, .inl (dC 20, 16, .inl (fun _ => nI 0))), (a11, .inl (dC 20, 16, .inl (fun _ => nI 0))), (a12, .inr (4, [.ref a13, .ref a14, .int (nI 0)])), (a13, .inl (dC 20, 16, .inl (fun _ => nI 0))), (a14, .inl (dC 20, 16, .inl (fun _ => nI 0))), (a15, .inr (4, [.ref a16, .ref a17, .int (nI 0)])), (a16, .inl (dC 20, 16, .inl (fun _ => nI 0))), (a17, .inl (dC 20, 16, .inl (fun _ => nI 0))), (a18, .inr (3, [.ref a19, .ref a20, .ref a21, .ref a22, .int (nI 0), .int (nI 1)])), (a19, .inl (dC 20, 10, .inl (fun _ => nI 0))), (a20, .inl (dC 21, 10, .inl (fun _ => bI false))), (a21, .inl (dC 22, 16, .inr (.inl (fun _ => lN 0)))), (a22, .inl (dC 20, 16, .inl (fun _ => nI 0))), (a23, .inr (4, [.ref a24, .ref a25, .int (nI 0)])), (a24, .inl (dC 20, 16, .inl (fun _ => nI 0))), (a25, .inl (dC 20, 16, .inl (fun _ => nI 0))), (a26, .inr (3, [.ref a27, .ref a28, .ref a29, .ref a30, .int (nI 0), .int (nI 1)])), (a27, .inl (dC 20, 10, .inl (fun _ => nI 0))), (a28, .inl (dC 21, 10, .inl (fun _ => bI false))), (a29, .inl (dC 22, 16, .inr (.inl (fun _ => lN 0)))), (a30, .inl (dC 20, 16, .inl (fun _ => nI 0))), (a31, .inr (4, [.ref a32, .ref a33, .int (nI 0)])), (a32, .inl (dC 20, 16, .inl (fun _ => nI 0))), (a33, .inl (dC 20, 16, .inl (fun _ => nI 0))), (a34, .inr (4, [.ref a35, .ref a36, .int (nI 0)])), (a35, .inl (dC 20, 16, .inl (fun _ => nI 0))), (a36, .inl (dC 20, 16, .inl (fun _ => nI 0))), (a37, .inr (4, [.ref a38, .ref a39, .int (nI 0)])), (a38, .inl (dC 20, 16, .inl (fun _ => nI 0))), (a39, .inl (dC 20, 16, .inl (fun _ => nI 0))), (a40, .inr (3, [.ref a41, .ref a42, .ref a43, .ref a44, .int (nI 0), .int (nI 1)])), (a41, .inl (dC 20, 10, .inl (fun _ => nI 0))), (a42, .inl (dC 21, 10, .inl (fun _ => bI false))), (a43, .inl (dC 22, 16, .inr (.inl (fun _ => lN 0)))), (a44, .inl (dC 20, 16, .inl (fun _ => nI 0))), (a45, .inr (3, [.ref a46, .ref a47, .ref a48, .ref a49, .int (nI 0), .int (nI 1)])), (a46, .inl (dC 20, 10, .inl (fun _ => nI 0))), (a47, .inl (dC 21, 10, .inl (fun _ => bI false))), (a48, .inl (dC 22, 16, .inr (.inl (fun _ => lN 0)))), (a49, .inl (dC 20, 16, .inl (fun _ => nI 0))), (a50, .inr (3, [.ref a51, .ref a52, .ref a53, .ref a54, .int (nI 0), .int (nI 1)])), (a51, .inl (dC 20, 10, .inl (fun _ => nI 0))), (a52, .inl (dC 21, 10, .inl (fun _ => bI false))), (a53, .inl (dC 22, 16, .inr (.inl (fun _ => lN 0)))), (a54, .inl (dC 20, 16, .inl (fun _ => nI 0))), (a55, .inr (3, [.ref a56, .ref a57, .ref a58, .ref a59, .int (nI 0), .int (nI 1)])), (a56, .inl (dC 20, 10, .inl (fun _ => nI 0))), (a57, .inl (dC 21, 10, .inl (fun _ => bI false))), (a58, .inl (dC 22, 16, .inr (.inl (fun _ => lN 0)))), (a59, .inl (dC 20, 16, .inl (fun _ => nI 0)))])) : ∃ ad : Nat → Nat, ad 57 = a0 ∧ (∀ q, AX ad q → zB z q) ∧ va_P (dC, dI) vwCl (wX dC ad S00) H ∧ va_D (AX ad) (wX dC ad S00) := by
  obtain ⟨rfl, rfl⟩ := hG0
  have h := wX_of (ad := adl (ad4 a0 a1 a2 a3 a4 a5 a6 a7 a8 a9 a10 a11 a12 a13 a14 a15 a16 a17 a18 a19 a20 a21 a22 a23 a24 a25 a26 a27 a28 a29 a30 a31 a32 a33 a34 a35 a36 a37 a38 a39 a40 a41 a42 a43 a44 a45 a46 a47 a48 a49 a50 a51 a52 a53 a54 a55 a56 a57 a58 a59)) (S := S00) (adl [31, 32, 33, 34, 35, 36, 37, 38, 39, 4, 5, 6, 23, 24, 25, 9, 10, 11, 12, 13, 14, 15, 16, 17, 40, 41, 42, 43, 44, 45, 46, 47, 48, 49, 50, 51, 52, 53, 54, 55, 56, 57, 58, 59, 26, 27, 28, 29, 30, 18, 19, 20, 21, 22, 3, 8, 7, 0, 1, 2]) (adl [57, 58, 59, 54, 9, 10, 11, 56, 55, 15, 16, 17, 18, 19, 20, 21, 22, 23, 49, 50, 51, 52, 53, 12, 13, 14, 44, 45, 46, 47, 48, 0, 1, 2, 3, 4, 5, 6, 7, 8, 24, 25, 26, 27, 28, 29, 30, 31, 32, 33, 34, 35, 36, 37, 38, 39, 40, 41, 42, 43]) (fun k hk => of_decide_eq_true (dec60 (p := fun k => decide (adl [57, 58, 59, 54, 9, 10, 11, 56, 55, 15, 16, 17, 18, 19, 20, 21, 22, 23, 49, 50, 51, 52, 53, 12, 13, 14, 44, 45, 46, 47, 48, 0, 1, 2, 3, 4, 5, 6, 7, 8, 24, 25, 26, 27, 28, 29, 30, 31, 32, 33, 34, 35, 36, 37, 38, 39, 40, 41, 42, 43] (adl [31, 32, 33, 34, 35, 36, 37, 38, 39, 4, 5, 6, 23, 24, 25, 9, 10, 11, 12, 13, 14, 15, 16, 17, 40, 41, 42, 43, 44, 45, 46, 47, 48, 49, 50, 51, 52, 53, 54, 55, 56, 57, 58, 59, 26, 27, 28, 29, 30, 18, 19, 20, 21, 22, 3, 8, 7, 0, 1, 2] k) = k)) (by decide +kernel) k hk)) hP hD (al (al (al (al (al (al (al (al (al (al (al (al (al (al (al (al (al (al (al (al (al (al (al (al (al (al (al (al (al (al (al (al (al (al (al (al (al (al (al (al (al (al (al (al (al (al (al (al (al (al (al (al (al (al (al (al (al (al (al (al al0 ⟨_, rfl, (fun h => h)⟩) ⟨_, rfl, (fun h => h)⟩) ⟨_, rfl, (fun h => h)⟩) ⟨_, rfl, (fun h => h)⟩) ⟨_, rfl, (fun h => h)⟩) ⟨_, rfl, (fun h => h)⟩) ⟨_, rfl, (fun h => h)⟩) ⟨_, rfl, (fun h => h)⟩) ⟨_, rfl, (fun h => h)⟩) ⟨_, rfl, (fun h => h)⟩) ⟨_, rfl, (fun h => h)⟩) ⟨_, rfl, (fun h => h)⟩) ⟨_, rfl, (fun h => h)⟩) ⟨_, rfl, (fun h => h)⟩) ⟨_, rfl, (fun h => h)⟩) ⟨_, rfl, (fun h => h)⟩) ⟨_, rfl, (fun h => h)⟩) ⟨_, rfl, (fun h => h)⟩) ⟨_, rfl, (fun h => h)⟩) ⟨_, rfl, (fun h => h)⟩) ⟨_, rfl, (fun h => h)⟩) ⟨_, rfl, (fun h => h)⟩) ⟨_, rfl, (fun h => h)⟩) ⟨_, rfl, (fun h => h)⟩) ⟨_, rfl, (fun h => h)⟩) ⟨_, rfl, (fun h => h)⟩) ⟨_, rfl, (fun h => h)⟩) ⟨_, rfl, (fun h => h)⟩) ⟨_, rfl, (fun h => h)⟩) ⟨_, rfl, (fun h => h)⟩) ⟨_, rfl, (fun h => h)⟩) ⟨_, rfl, (fun h => h)⟩) ⟨_, rfl, (fun h => h)⟩) ⟨_, rfl, (fun h => h)⟩) ⟨_, rfl, (fun h => h)⟩) ⟨_, rfl, (fun h => h)⟩) ⟨_, rfl, (fun h => h)⟩) ⟨_, rfl, (fun h => h)⟩) ⟨_, rfl, (fun h => h)⟩) ⟨_, rfl, (fun h => h)⟩) ⟨_, rfl, (fun h => h)⟩) ⟨_, rfl, (fun h => h)⟩) ⟨_, rfl, (fun h => h)⟩) ⟨_, rfl, (fun h => h)⟩) ⟨_, rfl, (fun h => h)⟩) ⟨_, rfl, (fun h => h)⟩) ⟨_, rfl, (fun h => h)⟩) ⟨_, rfl, (fun h => h)⟩) ⟨_, rfl, (fun h => h)⟩) ⟨_, rfl, (fun h => h)⟩) ⟨_, rfl, (fun h => h)⟩) ⟨_, rfl, (fun h => h)⟩) ⟨_, rfl, (fun h => h)⟩) ⟨_, rfl, (fun h => h)⟩) ⟨_, rfl, (fun h => h)⟩) ⟨_, rfl, (fun h => h)⟩) ⟨_, rfl, (fun h => h)⟩) ⟨_, rfl, (fun h => h)⟩) ⟨_, rfl, (fun h => at_arr (fun j hj => by rcases (show j = 0 ∨ j = 1 ∨ j = 2 by omega) with rfl | rfl | rfl <;> rfl) h)⟩) ⟨_, rfl, (fun h => at_arr (fun j hj => by rcases (show j = 0 ∨ j = 1 ∨ j = 2 ∨ j = 3 by omega) with rfl | rfl | rfl | rfl <;> rfl) h)⟩)
  exact ⟨_, rfl, h.2.2, h.1, h.2.1⟩
end
