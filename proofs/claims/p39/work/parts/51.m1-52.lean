section
/-! the reference: its invariant, its orders' codes -/
def rowM (r : RowS) : Prop := r.2.2 ≤ 12 ∧ ∀ k, k < 12 → r.1 k < 16 ∧ r.2.1 k < 1000000
def ordM (o : OrdM) : Prop := o.2.2 ≤ 5 ∧ ∀ k, k < 5 → o.1 k < 8
def InvM (M : MS) : Prop := (∀ i, i < 3 → rowM (M.1 i)) ∧ ∀ j, j < 4 → ordM (M.2.1 j)
abbrev cM (M : MS) (j : Nat) : Nat → Nat := codeOf (M.2.1 j).1 (M.2.1 j).2.1 (M.2.1 j).2.2
theorem isNo_ok {k g : Nat} (h : k ≤ g) (hg : g < 2 ^ 31) : bI (decide (nI k < 0 ∨ nI g < nI k)) = bI false := by
  have hk : k < 2 ^ 31 := by omega
  rw [decide_eq_false (fun q => q.elim (fun q => absurd q (nI_pos hk)) (fun q => by rw [nI_ltI hg hk] at q; omega))]
theorem isNo_bad {x g : Int32} (h : x < 0 ∨ g < x) : bI (decide (x < 0 ∨ g < x)) = bI true := by rw [decide_eq_true h]
theorem bI_inj {a b : Bool} (h : bI a = bI b) : a = b := by
  cases a <;> cases b <;> first | rfl | exact absurd h (by decide)
theorem mN_same {M : MS} (h : M.2.2.1 = 0) : M = mN M (0, M.2.2.2) := by
  obtain ⟨a, b, c, d⟩ := M
  cases h
  rfl
theorem code_ext {K : Nat → Nat} {D : Nat → Bool} {k a b : Nat} (ha : a < 16) (hb : b < 16) (h : codeOf K D k a < codeOf K D k b) : ∀ n, k ≤ n → codeOf K D n a < codeOf K D n b
  | 0, hk => by obtain rfl : k = 0 := by omega
                exact h
  | n + 1, hk => by
    by_cases e : k = n + 1
    · subst e; exact h
    · have h1 := code_ext ha hb h n (by omega)
      have h2 := digK_lt (k := K n) (d := D n) ha
      rw [codeOf, codeOf]
      omega
theorem cmpS {K : Nat → Nat} {D : Nat → Bool} {n k a b : Nat} (hk : k < n) (ha : a < 16) (hb : b < 16) (hq : codeOf K D k a = codeOf K D k b) (hne : numK (K k) a ≠ numK (K k) b) : cmpI (codeOf K D n a) (codeOf K D n b) = if decide (numK (K k) a < numK (K k) b) = D k then 1 else -1 := by
  have h1 := numK_lt (k := K k) ha
  have h2 := numK_lt (k := K k) hb
  have e : ∀ v, codeOf K D (k + 1) v = codeOf K D k v * 16 + digK (K k) (D k) v := fun v => rfl
  have hlt : (if D k then numK (K k) b < numK (K k) a else numK (K k) a < numK (K k) b) → codeOf K D n a < codeOf K D n b := fun h => code_ext ha hb (k := k + 1) (by
    rw [e, e, hq]
    unfold digK
    cases hd : D k with
    | false => rw [hd] at h; simp at h ⊢; omega
    | true => rw [hd] at h; simp at h ⊢; omega) n hk
  have hgt : (if D k then numK (K k) a < numK (K k) b else numK (K k) b < numK (K k) a) → codeOf K D n b < codeOf K D n a := fun h => code_ext hb ha (k := k + 1) (by
    rw [e, e, hq]
    unfold digK
    cases hd : D k with
    | false => rw [hd] at h; simp at h ⊢; omega
    | true => rw [hd] at h; simp at h ⊢; omega) n hk
  by_cases hc : numK (K k) a < numK (K k) b
  · rw [decide_eq_true hc]
    cases hd : D k with
    | false => rw [if_neg (by decide), cmpI_lt (hlt (by rw [hd]; exact hc))]
    | true => rw [if_pos rfl, cmpI_gt (hgt (by rw [hd]; exact hc))]
  · rw [decide_eq_false hc]
    have hc2 : numK (K k) b < numK (K k) a := by omega
    cases hd : D k with
    | false => rw [if_pos rfl, cmpI_gt (hgt (by rw [hd]; exact hc2))]
    | true => rw [if_neg (by decide), cmpI_lt (hlt (by rw [hd]; exact hc2))]
theorem cmpS_p {K : Nat → Nat} {D : Nat → Bool} {n k a b : Nat} (hk : k < n) (ha : a < 16) (hb : b < 16) (hq : codeOf K D k a = codeOf K D k b) (hne : numK (K k) a ≠ numK (K k) b) (hz : decide (numK (K k) a < numK (K k) b) = D k) : nI 1 = cmpI (codeOf K D n a) (codeOf K D n b) := by
  rw [cmpS hk ha hb hq hne, if_pos hz]
  rfl
theorem cmpS_n {K : Nat → Nat} {D : Nat → Bool} {n k a b : Nat} (hk : k < n) (ha : a < 16) (hb : b < 16) (hq : codeOf K D k a = codeOf K D k b) (hne : numK (K k) a ≠ numK (K k) b) (hz : ¬ decide (numK (K k) a < numK (K k) b) = D k) : (-1 : Int32) = cmpI (codeOf K D n a) (codeOf K D n b) := by
  rw [cmpS hk ha hb hq hne, if_neg hz]
theorem cmpS_0 {a b : Nat} (h : a = b) : nI 0 = cmpI a b := (cmpI_eq h).symm
theorem cmpI_three (a b : Nat) : (cmpI a b = -1 ∧ a ≠ b) ∨ (cmpI a b = 0 ∧ a = b) ∨ (cmpI a b = 1 ∧ a ≠ b) := by
  rcases Nat.lt_trichotomy a b with h | h | h
  · exact Or.inl ⟨cmpI_lt h, by omega⟩
  · exact Or.inr (Or.inl ⟨cmpI_eq h, h⟩)
  · exact Or.inr (Or.inr ⟨cmpI_gt h, by omega⟩)
theorem bothM_2 {a b c d : Nat} (h : ¬ 0 ≤ cmpI a b * cmpI c d) : nI 2 = bothI a b c d := by
  unfold bothI
  revert h
  rcases cmpI_three a b with ⟨e, f⟩ | ⟨e, f⟩ | ⟨e, f⟩ <;> rcases cmpI_three c d with ⟨g, i⟩ | ⟨g, i⟩ | ⟨g, i⟩ <;> rw [e, g] <;> intro h <;> first | exact absurd (by decide) h | exact (if_pos ⟨f, by decide⟩).symm
theorem bothM_x {a b c d : Nat} (h : 0 ≤ cmpI a b * cmpI c d) (h2 : a ≠ b) : cmpI a b = bothI a b c d := by
  unfold bothI
  rw [if_neg (fun z => ?_), if_pos h2]
  obtain ⟨-, z⟩ := z
  rcases cmpI_three a b with ⟨e, f⟩ | ⟨e, f⟩ | ⟨e, f⟩ <;> rcases cmpI_three c d with ⟨g, i⟩ | ⟨g, i⟩ | ⟨g, i⟩ <;> rw [e, g] at h z <;> first | exact absurd f (fun q => q h2) | exact absurd z (by decide) | exact absurd h (by decide) | exact h2 f
theorem bothM_y {a b c d : Nat} (h2 : a = b) : cmpI c d = bothI a b c d := by
  unfold bothI
  rw [if_neg (fun z => z.1 h2), if_neg (fun z => z h2)]
def apartF (c d : Nat → Nat) (a : Nat) : Nat := cntB (fun b => decide (bothI (c a) (c b) (d a) (d b) = nI 2)) a
def apartM (c d : Nat → Nat) : Nat := sumN (apartF c d) 16
set_option maxHeartbeats 4000000 in
set_option maxRecDepth 100000 in
theorem m_X6_isNo (l : Launch) (dC : Nat → ClassId) (dI : Nat → Nat → Nat) (am : Nat → Nat) (M : MS) (x g : Int32) : Met l yX6_isNo wsX6_isNo ({ frames := 0, cells := 0, slots := 0, locals := 0 } : Room) (va_Pc [.int x, .int g] (PM dC dI am M)) (vp_Si (fun r => r = bI (decide (x < 0 ∨ g < x)))) 0 0 (fun _ => False) := by
  refine Met.ofW (cc := cX6_isNo) (maxL := 2) (ret := (some .boolean)) pl_X6 rfl ?_
  intro p e s m args below meth c s₁ B hml hv
  obtain ⟨rfl, hPX⟩ := hv
  have hx := B.exec
  have hb := B.bytes
  have hr := B.returns
  have hts := atoms_spec (ws := wsX6_isNo) B.pre
  have hown : s.vm.findClass RX6 = some m.cls := findClass_of_methodNamed B.named
  have hlocks := B.notSynchronized
  have hX := WM.of hPX
  have hl := lv_entry ([.int x, .int g]) (n := 2) (Nat.le_of_ble_eq_true rfl)
  rw [lg_entry_eq]
  generalize (lg_sl ([.int x, .int g]) ++ List.replicate (2 - (lg_sl ([.int x, .int g])).length) Slot.unset).toArray = ls at hl ⊢
  have hl : lv_has ls 2 [(0, .int x), (1, .int g)] := hl
  show W p l e ({ frames := 0, cells := 0, slots := 0, locals := 0 } : Room) s m ([.int x, .int g]).toArray below meth c s.heap [] 0 0 (MQ below (vp_Si (fun r => r = bI (decide (x < 0 ∨ g < x)))) ([.int x, .int g]).toArray s 0 0 (fun _ => False)) (F0 m 0 ls [])
  refine lv_iload_n hx hb dX6_isNo_0 rfl (lv_at hl 0 rfl) ?_
  refine lv_if_lt (tgt := 9) hx hb dX6_isNo_1 (by decide) (fun k_1 => ?_) (fun k_1 => ?_)
  · skip
    have h1 := k_1
    refine lv_iconst (v := nI 1) hx hb dX6_isNo_9 (by decide) ?_
    refine lv_goto (tgt := 14) hx hb dX6_isNo_10 (by decide) ?_
    exact W.zret (v := bI true) hx hb hr (bI_narrow _) (fun t9 ht9 hW9 => ⟨_, rfl, (kd_t (Or.inl h1)), ht9⟩) (fun _ h => nomatch h) dX6_isNo_14
  · skip
    have h1 := k_1
    refine lv_iload_n hx hb dX6_isNo_4 rfl (lv_at hl 0 rfl) ?_
    refine lv_iload_n hx hb dX6_isNo_5 rfl (lv_at hl 1 rfl) ?_
    refine lv_icmp_le (tgt := 13) hx hb dX6_isNo_6 (by decide) (fun k_2 => ?_) (fun k_2 => ?_)
    · skip
      have h2 := k_2
      refine lv_iconst (v := nI 0) hx hb dX6_isNo_13 (by decide) ?_
      exact W.zret (v := bI false) hx hb hr (bI_narrow _) (fun t9 ht9 hW9 => ⟨_, rfl, (kd_f (fun z => z.elim h1 (fun z2 => by rw [Int32.lt_iff_toInt_lt] at z2; rw [Int32.le_iff_toInt_le] at h2; omega))), ht9⟩) (fun _ h => nomatch h) dX6_isNo_14
    · skip
      have h2 := k_2
      refine lv_iconst (v := nI 1) hx hb dX6_isNo_9 (by decide) ?_
      refine lv_goto (tgt := 14) hx hb dX6_isNo_10 (by decide) ?_
      exact W.zret (v := bI true) hx hb hr (bI_narrow _) (fun t9 ht9 hW9 => ⟨_, rfl, (kd_t (Or.inr (by rw [Int32.lt_iff_toInt_lt]; rw [Int32.le_iff_toInt_le] at h2; omega))), ht9⟩) (fun _ h => nomatch h) dX6_isNo_14
set_option maxHeartbeats 4000000 in
set_option maxRecDepth 100000 in
theorem m_X6_isNoRow (l : Launch) (dC : Nat → ClassId) (dI : Nat → Nat → Nat) (am : Nat → Nat) (M : MS) (x : Int32) : Met l yX6_isNoRow wsX6_isNoRow ({ frames := 1, cells := 0, slots := 0, locals := 21 } : Room) (va_Pc [.int x] (PM dC dI am M)) (vp_Si (fun r => r = bI (decide (x < 0 ∨ nI 2 < x)))) 0 0 (fun _ => False) := by
  refine Met.ofW (cc := cX6_isNoRow) (maxL := 1) (ret := (some .boolean)) pl_X6 rfl ?_
  intro p e s m args below meth c s₁ B hml hv
  obtain ⟨rfl, hPX⟩ := hv
  have hx := B.exec
  have hb := B.bytes
  have hr := B.returns
  have hts := atoms_spec (ws := wsX6_isNoRow) B.pre
  have hown : s.vm.findClass RX6 = some m.cls := findClass_of_methodNamed B.named
  have hlocks := B.notSynchronized
  have hX := WM.of hPX
  have hl := lv_entry ([.int x]) (n := 1) (Nat.le_of_ble_eq_true rfl)
  rw [lg_entry_eq]
  generalize (lg_sl ([.int x]) ++ List.replicate (1 - (lg_sl ([.int x])).length) Slot.unset).toArray = ls at hl ⊢
  have hl : lv_has ls 1 [(0, .int x)] := hl
  show W p l e ({ frames := 1, cells := 0, slots := 0, locals := 21 } : Room) s m ([.int x]).toArray below meth c s.heap [] 0 0 (MQ below (vp_Si (fun r => r = bI (decide (x < 0 ∨ nI 2 < x)))) ([.int x]).toArray s 0 0 (fun _ => False)) (F0 m 0 ls [])
  refine lv_iload_n hx hb dX6_isNoRow_0 rfl (lv_at hl 0 rfl) ?_
  refine lv_iconst (v := nI 2) hx hb dX6_isNoRow_1 (by decide) ?_
  refine kx_cr (v := bI (decide (x < 0 ∨ nI 2 < x))) (va_runS (As := [.int x, .int (nI 2)]) (rest := []) ⟨hx, hb, hml, hown, hts⟩ (m_X6_isNo l dC dI am M x (nI 2)) (va_cwS 2 hts gX6_isNoRow_X6_isNo rfl rfl rfl hdX6_isNo_2.2 ⟨Nat.le_of_ble_eq_true rfl, Nat.le_of_ble_eq_true rfl⟩) hX.preS rfl rfl hl.1 rfl (lv_room (Nat.le_of_ble_eq_true rfl)) dX6_isNoRow_2 ⟨Nat.le_of_ble_eq_true rfl, Nat.le_of_ble_eq_true rfl⟩) (fun _ h => h) ?_
  exact W.zret (v := bI (decide (x < 0 ∨ nI 2 < x))) hx hb hr (bI_narrow _) (fun t9 ht9 hW9 => ⟨_, rfl, rfl, ht9⟩) (fun _ h => nomatch h) dX6_isNoRow_5
set_option maxHeartbeats 4000000 in
set_option maxRecDepth 100000 in
theorem m_X6_isNoOrder (l : Launch) (dC : Nat → ClassId) (dI : Nat → Nat → Nat) (am : Nat → Nat) (M : MS) (x : Int32) : Met l yX6_isNoOrder wsX6_isNoOrder ({ frames := 1, cells := 0, slots := 0, locals := 21 } : Room) (va_Pc [.int x] (PM dC dI am M)) (vp_Si (fun r => r = bI (decide (x < 0 ∨ nI 3 < x)))) 0 0 (fun _ => False) := by
  refine Met.ofW (cc := cX6_isNoOrder) (maxL := 1) (ret := (some .boolean)) pl_X6 rfl ?_
  intro p e s m args below meth c s₁ B hml hv
  obtain ⟨rfl, hPX⟩ := hv
  have hx := B.exec
  have hb := B.bytes
  have hr := B.returns
  have hts := atoms_spec (ws := wsX6_isNoOrder) B.pre
  have hown : s.vm.findClass RX6 = some m.cls := findClass_of_methodNamed B.named
  have hlocks := B.notSynchronized
  have hX := WM.of hPX
  have hl := lv_entry ([.int x]) (n := 1) (Nat.le_of_ble_eq_true rfl)
  rw [lg_entry_eq]
  generalize (lg_sl ([.int x]) ++ List.replicate (1 - (lg_sl ([.int x])).length) Slot.unset).toArray = ls at hl ⊢
  have hl : lv_has ls 1 [(0, .int x)] := hl
  show W p l e ({ frames := 1, cells := 0, slots := 0, locals := 21 } : Room) s m ([.int x]).toArray below meth c s.heap [] 0 0 (MQ below (vp_Si (fun r => r = bI (decide (x < 0 ∨ nI 3 < x)))) ([.int x]).toArray s 0 0 (fun _ => False)) (F0 m 0 ls [])
  refine lv_iload_n hx hb dX6_isNoOrder_0 rfl (lv_at hl 0 rfl) ?_
  refine lv_iconst (v := nI 3) hx hb dX6_isNoOrder_1 (by decide) ?_
  refine kx_cr (v := bI (decide (x < 0 ∨ nI 3 < x))) (va_runS (As := [.int x, .int (nI 3)]) (rest := []) ⟨hx, hb, hml, hown, hts⟩ (m_X6_isNo l dC dI am M x (nI 3)) (va_cwS 2 hts gX6_isNoOrder_X6_isNo rfl rfl rfl hdX6_isNo_2.2 ⟨Nat.le_of_ble_eq_true rfl, Nat.le_of_ble_eq_true rfl⟩) hX.preS rfl rfl hl.1 rfl (lv_room (Nat.le_of_ble_eq_true rfl)) dX6_isNoOrder_2 ⟨Nat.le_of_ble_eq_true rfl, Nat.le_of_ble_eq_true rfl⟩) (fun _ h => h) ?_
  exact W.zret (v := bI (decide (x < 0 ∨ nI 3 < x))) hx hb hr (bI_narrow _) (fun t9 ht9 hW9 => ⟨_, rfl, rfl, ht9⟩) (fun _ h => nomatch h) dX6_isNoOrder_5
set_option maxHeartbeats 4000000 in
set_option maxRecDepth 100000 in
theorem m_X6_isNoValue (l : Launch) (dC : Nat → ClassId) (dI : Nat → Nat → Nat) (am : Nat → Nat) (M : MS) (x : Int32) : Met l yX6_isNoValue wsX6_isNoValue ({ frames := 1, cells := 0, slots := 0, locals := 21 } : Room) (va_Pc [.int x] (PM dC dI am M)) (vp_Si (fun r => r = bI (decide (x < 0 ∨ nI 15 < x)))) 0 0 (fun _ => False) := by
  refine Met.ofW (cc := cX6_isNoValue) (maxL := 1) (ret := (some .boolean)) pl_X6 rfl ?_
  intro p e s m args below meth c s₁ B hml hv
  obtain ⟨rfl, hPX⟩ := hv
  have hx := B.exec
  have hb := B.bytes
  have hr := B.returns
  have hts := atoms_spec (ws := wsX6_isNoValue) B.pre
  have hown : s.vm.findClass RX6 = some m.cls := findClass_of_methodNamed B.named
  have hlocks := B.notSynchronized
  have hX := WM.of hPX
  have hl := lv_entry ([.int x]) (n := 1) (Nat.le_of_ble_eq_true rfl)
  rw [lg_entry_eq]
  generalize (lg_sl ([.int x]) ++ List.replicate (1 - (lg_sl ([.int x])).length) Slot.unset).toArray = ls at hl ⊢
  have hl : lv_has ls 1 [(0, .int x)] := hl
  show W p l e ({ frames := 1, cells := 0, slots := 0, locals := 21 } : Room) s m ([.int x]).toArray below meth c s.heap [] 0 0 (MQ below (vp_Si (fun r => r = bI (decide (x < 0 ∨ nI 15 < x)))) ([.int x]).toArray s 0 0 (fun _ => False)) (F0 m 0 ls [])
  refine lv_iload_n hx hb dX6_isNoValue_0 rfl (lv_at hl 0 rfl) ?_
  refine lv_bipush (v := nI 15) hx hb dX6_isNoValue_1 (by decide) ?_
  refine kx_cr (v := bI (decide (x < 0 ∨ nI 15 < x))) (va_runS (As := [.int x, .int (nI 15)]) (rest := []) ⟨hx, hb, hml, hown, hts⟩ (m_X6_isNo l dC dI am M x (nI 15)) (va_cwS 2 hts gX6_isNoValue_X6_isNo rfl rfl rfl hdX6_isNo_2.2 ⟨Nat.le_of_ble_eq_true rfl, Nat.le_of_ble_eq_true rfl⟩) hX.preS rfl rfl hl.1 rfl (lv_room (Nat.le_of_ble_eq_true rfl)) dX6_isNoValue_3 ⟨Nat.le_of_ble_eq_true rfl, Nat.le_of_ble_eq_true rfl⟩) (fun _ h => h) ?_
  exact W.zret (v := bI (decide (x < 0 ∨ nI 15 < x))) hx hb hr (bI_narrow _) (fun t9 ht9 hW9 => ⟨_, rfl, rfl, ht9⟩) (fun _ h => nomatch h) dX6_isNoValue_6
set_option maxHeartbeats 4000000 in
set_option maxRecDepth 100000 in
theorem m_X6_refuse (l : Launch) (dC : Nat → ClassId) (dI : Nat → Nat → Nat) (am : Nat → Nat) (M : MS) (z : Bool) (u : Nat) (hu : 0 < u ∧ u < 100) (ht : M.2.2.1 = 0) : Met l yX6_refuse wsX6_refuse ({ frames := 0, cells := 0, slots := 0, locals := 0 } : Room) (va_Pc [.ref (am 0), .int (bI z), .int (nI u)] (PM dC dI am M)) (va_Qi (fun r M' => r = bI z ∧ M' = mN M (cond z u 0, M.2.2.2)) (PM dC dI am) (AM am)) 0 0 (AM am) := by
  refine Met.ofW (cc := cX6_refuse) (maxL := 3) (ret := (some .boolean)) pl_X6 rfl ?_
  intro p e s m args below meth c s₁ B hml hv
  obtain ⟨rfl, hPX⟩ := hv
  have hx := B.exec
  have hb := B.bytes
  have hr := B.returns
  have hts := atoms_spec (ws := wsX6_refuse) B.pre
  have hown : s.vm.findClass RX6 = some m.cls := findClass_of_methodNamed B.named
  have hlocks := B.notSynchronized
  have hin6 : ∀ w ∈ u_ws RX6 TX6 10, w ∈ wsX6_refuse := tu 1331 (by decide +kernel) rfl
  have hX := WM.of hPX
  have hl := lv_entry ([.ref (am 0), .int (bI z), .int (nI u)]) (n := 3) (Nat.le_of_ble_eq_true rfl)
  rw [lg_entry_eq]
  generalize (lg_sl ([.ref (am 0), .int (bI z), .int (nI u)]) ++ List.replicate (3 - (lg_sl ([.ref (am 0), .int (bI z), .int (nI u)])).length) Slot.unset).toArray = ls at hl ⊢
  have hl : lv_has ls 3 [(0, .ref (am 0)), (1, .int (bI z)), (2, .int (nI u))] := hl
  show W p l e ({ frames := 0, cells := 0, slots := 0, locals := 0 } : Room) s m ([.ref (am 0), .int (bI z), .int (nI u)]).toArray below meth c s.heap [] 0 0 (MQ below (va_Qi (fun r M' => r = bI z ∧ M' = mN M (cond z u 0, M.2.2.2)) (PM dC dI am) (AM am)) ([.ref (am 0), .int (bI z), .int (nI u)]).toArray s 0 0 (AM am)) (F0 m 0 ls [])
  refine lv_iload_n hx hb dX6_refuse_0 rfl (lv_at hl 1 rfl) ?_
  refine kb_if_eq (tgt := 16) hx hb dX6_refuse_1 (by decide) (fun k_1 => ?_) (fun k_1 => ?_)
  · skip
    have hz := k_1
    refine lv_aload_n hx hb dX6_refuse_16 rfl (lv_at hl 0 rfl) ?_
    refine km_gthrown (n := M.2.2.1) hx hb hts hin6 hown hX rfl (hts (.fieldLink RX6 32 "OrderlatticeModel" "thrown" "I") (tm 693 (by decide +kernel) rfl)) dX6_refuse_17 ?_
    refine kn_if_le (tgt := 27) hx hb (by omega) dX6_refuse_20 (by decide) (fun k_2 => ?_) (fun k_2 => absurd k_2 (by omega))
    refine lv_iconst (v := nI 0) hx hb dX6_refuse_27 (by decide) ?_
    exact W.zret (v := bI false) hx hb hr (bI_narrow _) (fun t9 ht9 hW9 => ⟨⟨_, M, rfl, ⟨by rw [hz], by rw [hz]; exact mN_same ht⟩, hX.P ht9 hW9⟩, hX.2.2.2.F ht9⟩) hX.2.2.2.2.2 dX6_refuse_28
  · skip
    have hz := k_1
    refine lv_aload_n hx hb dX6_refuse_4 rfl (lv_at hl 0 rfl) ?_
    refine km_gthrown (n := M.2.2.1) hx hb hts hin6 hown hX rfl (hts (.fieldLink RX6 32 "OrderlatticeModel" "thrown" "I") (tm 693 (by decide +kernel) rfl)) dX6_refuse_5 ?_
    refine kn_if_ne (tgt := 16) hx hb (by omega) dX6_refuse_8 (by decide) (fun k_3 => absurd k_3 (by omega)) (fun k_3 => ?_)
    refine lv_aload_n hx hb dX6_refuse_11 rfl (lv_at hl 0 rfl) ?_
    refine lv_iload_n hx hb dX6_refuse_12 rfl (lv_at hl 2 rfl) ?_
    refine km_pthrown (M' := (mN M (u, M.2.2.2.1, M.2.2.2.2.1, M.2.2.2.2.2))) hx hb hts hin6 hown hX rfl (hts (.fieldLink RX6 32 "OrderlatticeModel" "thrown" "I") (tm 693 (by decide +kernel) rfl)) dX6_refuse_13 (fun H locs hX => ?_)
    refine lv_aload_n hx hb dX6_refuse_16 rfl (lv_at hl 0 rfl) ?_
    refine km_gthrown (n := u) hx hb hts hin6 hown hX rfl (hts (.fieldLink RX6 32 "OrderlatticeModel" "thrown" "I") (tm 693 (by decide +kernel) rfl)) dX6_refuse_17 ?_
    refine kn_if_le (tgt := 27) hx hb (by omega) dX6_refuse_20 (by decide) (fun k_4 => absurd k_4 (by omega)) (fun k_4 => ?_)
    refine lv_iconst (v := nI 1) hx hb dX6_refuse_23 (by decide) ?_
    refine lv_goto (tgt := 28) hx hb dX6_refuse_24 (by decide) ?_
    exact W.zret (v := bI true) hx hb hr (bI_narrow _) (fun t9 ht9 hW9 => ⟨⟨_, (mN M (u, M.2.2.2.1, M.2.2.2.2.1, M.2.2.2.2.2)), rfl, ⟨by rw [hz], by rw [hz]; rfl⟩, hX.P ht9 hW9⟩, hX.2.2.2.F ht9⟩) hX.2.2.2.2.2 dX6_refuse_28
set_option maxHeartbeats 4000000 in
set_option maxRecDepth 100000 in
theorem m_X6_start (l : Launch) (dC : Nat → ClassId) (dI : Nat → Nat → Nat) (am : Nat → Nat) (M : MS) (z : Bool) (u : Nat) (hu : 0 < u ∧ u < 100) : Met l yX6_start wsX6_start ({ frames := 1, cells := 0, slots := 0, locals := 22 } : Room) (va_Pc [.ref (am 0), .int (bI z), .int (nI u)] (PM dC dI am M)) (va_Qi (fun r M' => r = bI z ∧ M' = mN M (cond z u 0, M.2.2.2)) (PM dC dI am) (AM am)) 0 0 (AM am) := by
  refine Met.ofW (cc := cX6_start) (maxL := 3) (ret := (some .boolean)) pl_X6 rfl ?_
  intro p e s m args below meth c s₁ B hml hv
  obtain ⟨rfl, hPX⟩ := hv
  have hx := B.exec
  have hb := B.bytes
  have hr := B.returns
  have hts := atoms_spec (ws := wsX6_start) B.pre
  have hown : s.vm.findClass RX6 = some m.cls := findClass_of_methodNamed B.named
  have hlocks := B.notSynchronized
  have hin6 : ∀ w ∈ u_ws RX6 TX6 10, w ∈ wsX6_start := tu 1331 (by decide +kernel) rfl
  have hX := WM.of hPX
  have hl := lv_entry ([.ref (am 0), .int (bI z), .int (nI u)]) (n := 3) (Nat.le_of_ble_eq_true rfl)
  rw [lg_entry_eq]
  generalize (lg_sl ([.ref (am 0), .int (bI z), .int (nI u)]) ++ List.replicate (3 - (lg_sl ([.ref (am 0), .int (bI z), .int (nI u)])).length) Slot.unset).toArray = ls at hl ⊢
  have hl : lv_has ls 3 [(0, .ref (am 0)), (1, .int (bI z)), (2, .int (nI u))] := hl
  show W p l e ({ frames := 1, cells := 0, slots := 0, locals := 22 } : Room) s m ([.ref (am 0), .int (bI z), .int (nI u)]).toArray below meth c s.heap [] 0 0 (MQ below (va_Qi (fun r M' => r = bI z ∧ M' = mN M (cond z u 0, M.2.2.2)) (PM dC dI am) (AM am)) ([.ref (am 0), .int (bI z), .int (nI u)]).toArray s 0 0 (AM am)) (F0 m 0 ls [])
  refine lv_aload_n hx hb dX6_start_0 rfl (lv_at hl 0 rfl) ?_
  refine lv_iconst (v := nI 0) hx hb dX6_start_1 (by decide) ?_
  refine km_pthrown (M' := (mN M (0, M.2.2.2.1, M.2.2.2.2.1, M.2.2.2.2.2))) hx hb hts hin6 hown hX rfl (hts (.fieldLink RX6 32 "OrderlatticeModel" "thrown" "I") (tm 693 (by decide +kernel) rfl)) dX6_start_2 (fun H locs hX => ?_)
  refine lv_aload_n hx hb dX6_start_5 rfl (lv_at hl 0 rfl) ?_
  refine lv_iload_n hx hb dX6_start_6 rfl (lv_at hl 1 rfl) ?_
  refine lv_iload_n hx hb dX6_start_7 rfl (lv_at hl 2 rfl) ?_
  refine km_ci (va_runV (As := [.int (bI z), .int (nI u)]) (rest := []) ⟨hx, hb, hml, hown, hts⟩ (m_X6_refuse l dC dI am (mN M (0, M.2.2.2.1, M.2.2.2.2.1, M.2.2.2.2.2)) z u hu rfl) (cwV 2 hts gX6_start_X6_refuse rfl rfl rfl hdX6_refuse_2 ⟨Nat.le_of_ble_eq_true rfl, Nat.le_of_ble_eq_true rfl⟩) (hX.preObj) rfl rfl hl.1 rfl (lv_room (Nat.le_of_ble_eq_true rfl)) dX6_start_8 ⟨Nat.le_of_ble_eq_true rfl, Nat.le_of_ble_eq_true rfl⟩) hX (fun _ h => h) (fun r_ S_ H locs hw hX => ?_)
  obtain ⟨rfl, rfl⟩ := hw
  exact W.zret (v := bI z) hx hb hr (bI_narrow _) (fun t9 ht9 hW9 => ⟨⟨_, (mN M (cond z u 0, M.2.2.2.1, M.2.2.2.2.1, M.2.2.2.2.2)), rfl, ⟨rfl, rfl⟩, hX.P ht9 hW9⟩, hX.2.2.2.F ht9⟩) hX.2.2.2.2.2 dX6_start_11
set_option maxHeartbeats 4000000 in
set_option maxRecDepth 100000 in
theorem m_X6_no (l : Launch) (dC : Nat → ClassId) (dI : Nat → Nat → Nat) (am : Nat → Nat) (M : MS) : Met l yX6_no wsX6_no ({ frames := 0, cells := 0, slots := 0, locals := 0 } : Room) (va_Pc [.ref (am 0)] (PM dC dI am M)) (va_Qi (fun r M' => r = -9 ∧ M' = mN M (M.2.2.1, M.2.2.2.1, M.2.2.2.2.1 + 1, M.2.2.2.2.2)) (PM dC dI am) (AM am)) 0 0 (AM am) := by
  refine Met.ofW (cc := cX6_no) (maxL := 1) (ret := (some .int)) pl_X6 rfl ?_
  intro p e s m args below meth c s₁ B hml hv
  obtain ⟨rfl, hPX⟩ := hv
  have hx := B.exec
  have hb := B.bytes
  have hr := B.returns
  have hts := atoms_spec (ws := wsX6_no) B.pre
  have hown : s.vm.findClass RX6 = some m.cls := findClass_of_methodNamed B.named
  have hlocks := B.notSynchronized
  have hin6 : ∀ w ∈ u_ws RX6 TX6 10, w ∈ wsX6_no := tu 1331 (by decide +kernel) rfl
  have hX := WM.of hPX
  have hl := lv_entry ([.ref (am 0)]) (n := 1) (Nat.le_of_ble_eq_true rfl)
  rw [lg_entry_eq]
  generalize (lg_sl ([.ref (am 0)]) ++ List.replicate (1 - (lg_sl ([.ref (am 0)])).length) Slot.unset).toArray = ls at hl ⊢
  have hl : lv_has ls 1 [(0, .ref (am 0))] := hl
  show W p l e ({ frames := 0, cells := 0, slots := 0, locals := 0 } : Room) s m ([.ref (am 0)]).toArray below meth c s.heap [] 0 0 (MQ below (va_Qi (fun r M' => r = -9 ∧ M' = mN M (M.2.2.1, M.2.2.2.1, M.2.2.2.2.1 + 1, M.2.2.2.2.2)) (PM dC dI am) (AM am)) ([.ref (am 0)]).toArray s 0 0 (AM am)) (F0 m 0 ls [])
  refine lv_aload_n hx hb dX6_no_0 rfl (lv_at hl 0 rfl) ?_
  refine lv_dup hx hb dX6_no_1 rfl ?_
  refine km_grefused (n := M.2.2.2.2.1) hx hb hts hin6 hown hX rfl (hts (.fieldLink RX6 44 "OrderlatticeModel" "refused" "I") (tm 705 (by decide +kernel) rfl)) dX6_no_2 ?_
  refine lv_iconst (v := nI 1) hx hb dX6_no_5 (by decide) ?_
  refine kn_iadd hx hb dX6_no_6 ?_
  refine km_prefused (M' := (mN M (M.2.2.1, M.2.2.2.1, M.2.2.2.2.1 + 1, M.2.2.2.2.2))) hx hb hts hin6 hown hX rfl (hts (.fieldLink RX6 44 "OrderlatticeModel" "refused" "I") (tm 705 (by decide +kernel) rfl)) dX6_no_7 (fun H locs hX => ?_)
  refine lv_bipush (v := (-9)) hx hb dX6_no_10 (by decide) ?_
  exact W.iret (v := (-9)) hx hb hr (fun t9 ht9 hW9 => ⟨⟨_, (mN M (M.2.2.1, M.2.2.2.1, M.2.2.2.2.1 + 1, M.2.2.2.2.2)), rfl, ⟨rfl, rfl⟩, hX.P ht9 hW9⟩, hX.2.2.2.F ht9⟩) hX.2.2.2.2.2 dX6_no_12
set_option maxHeartbeats 4000000 in
set_option maxRecDepth 100000 in
theorem m_X6_keyNow (l : Launch) (dC : Nat → ClassId) (dI : Nat → Nat → Nat) (am : Nat → Nat) (M : MS) (k v : Nat) (hk : k < 8) (hv : v < 16) : Met l yX6_keyNow wsX6_keyNow ({ frames := 0, cells := 0, slots := 0, locals := 0 } : Room) (va_Pc [.int (nI k), .int (nI v)] (PM dC dI am M)) (vp_Si (fun r => r = nI (numK k v))) 0 0 (fun _ => False) := by
  refine Met.ofW (cc := cX6_keyNow) (maxL := 2) (ret := (some .int)) pl_X6 rfl ?_
  intro p e s m args below meth c s₁ B hml hv
  obtain ⟨rfl, hPX⟩ := hv
  have hx := B.exec
  have hb := B.bytes
  have hr := B.returns
  have hts := atoms_spec (ws := wsX6_keyNow) B.pre
  have hown : s.vm.findClass RX6 = some m.cls := findClass_of_methodNamed B.named
  have hlocks := B.notSynchronized
  have hX := WM.of hPX
  have hl := lv_entry ([.int (nI k), .int (nI v)]) (n := 2) (Nat.le_of_ble_eq_true rfl)
  rw [lg_entry_eq]
  generalize (lg_sl ([.int (nI k), .int (nI v)]) ++ List.replicate (2 - (lg_sl ([.int (nI k), .int (nI v)])).length) Slot.unset).toArray = ls at hl ⊢
  have hl : lv_has ls 2 [(0, .int (nI k)), (1, .int (nI v))] := hl
  show W p l e ({ frames := 0, cells := 0, slots := 0, locals := 0 } : Room) s m ([.int (nI k), .int (nI v)]).toArray below meth c s.heap [] 0 0 (MQ below (vp_Si (fun r => r = nI (numK k v))) ([.int (nI k), .int (nI v)]).toArray s 0 0 (fun _ => False)) (F0 m 0 ls [])
  rcases (show k = 0 ∨ k = 1 ∨ k = 2 ∨ k = 3 ∨ k = 4 ∨ k = 5 ∨ k = 6 ∨ k = 7 by omega) with rfl | rfl | rfl | rfl | rfl | rfl | rfl | rfl
  · skip
    have hl : lv_has ls 2 [(0, .int (nI 0)), (1, .int (nI v))] := hl
    refine lv_iload_n hx hb dX6_keyNow_0 rfl (lv_at hl 0 rfl) ?_
    refine lv_tableIn (x := nI 0) (off := 43) (tgt := 44) hx hb dX6_keyNow_1 (by decide) (by decide) (by decide) (by decide) ?_
    refine lv_iload_n hx hb dX6_keyNow_44 rfl (lv_at hl 1 rfl) ?_
    exact W.iret (v := nI v) hx hb hr (fun t9 ht9 hW9 => ⟨_, rfl, rfl, ht9⟩) (fun _ h => nomatch h) dX6_keyNow_45
  · skip
    have hl : lv_has ls 2 [(0, .int (nI 1)), (1, .int (nI v))] := hl
    refine lv_iload_n hx hb dX6_keyNow_0 rfl (lv_at hl 0 rfl) ?_
    refine lv_tableIn (x := nI 1) (off := 45) (tgt := 46) hx hb dX6_keyNow_1 (by decide) (by decide) (by decide) (by decide) ?_
    refine lv_iload_n hx hb dX6_keyNow_46 rfl (lv_at hl 1 rfl) ?_
    refine lv_iconst (v := nI 4) hx hb dX6_keyNow_47 (by decide) ?_
    refine kn_idiv hx hb (by omega) (by omega) (by omega) dX6_keyNow_48 ?_
    exact W.iret (v := nI (v / 4)) hx hb hr (fun t9 ht9 hW9 => ⟨_, rfl, rfl, ht9⟩) (fun _ h => nomatch h) dX6_keyNow_49
  · skip
    have hl : lv_has ls 2 [(0, .int (nI 2)), (1, .int (nI v))] := hl
    refine lv_iload_n hx hb dX6_keyNow_0 rfl (lv_at hl 0 rfl) ?_
    refine lv_tableIn (x := nI 2) (off := 49) (tgt := 50) hx hb dX6_keyNow_1 (by decide) (by decide) (by decide) (by decide) ?_
    refine lv_iload_n hx hb dX6_keyNow_50 rfl (lv_at hl 1 rfl) ?_
    refine lv_iconst (v := nI 4) hx hb dX6_keyNow_51 (by decide) ?_
    refine kn_irem hx hb (by omega) (by omega) (by omega) dX6_keyNow_52 ?_
    exact W.iret (v := nI (v % 4)) hx hb hr (fun t9 ht9 hW9 => ⟨_, rfl, rfl, ht9⟩) (fun _ h => nomatch h) dX6_keyNow_53
  · skip
    have hl : lv_has ls 2 [(0, .int (nI 3)), (1, .int (nI v))] := hl
    refine lv_iload_n hx hb dX6_keyNow_0 rfl (lv_at hl 0 rfl) ?_
    refine lv_tableIn (x := nI 3) (off := 53) (tgt := 54) hx hb dX6_keyNow_1 (by decide) (by decide) (by decide) (by decide) ?_
    refine lv_iload_n hx hb dX6_keyNow_54 rfl (lv_at hl 1 rfl) ?_
    refine lv_iconst (v := nI 2) hx hb dX6_keyNow_55 (by decide) ?_
    refine kn_irem hx hb (by omega) (by omega) (by omega) dX6_keyNow_56 ?_
    exact W.iret (v := nI (v % 2)) hx hb hr (fun t9 ht9 hW9 => ⟨_, rfl, rfl, ht9⟩) (fun _ h => nomatch h) dX6_keyNow_57
  · skip
    have hl : lv_has ls 2 [(0, .int (nI 4)), (1, .int (nI v))] := hl
    refine lv_iload_n hx hb dX6_keyNow_0 rfl (lv_at hl 0 rfl) ?_
    refine lv_tableIn (x := nI 4) (off := 57) (tgt := 58) hx hb dX6_keyNow_1 (by decide) (by decide) (by decide) (by decide) ?_
    refine lv_iload_n hx hb dX6_keyNow_58 rfl (lv_at hl 1 rfl) ?_
    refine lv_iconst (v := nI 3) hx hb dX6_keyNow_59 (by decide) ?_
    refine kn_irem hx hb (by omega) (by omega) (by omega) dX6_keyNow_60 ?_
    exact W.iret (v := nI (v % 3)) hx hb hr (fun t9 ht9 hW9 => ⟨_, rfl, rfl, ht9⟩) (fun _ h => nomatch h) dX6_keyNow_61
  · skip
    have hl : lv_has ls 2 [(0, .int (nI 5)), (1, .int (nI v))] := hl
    refine lv_iload_n hx hb dX6_keyNow_0 rfl (lv_at hl 0 rfl) ?_
    refine lv_tableIn (x := nI 5) (off := 61) (tgt := 62) hx hb dX6_keyNow_1 (by decide) (by decide) (by decide) (by decide) ?_
    refine lv_iload_n hx hb dX6_keyNow_62 rfl (lv_at hl 1 rfl) ?_
    refine lv_bipush (v := nI 8) hx hb dX6_keyNow_63 (by decide) ?_
    refine kn_icmp_ge (tgt := 75) hx hb (by omega) (by omega) dX6_keyNow_65 (by decide) (fun k_1 => ?_) (fun k_1 => ?_)
    · skip
      refine lv_iload_n hx hb dX6_keyNow_75 rfl (lv_at hl 1 rfl) ?_
      refine lv_bipush (v := nI 8) hx hb dX6_keyNow_76 (by decide) ?_
      refine kn_isub hx hb (by omega) dX6_keyNow_78 ?_
      exact W.iret (v := nI (v - 8)) hx hb hr (fun t9 ht9 hW9 => ⟨_, rfl, (by show _ = nI (if v < 8 then 7 - v else v - 8); rw [if_neg (by omega)]), ht9⟩) (fun _ h => nomatch h) dX6_keyNow_79
    · skip
      refine lv_bipush (v := nI 7) hx hb dX6_keyNow_68 (by decide) ?_
      refine lv_iload_n hx hb dX6_keyNow_70 rfl (lv_at hl 1 rfl) ?_
      refine kn_isub hx hb (by omega) dX6_keyNow_71 ?_
      refine lv_goto (tgt := 79) hx hb dX6_keyNow_72 (by decide) ?_
      exact W.iret (v := nI (7 - v)) hx hb hr (fun t9 ht9 hW9 => ⟨_, rfl, (by show _ = nI (if v < 8 then 7 - v else v - 8); rw [if_pos (by omega)]), ht9⟩) (fun _ h => nomatch h) dX6_keyNow_79
  · skip
    have hl : lv_has ls 2 [(0, .int (nI 6)), (1, .int (nI v))] := hl
    refine lv_iload_n hx hb dX6_keyNow_0 rfl (lv_at hl 0 rfl) ?_
    refine lv_tableIn (x := nI 6) (off := 79) (tgt := 80) hx hb dX6_keyNow_1 (by decide) (by decide) (by decide) (by decide) ?_
    refine lv_iload_n hx hb dX6_keyNow_80 rfl (lv_at hl 1 rfl) ?_
    refine lv_bipush (v := nI 8) hx hb dX6_keyNow_81 (by decide) ?_
    refine kn_idiv hx hb (by omega) (by omega) (by omega) dX6_keyNow_83 ?_
    refine lv_iload_n hx hb dX6_keyNow_84 rfl (lv_at hl 1 rfl) ?_
    refine lv_iconst (v := nI 4) hx hb dX6_keyNow_85 (by decide) ?_
    refine kn_idiv hx hb (by omega) (by omega) (by omega) dX6_keyNow_86 ?_
    refine lv_iconst (v := nI 2) hx hb dX6_keyNow_87 (by decide) ?_
    refine kn_irem hx hb (by omega) (by omega) (by omega) dX6_keyNow_88 ?_
    refine kn_iadd hx hb dX6_keyNow_89 ?_
    refine lv_iload_n hx hb dX6_keyNow_90 rfl (lv_at hl 1 rfl) ?_
    refine lv_iconst (v := nI 2) hx hb dX6_keyNow_91 (by decide) ?_
    refine kn_idiv hx hb (by omega) (by omega) (by omega) dX6_keyNow_92 ?_
    refine lv_iconst (v := nI 2) hx hb dX6_keyNow_93 (by decide) ?_
    refine kn_irem hx hb (by omega) (by omega) (by omega) dX6_keyNow_94 ?_
    refine kn_iadd hx hb dX6_keyNow_95 ?_
    refine lv_iload_n hx hb dX6_keyNow_96 rfl (lv_at hl 1 rfl) ?_
    refine lv_iconst (v := nI 2) hx hb dX6_keyNow_97 (by decide) ?_
    refine kn_irem hx hb (by omega) (by omega) (by omega) dX6_keyNow_98 ?_
    refine kn_iadd hx hb dX6_keyNow_99 ?_
    exact W.iret (v := nI (v / 8 + ((v / 4) % 2) + ((v / 2) % 2) + (v % 2))) hx hb hr (fun t9 ht9 hW9 => ⟨_, rfl, rfl, ht9⟩) (fun _ h => nomatch h) dX6_keyNow_100
  · skip
    have hl : lv_has ls 2 [(0, .int (nI 7)), (1, .int (nI v))] := hl
    refine lv_iload_n hx hb dX6_keyNow_0 rfl (lv_at hl 0 rfl) ?_
    refine lv_tableOut (x := nI 7) (tgt := 101) hx hb dX6_keyNow_1 (by decide) (by decide) ?_
    refine lv_iconst (v := nI 0) hx hb dX6_keyNow_101 (by decide) ?_
    exact W.iret (v := nI 0) hx hb hr (fun t9 ht9 hW9 => ⟨_, rfl, rfl, ht9⟩) (fun _ h => nomatch h) dX6_keyNow_102
set_option maxHeartbeats 4000000 in
set_option maxRecDepth 100000 in
theorem m_X6_compareNow (l : Launch) (dC : Nat → ClassId) (dI : Nat → Nat → Nat) (am : Nat → Nat) (M : MS) (j a b : Nat) (hj : j < 4) (ho : ordM (M.2.1 j)) (ha : a < 16) (hb9 : b < 16) : Met l yX6_compareNow wsX6_compareNow ({ frames := 1, cells := 0, slots := 0, locals := 21 } : Room) (va_Pc [.ref (am 0), .int (nI j), .int (nI a), .int (nI b)] (PM dC dI am M)) (vp_Si (fun r => r = cmpI (cM M j a) (cM M j b))) 0 0 (fun _ => False) := by
  refine Met.ofW (cc := cX6_compareNow) (maxL := 7) (ret := (some .int)) pl_X6 rfl ?_
  intro p e s m args below meth c s₁ B hml hv
  obtain ⟨rfl, hPX⟩ := hv
  have hx := B.exec
  have hb := B.bytes
  have hr := B.returns
  have hts := atoms_spec (ws := wsX6_compareNow) B.pre
  have hown : s.vm.findClass RX6 = some m.cls := findClass_of_methodNamed B.named
  have hlocks := B.notSynchronized
  have hin6 : ∀ w ∈ u_ws RX6 TX6 10, w ∈ wsX6_compareNow := tu 1331 (by decide +kernel) rfl
  have hX := WM.of hPX
  have hl := lv_entry ([.ref (am 0), .int (nI j), .int (nI a), .int (nI b)]) (n := 7) (Nat.le_of_ble_eq_true rfl)
  rw [lg_entry_eq]
  generalize (lg_sl ([.ref (am 0), .int (nI j), .int (nI a), .int (nI b)]) ++ List.replicate (7 - (lg_sl ([.ref (am 0), .int (nI j), .int (nI a), .int (nI b)])).length) Slot.unset).toArray = ls at hl ⊢
  have hl : lv_has ls 7 [(0, .ref (am 0)), (1, .int (nI j)), (2, .int (nI a)), (3, .int (nI b))] := hl
  show W p l e ({ frames := 1, cells := 0, slots := 0, locals := 21 } : Room) s m ([.ref (am 0), .int (nI j), .int (nI a), .int (nI b)]).toArray below meth c s.heap [] 0 0 (MQ below (vp_Si (fun r => r = cmpI (cM M j a) (cM M j b))) ([.ref (am 0), .int (nI j), .int (nI a), .int (nI b)]).toArray s 0 0 (fun _ => False)) (F0 m 0 ls [])
  have hn := ho.1
  refine lv_iconst (v := nI 0) hx hb dX6_compareNow_0 (by decide) ?_
  refine lv_istore (lv' := [(4, .int (nI 0)), (0, .ref (am 0)), (1, .int (nI j)), (2, .int (nI a)), (3, .int (nI b))]) hx hb dX6_compareNow_1 hl (by decide) rfl (fun ls hl => ?_)
  have loop3 : ∀ (fuel : Nat) (k : Nat) (hk : k ≤ (M.2.1 j).2.2) (hq : codeOf (M.2.1 j).1 (M.2.1 j).2.1 k a = codeOf (M.2.1 j).1 (M.2.1 j).2.1 k b), (M.2.1 j).2.2 - k < fuel → ∀ ls : Array Slot, lv_has ls 7 [(0, .ref (am 0)), (1, .int (nI j)), (2, .int (nI a)), (3, .int (nI b)), (4, .int (nI k))] → W p l e ({ frames := 1, cells := 0, slots := 0, locals := 21 } : Room) s m ([.ref (am 0), .int (nI j), .int (nI a), .int (nI b)]).toArray below meth c s.heap [] 0 0 (MQ below (vp_Si (fun r => r = cmpI (cM M j a) (cM M j b))) ([.ref (am 0), .int (nI j), .int (nI a), .int (nI b)]).toArray s 0 0 (fun _ => False)) (F0 m 3 ls []) := by
    intro fuel
    induction fuel with
    | zero => intro k hk hq hf; exact absurd hf (Nat.not_lt_zero _)
    | succ fuel ih3 =>
      intro k hk hq hf ls hl
      refine lv_iload hx hb dX6_compareNow_3 (lv_at hl 4 rfl) ?_
      refine lv_aload_n hx hb dX6_compareNow_5 rfl (lv_at hl 0 rfl) ?_
      refine km_gsteps hx hb hts hin6 hown hX (hts (.fieldLink RX6 29 "OrderlatticeModel" "steps" "[I") (tm 724 (by decide +kernel) rfl)) dX6_compareNow_6 ?_
      refine lv_iload_n hx hb dX6_compareNow_9 rfl (lv_at hl 1 rfl) ?_
      refine km_lt (v := (M.2.1 j).2.2) hx hb hX (by omega) rfl dX6_compareNow_10 ?_
      refine kn_icmp_ge (tgt := 87) hx hb (by omega) (by omega) dX6_compareNow_11 (by decide) (fun k_1 => ?_) (fun k_1 => ?_)
      · skip
        refine lv_iconst (v := nI 0) hx hb dX6_compareNow_87 (by decide) ?_
        exact W.iret (v := nI 0) hx hb hr (fun t9 ht9 hW9 => ⟨_, rfl, (cmpS_0 (by unfold cM; rw [show (M.2.1 j).2.2 = k by omega]; exact hq)), ht9⟩) (fun _ h => nomatch h) dX6_compareNow_88
      · skip
        have hk8 := ho.2 k (by omega)
        have hn1 := numK_lt (k := (M.2.1 j).1 k) ha
        have hn2 := numK_lt (k := (M.2.1 j).1 k) hb9
        refine lv_aload_n hx hb dX6_compareNow_14 rfl (lv_at hl 0 rfl) ?_
        refine km_gkeys hx hb hts hin6 hown hX (hts (.fieldLink RX6 21 "OrderlatticeModel" "keys" "[[I") (tm 725 (by decide +kernel) rfl)) dX6_compareNow_15 ?_
        refine lv_iload_n hx hb dX6_compareNow_18 rfl (lv_at hl 1 rfl) ?_
        refine km_ak hx hb hX (by omega) dX6_compareNow_19 ?_
        refine lv_iload hx hb dX6_compareNow_20 (lv_at hl 4 rfl) ?_
        refine km_lk (v := ((M.2.1 j).1) k) hx hb hX (by omega) (by omega) rfl dX6_compareNow_22 ?_
        refine lv_iload_n hx hb dX6_compareNow_23 rfl (lv_at hl 2 rfl) ?_
        refine kx_cr (v := nI (numK (((M.2.1 j).1) k) a)) (va_runS (As := [.int (nI (((M.2.1 j).1) k)), .int (nI a)]) (rest := []) ⟨hx, hb, hml, hown, hts⟩ (m_X6_keyNow l dC dI am M (((M.2.1 j).1) k) a (by omega) (by omega)) (va_cwS 2 hts gX6_compareNow_X6_keyNow rfl rfl rfl hdX6_keyNow_2.2 ⟨Nat.le_of_ble_eq_true rfl, Nat.le_of_ble_eq_true rfl⟩) hX.preS rfl rfl hl.1 rfl (lv_room (Nat.le_of_ble_eq_true rfl)) dX6_compareNow_24 ⟨Nat.le_of_ble_eq_true rfl, Nat.le_of_ble_eq_true rfl⟩) (fun _ h => h) ?_
        refine lv_istore (lv' := [(5, .int (nI (numK (((M.2.1 j).1) k) a))), (0, .ref (am 0)), (1, .int (nI j)), (2, .int (nI a)), (3, .int (nI b)), (4, .int (nI k))]) hx hb dX6_compareNow_27 hl (by decide) rfl (fun ls hl => ?_)
        refine lv_aload_n hx hb dX6_compareNow_29 rfl (lv_at hl 1 rfl) ?_
        refine km_gkeys hx hb hts hin6 hown hX (hts (.fieldLink RX6 21 "OrderlatticeModel" "keys" "[[I") (tm 725 (by decide +kernel) rfl)) dX6_compareNow_30 ?_
        refine lv_iload_n hx hb dX6_compareNow_33 rfl (lv_at hl 2 rfl) ?_
        refine km_ak hx hb hX (by omega) dX6_compareNow_34 ?_
        refine lv_iload hx hb dX6_compareNow_35 (lv_at hl 5 rfl) ?_
        refine km_lk (v := ((M.2.1 j).1) k) hx hb hX (by omega) (by omega) rfl dX6_compareNow_37 ?_
        refine lv_iload_n hx hb dX6_compareNow_38 rfl (lv_at hl 4 rfl) ?_
        refine kx_cr (v := nI (numK (((M.2.1 j).1) k) b)) (va_runS (As := [.int (nI (((M.2.1 j).1) k)), .int (nI b)]) (rest := []) ⟨hx, hb, hml, hown, hts⟩ (m_X6_keyNow l dC dI am M (((M.2.1 j).1) k) b (by omega) (by omega)) (va_cwS 2 hts gX6_compareNow_X6_keyNow rfl rfl rfl hdX6_keyNow_2.2 ⟨Nat.le_of_ble_eq_true rfl, Nat.le_of_ble_eq_true rfl⟩) hX.preS rfl rfl hl.1 rfl (lv_room (Nat.le_of_ble_eq_true rfl)) dX6_compareNow_39 ⟨Nat.le_of_ble_eq_true rfl, Nat.le_of_ble_eq_true rfl⟩) (fun _ h => h) ?_
        refine lv_istore (lv' := [(6, .int (nI (numK (((M.2.1 j).1) k) b))), (5, .int (nI (numK (((M.2.1 j).1) k) a))), (0, .ref (am 0)), (1, .int (nI j)), (2, .int (nI a)), (3, .int (nI b)), (4, .int (nI k))]) hx hb dX6_compareNow_42 hl (by decide) rfl (fun ls hl => ?_)
        refine lv_iload hx hb dX6_compareNow_44 (lv_at hl 1 rfl) ?_
        refine lv_iload hx hb dX6_compareNow_46 (lv_at hl 0 rfl) ?_
        refine kn_icmp_eq (tgt := 81) hx hb (by omega) (by omega) dX6_compareNow_48 (by decide) (fun k_2 => ?_) (fun k_2 => ?_)
        · skip
          have h48 := k_2
          refine lv_iinc (v := nI (k + 1)) (lv' := [(4, .int (nI (k + 1))), (6, .int (nI (numK (((M.2.1 j).1) k) b))), (5, .int (nI (numK (((M.2.1 j).1) k) a))), (0, .ref (am 0)), (1, .int (nI j)), (2, .int (nI a)), (3, .int (nI b))]) hx hb dX6_compareNow_81 hl (k := 6) rfl (nI_1 k) (by decide) rfl (fun ls hl => ?_)
          refine lv_goto (tgt := 3) hx hb dX6_compareNow_84 (by decide) ?_
          exact ih3  (k + 1) (by omega) (by rw [codeOf, codeOf, hq]; unfold digK; rw [h48]) (by omega) _ (lv_sub hl [3, 4, 5, 6, 0] rfl)
        · skip
          have h48 := k_2
          refine lv_iload hx hb dX6_compareNow_51 (lv_at hl 1 rfl) ?_
          refine lv_iload hx hb dX6_compareNow_53 (lv_at hl 0 rfl) ?_
          refine kn_icmp_ge (tgt := 62) hx hb (by omega) (by omega) dX6_compareNow_55 (by decide) (fun k_3 => ?_) (fun k_3 => ?_)
          · skip
            have h55 := k_3
            refine lv_iconst (v := bI false) hx hb dX6_compareNow_62 (by decide) ?_
            refine lv_aload_n hx hb dX6_compareNow_63 rfl (lv_at hl 2 rfl) ?_
            refine km_gdowns hx hb hts hin6 hown hX (hts (.fieldLink RX6 26 "OrderlatticeModel" "downs" "[[Z") (tm 726 (by decide +kernel) rfl)) dX6_compareNow_64 ?_
            refine lv_iload_n hx hb dX6_compareNow_67 rfl (lv_at hl 3 rfl) ?_
            refine km_ad hx hb hX (by omega) dX6_compareNow_68 ?_
            refine lv_iload hx hb dX6_compareNow_69 (lv_at hl 6 rfl) ?_
            refine km_ld (z := ((M.2.1 j).2.1) k) hx hb hX (by omega) (by omega) rfl dX6_compareNow_71 ?_
            refine lv_icmp_ne (tgt := 79) hx hb dX6_compareNow_72 (by decide) (fun k_4 => ?_) (fun k_4 => ?_)
            · skip
              have h72 := k_4
              refine lv_iconst (v := (-1)) hx hb dX6_compareNow_79 (by decide) ?_
              exact W.iret (v := (-1)) hx hb hr (fun t9 ht9 hW9 => ⟨_, rfl, (cmpS_n (by omega) ha hb9 hq h48 (fun z => h72 (congrArg bI ((decide_eq_false (by omega)).symm.trans z)))), ht9⟩) (fun _ h => nomatch h) dX6_compareNow_80
            · skip
              have h72 := k_4
              refine lv_iconst (v := nI 1) hx hb dX6_compareNow_75 (by decide) ?_
              refine lv_goto (tgt := 80) hx hb dX6_compareNow_76 (by decide) ?_
              exact W.iret (v := nI 1) hx hb hr (fun t9 ht9 hW9 => ⟨_, rfl, (cmpS_p (by omega) ha hb9 hq h48 ((decide_eq_false (by omega)).trans (bI_inj h72))), ht9⟩) (fun _ h => nomatch h) dX6_compareNow_80
          · skip
            have h55 := k_3
            refine lv_iconst (v := bI true) hx hb dX6_compareNow_58 (by decide) ?_
            refine lv_goto (tgt := 63) hx hb dX6_compareNow_59 (by decide) ?_
            refine lv_aload_n hx hb dX6_compareNow_63 rfl (lv_at hl 2 rfl) ?_
            refine km_gdowns hx hb hts hin6 hown hX (hts (.fieldLink RX6 26 "OrderlatticeModel" "downs" "[[Z") (tm 726 (by decide +kernel) rfl)) dX6_compareNow_64 ?_
            refine lv_iload_n hx hb dX6_compareNow_67 rfl (lv_at hl 3 rfl) ?_
            refine km_ad hx hb hX (by omega) dX6_compareNow_68 ?_
            refine lv_iload hx hb dX6_compareNow_69 (lv_at hl 6 rfl) ?_
            refine km_ld (z := ((M.2.1 j).2.1) k) hx hb hX (by omega) (by omega) rfl dX6_compareNow_71 ?_
            refine lv_icmp_ne (tgt := 79) hx hb dX6_compareNow_72 (by decide) (fun k_5 => ?_) (fun k_5 => ?_)
            · skip
              have h72 := k_5
              refine lv_iconst (v := (-1)) hx hb dX6_compareNow_79 (by decide) ?_
              exact W.iret (v := (-1)) hx hb hr (fun t9 ht9 hW9 => ⟨_, rfl, (cmpS_n (by omega) ha hb9 hq h48 (fun z => h72 (congrArg bI ((decide_eq_true h55).symm.trans z)))), ht9⟩) (fun _ h => nomatch h) dX6_compareNow_80
            · skip
              have h72 := k_5
              refine lv_iconst (v := nI 1) hx hb dX6_compareNow_75 (by decide) ?_
              refine lv_goto (tgt := 80) hx hb dX6_compareNow_76 (by decide) ?_
              exact W.iret (v := nI 1) hx hb hr (fun t9 ht9 hW9 => ⟨_, rfl, (cmpS_p (by omega) ha hb9 hq h48 ((decide_eq_true h55).trans (bI_inj h72))), ht9⟩) (fun _ h => nomatch h) dX6_compareNow_80
  exact loop3 ((M.2.1 j).2.2 - 0 + 1) 0 (by omega) rfl (by omega) _ (lv_sub hl [1, 2, 3, 4, 0] rfl)
set_option maxHeartbeats 4000000 in
set_option maxRecDepth 100000 in
theorem m_X6_isFirst (l : Launch) (dC : Nat → ClassId) (dI : Nat → Nat → Nat) (am : Nat → Nat) (M : MS) (j v : Nat) (hj : j < 4) (ho : ordM (M.2.1 j)) (hv : v < 16) : Met l yX6_isFirst wsX6_isFirst ({ frames := 2, cells := 0, slots := 0, locals := 47 } : Room) (va_Pc [.ref (am 0), .int (nI j), .int (nI v)] (PM dC dI am M)) (vp_Si (fun r => r = bI (headB (cM M j) v))) 0 0 (fun _ => False) := by
  refine Met.ofW (cc := cX6_isFirst) (maxL := 4) (ret := (some .boolean)) pl_X6 rfl ?_
  intro p e s m args below meth c s₁ B hml hv
  obtain ⟨rfl, hPX⟩ := hv
  have hx := B.exec
  have hb := B.bytes
  have hr := B.returns
  have hts := atoms_spec (ws := wsX6_isFirst) B.pre
  have hown : s.vm.findClass RX6 = some m.cls := findClass_of_methodNamed B.named
  have hlocks := B.notSynchronized
  have hX := WM.of hPX
  have hl := lv_entry ([.ref (am 0), .int (nI j), .int (nI v)]) (n := 4) (Nat.le_of_ble_eq_true rfl)
  rw [lg_entry_eq]
  generalize (lg_sl ([.ref (am 0), .int (nI j), .int (nI v)]) ++ List.replicate (4 - (lg_sl ([.ref (am 0), .int (nI j), .int (nI v)])).length) Slot.unset).toArray = ls at hl ⊢
  have hl : lv_has ls 4 [(0, .ref (am 0)), (1, .int (nI j)), (2, .int (nI v))] := hl
  show W p l e ({ frames := 2, cells := 0, slots := 0, locals := 47 } : Room) s m ([.ref (am 0), .int (nI j), .int (nI v)]).toArray below meth c s.heap [] 0 0 (MQ below (vp_Si (fun r => r = bI (headB (cM M j) v))) ([.ref (am 0), .int (nI j), .int (nI v)]).toArray s 0 0 (fun _ => False)) (F0 m 0 ls [])
  refine lv_iconst (v := nI 0) hx hb dX6_isFirst_0 (by decide) ?_
  refine lv_istore_n (lv' := [(3, .int (nI 0)), (0, .ref (am 0)), (1, .int (nI j)), (2, .int (nI v))]) hx hb dX6_isFirst_1 rfl hl (by decide) rfl (fun ls hl => ?_)
  have loop2 : ∀ (fuel : Nat) (k : Nat) (hk : k ≤ v) (hq : ∀ q, q < k → cM M j q ≠ cM M j v), v - k < fuel → ∀ ls : Array Slot, lv_has ls 4 [(0, .ref (am 0)), (1, .int (nI j)), (2, .int (nI v)), (3, .int (nI k))] → W p l e ({ frames := 2, cells := 0, slots := 0, locals := 47 } : Room) s m ([.ref (am 0), .int (nI j), .int (nI v)]).toArray below meth c s.heap [] 0 0 (MQ below (vp_Si (fun r => r = bI (headB (cM M j) v))) ([.ref (am 0), .int (nI j), .int (nI v)]).toArray s 0 0 (fun _ => False)) (F0 m 2 ls []) := by
    intro fuel
    induction fuel with
    | zero => intro k hk hq hf; exact absurd hf (Nat.not_lt_zero _)
    | succ fuel ih2 =>
      intro k hk hq hf ls hl
      refine lv_iload_n hx hb dX6_isFirst_2 rfl (lv_at hl 3 rfl) ?_
      refine lv_iload_n hx hb dX6_isFirst_3 rfl (lv_at hl 2 rfl) ?_
      refine kn_icmp_ge (tgt := 25) hx hb (by omega) (by omega) dX6_isFirst_4 (by decide) (fun k_1 => ?_) (fun k_1 => ?_)
      · skip
        refine lv_iconst (v := nI 1) hx hb dX6_isFirst_25 (by decide) ?_
        exact W.zret (v := bI true) hx hb hr (bI_narrow _) (fun t9 ht9 hW9 => ⟨_, rfl, (kd_t (fun q h => hq q (by omega))), ht9⟩) (fun _ h => nomatch h) dX6_isFirst_26
      · skip
        refine lv_aload_n hx hb dX6_isFirst_7 rfl (lv_at hl 0 rfl) ?_
        refine lv_iload_n hx hb dX6_isFirst_8 rfl (lv_at hl 1 rfl) ?_
        refine lv_iload_n hx hb dX6_isFirst_9 rfl (lv_at hl 3 rfl) ?_
        refine lv_iload_n hx hb dX6_isFirst_10 rfl (lv_at hl 2 rfl) ?_
        refine kx_cr (v := cmpI (cM M j k) (cM M j v)) (va_runV (As := [.int (nI j), .int (nI k), .int (nI v)]) (rest := []) ⟨hx, hb, hml, hown, hts⟩ (m_X6_compareNow l dC dI am M j k v (by omega) ho (by omega) (by omega)) (cwV 3 hts gX6_isFirst_X6_compareNow rfl rfl rfl hdX6_compareNow_3 ⟨Nat.le_of_ble_eq_true rfl, Nat.le_of_ble_eq_true rfl⟩) (hX.preObj) rfl rfl hl.1 rfl (lv_room (Nat.le_of_ble_eq_true rfl)) dX6_isFirst_11 ⟨Nat.le_of_ble_eq_true rfl, Nat.le_of_ble_eq_true rfl⟩) (fun _ h => h) ?_
        refine kc_if_ne (tgt := 19) hx hb dX6_isFirst_14 (by decide) (fun k_2 => ?_) (fun k_2 => ?_)
        · skip
          have hc := k_2
          refine lv_iinc (v := nI (k + 1)) (lv' := [(3, .int (nI (k + 1))), (0, .ref (am 0)), (1, .int (nI j)), (2, .int (nI v))]) hx hb dX6_isFirst_19 hl (k := 3) rfl (nI_1 k) (by decide) rfl (fun ls hl => ?_)
          refine lv_goto (tgt := 2) hx hb dX6_isFirst_22 (by decide) ?_
          exact ih2  (k + 1) (by omega) (lt_s hq hc) (by omega) _ (lv_sub hl [1, 2, 3, 0] rfl)
        · skip
          have hc := k_2
          refine lv_iconst (v := nI 0) hx hb dX6_isFirst_17 (by decide) ?_
          exact W.zret (v := bI false) hx hb hr (bI_narrow _) (fun t9 ht9 hW9 => ⟨_, rfl, (kd_f (fun z => z k (by omega) hc)), ht9⟩) (fun _ h => nomatch h) dX6_isFirst_18
  exact loop2 (v - 0 + 1) 0 (by omega) (fun q h => absurd h (Nat.not_lt_zero q)) (by omega) _ (lv_sub hl [1, 2, 3, 0] rfl)
set_option maxHeartbeats 4000000 in
set_option maxRecDepth 100000 in
theorem m_X6_classesNow (l : Launch) (dC : Nat → ClassId) (dI : Nat → Nat → Nat) (am : Nat → Nat) (M : MS) (j : Nat) (hj : j < 4) (ho : ordM (M.2.1 j)) : Met l yX6_classesNow wsX6_classesNow ({ frames := 3, cells := 0, slots := 0, locals := 70 } : Room) (va_Pc [.ref (am 0), .int (nI j)] (PM dC dI am M)) (vp_Si (fun r => r = nI (classC (cM M j)))) 0 0 (fun _ => False) := by
  refine Met.ofW (cc := cX6_classesNow) (maxL := 4) (ret := (some .int)) pl_X6 rfl ?_
  intro p e s m args below meth c s₁ B hml hv
  obtain ⟨rfl, hPX⟩ := hv
  have hx := B.exec
  have hb := B.bytes
  have hr := B.returns
  have hts := atoms_spec (ws := wsX6_classesNow) B.pre
  have hown : s.vm.findClass RX6 = some m.cls := findClass_of_methodNamed B.named
  have hlocks := B.notSynchronized
  have hX := WM.of hPX
  have hl := lv_entry ([.ref (am 0), .int (nI j)]) (n := 4) (Nat.le_of_ble_eq_true rfl)
  rw [lg_entry_eq]
  generalize (lg_sl ([.ref (am 0), .int (nI j)]) ++ List.replicate (4 - (lg_sl ([.ref (am 0), .int (nI j)])).length) Slot.unset).toArray = ls at hl ⊢
  have hl : lv_has ls 4 [(0, .ref (am 0)), (1, .int (nI j))] := hl
  show W p l e ({ frames := 3, cells := 0, slots := 0, locals := 70 } : Room) s m ([.ref (am 0), .int (nI j)]).toArray below meth c s.heap [] 0 0 (MQ below (vp_Si (fun r => r = nI (classC (cM M j)))) ([.ref (am 0), .int (nI j)]).toArray s 0 0 (fun _ => False)) (F0 m 0 ls [])
  refine lv_iconst (v := nI 0) hx hb dX6_classesNow_0 (by decide) ?_
  refine lv_istore_n (lv' := [(2, .int (nI 0)), (0, .ref (am 0)), (1, .int (nI j))]) hx hb dX6_classesNow_1 rfl hl (by decide) rfl (fun ls hl => ?_)
  refine lv_iconst (v := nI 0) hx hb dX6_classesNow_2 (by decide) ?_
  refine lv_istore_n (lv' := [(3, .int (nI 0)), (2, .int (nI 0)), (0, .ref (am 0)), (1, .int (nI j))]) hx hb dX6_classesNow_3 rfl hl (by decide) rfl (fun ls hl => ?_)
  have loop4 : ∀ (fuel : Nat) (q k : Nat) (hk : k ≤ 16) (hq : q = cntB (headB (cM M j)) k), 16 - k < fuel → ∀ ls : Array Slot, lv_has ls 4 [(0, .ref (am 0)), (1, .int (nI j)), (2, .int (nI q)), (3, .int (nI k))] → W p l e ({ frames := 3, cells := 0, slots := 0, locals := 70 } : Room) s m ([.ref (am 0), .int (nI j)]).toArray below meth c s.heap [] 0 0 (MQ below (vp_Si (fun r => r = nI (classC (cM M j)))) ([.ref (am 0), .int (nI j)]).toArray s 0 0 (fun _ => False)) (F0 m 4 ls []) := by
    intro fuel
    induction fuel with
    | zero => intro q k hk hq hf; exact absurd hf (Nat.not_lt_zero _)
    | succ fuel ih4 =>
      intro q k hk hq hf ls hl
      refine lv_iload_n hx hb dX6_classesNow_4 rfl (lv_at hl 3 rfl) ?_
      refine lv_bipush (v := nI 16) hx hb dX6_classesNow_5 (by decide) ?_
      refine kn_icmp_ge (tgt := 33) hx hb (by omega) (by omega) dX6_classesNow_7 (by decide) (fun k_1 => ?_) (fun k_1 => ?_)
      · skip
        refine lv_iload_n hx hb dX6_classesNow_33 rfl (lv_at hl 2 rfl) ?_
        exact W.iret (v := nI q) hx hb hr (fun t9 ht9 hW9 => ⟨_, rfl, (by rw [hq, show k = 16 by omega]; rfl), ht9⟩) (fun _ h => nomatch h) dX6_classesNow_34
      · skip
        refine lv_iload_n hx hb dX6_classesNow_10 rfl (lv_at hl 2 rfl) ?_
        refine lv_aload_n hx hb dX6_classesNow_11 rfl (lv_at hl 0 rfl) ?_
        refine lv_iload_n hx hb dX6_classesNow_12 rfl (lv_at hl 1 rfl) ?_
        refine lv_iload_n hx hb dX6_classesNow_13 rfl (lv_at hl 3 rfl) ?_
        refine kx_cr (v := bI (headB (cM M j) k)) (va_runV (As := [.int (nI j), .int (nI k)]) (rest := [.int (nI q)]) ⟨hx, hb, hml, hown, hts⟩ (m_X6_isFirst l dC dI am M j k (by omega) ho (by omega)) (cwV 2 hts gX6_classesNow_X6_isFirst rfl rfl rfl hdX6_isFirst_2 ⟨Nat.le_of_ble_eq_true rfl, Nat.le_of_ble_eq_true rfl⟩) (hX.preObj) rfl rfl hl.1 rfl (lv_room (Nat.le_of_ble_eq_true rfl)) dX6_classesNow_14 ⟨Nat.le_of_ble_eq_true rfl, Nat.le_of_ble_eq_true rfl⟩) (fun _ h => h) ?_
        refine kb_if_eq (tgt := 24) hx hb dX6_classesNow_17 (by decide) (fun k_2 => ?_) (fun k_2 => ?_)
        · skip
          have hc := k_2
          refine lv_iconst (v := nI 0) hx hb dX6_classesNow_24 (by decide) ?_
          refine kn_iadd hx hb dX6_classesNow_25 ?_
          refine lv_istore_n (lv' := [(2, .int (nI (q + 0))), (0, .ref (am 0)), (1, .int (nI j)), (3, .int (nI k))]) hx hb dX6_classesNow_26 rfl hl (by decide) rfl (fun ls hl => ?_)
          refine lv_iinc (v := nI (k + 1)) (lv' := [(3, .int (nI (k + 1))), (2, .int (nI (q + 0))), (0, .ref (am 0)), (1, .int (nI j))]) hx hb dX6_classesNow_27 hl (k := 3) rfl (nI_1 k) (by decide) rfl (fun ls hl => ?_)
          refine lv_goto (tgt := 4) hx hb dX6_classesNow_30 (by decide) ?_
          exact ih4  (q + 0) (k + 1) (by omega) (by rw [cntB_f hc, hq]; rfl) (by omega) _ (lv_sub hl [2, 3, 1, 0] rfl)
        · skip
          have hc := k_2
          refine lv_iconst (v := nI 1) hx hb dX6_classesNow_20 (by decide) ?_
          refine lv_goto (tgt := 25) hx hb dX6_classesNow_21 (by decide) ?_
          refine kn_iadd hx hb dX6_classesNow_25 ?_
          refine lv_istore_n (lv' := [(2, .int (nI (q + 1))), (0, .ref (am 0)), (1, .int (nI j)), (3, .int (nI k))]) hx hb dX6_classesNow_26 rfl hl (by decide) rfl (fun ls hl => ?_)
          refine lv_iinc (v := nI (k + 1)) (lv' := [(3, .int (nI (k + 1))), (2, .int (nI (q + 1))), (0, .ref (am 0)), (1, .int (nI j))]) hx hb dX6_classesNow_27 hl (k := 3) rfl (nI_1 k) (by decide) rfl (fun ls hl => ?_)
          refine lv_goto (tgt := 4) hx hb dX6_classesNow_30 (by decide) ?_
          exact ih4  (q + 1) (k + 1) (by omega) (by rw [cntB_t hc, hq]) (by omega) _ (lv_sub hl [2, 3, 1, 0] rfl)
  exact loop4 (16 + 1) 0 0 (by omega) rfl (by omega) _ (lv_sub hl [2, 3, 1, 0] rfl)
set_option maxHeartbeats 4000000 in
set_option maxRecDepth 100000 in
theorem m_X6_rankNow (l : Launch) (dC : Nat → ClassId) (dI : Nat → Nat → Nat) (am : Nat → Nat) (M : MS) (j v : Nat) (hj : j < 4) (ho : ordM (M.2.1 j)) (hv : v < 16) : Met l yX6_rankNow wsX6_rankNow ({ frames := 3, cells := 0, slots := 0, locals := 70 } : Room) (va_Pc [.ref (am 0), .int (nI j), .int (nI v)] (PM dC dI am M)) (vp_Si (fun r => r = nI (rankC (cM M j) v))) 0 0 (fun _ => False) := by
  refine Met.ofW (cc := cX6_rankNow) (maxL := 5) (ret := (some .int)) pl_X6 rfl ?_
  intro p e s m args below meth c s₁ B hml hv
  obtain ⟨rfl, hPX⟩ := hv
  have hx := B.exec
  have hb := B.bytes
  have hr := B.returns
  have hts := atoms_spec (ws := wsX6_rankNow) B.pre
  have hown : s.vm.findClass RX6 = some m.cls := findClass_of_methodNamed B.named
  have hlocks := B.notSynchronized
  have hX := WM.of hPX
  have hl := lv_entry ([.ref (am 0), .int (nI j), .int (nI v)]) (n := 5) (Nat.le_of_ble_eq_true rfl)
  rw [lg_entry_eq]
  generalize (lg_sl ([.ref (am 0), .int (nI j), .int (nI v)]) ++ List.replicate (5 - (lg_sl ([.ref (am 0), .int (nI j), .int (nI v)])).length) Slot.unset).toArray = ls at hl ⊢
  have hl : lv_has ls 5 [(0, .ref (am 0)), (1, .int (nI j)), (2, .int (nI v))] := hl
  show W p l e ({ frames := 3, cells := 0, slots := 0, locals := 70 } : Room) s m ([.ref (am 0), .int (nI j), .int (nI v)]).toArray below meth c s.heap [] 0 0 (MQ below (vp_Si (fun r => r = nI (rankC (cM M j) v))) ([.ref (am 0), .int (nI j), .int (nI v)]).toArray s 0 0 (fun _ => False)) (F0 m 0 ls [])
  refine lv_iconst (v := nI 0) hx hb dX6_rankNow_0 (by decide) ?_
  refine lv_istore_n (lv' := [(3, .int (nI 0)), (0, .ref (am 0)), (1, .int (nI j)), (2, .int (nI v))]) hx hb dX6_rankNow_1 rfl hl (by decide) rfl (fun ls hl => ?_)
  refine lv_iconst (v := nI 0) hx hb dX6_rankNow_2 (by decide) ?_
  refine lv_istore (lv' := [(4, .int (nI 0)), (3, .int (nI 0)), (0, .ref (am 0)), (1, .int (nI j)), (2, .int (nI v))]) hx hb dX6_rankNow_3 hl (by decide) rfl (fun ls hl => ?_)
  have loop5 : ∀ (fuel : Nat) (q k : Nat) (hk : k ≤ 16) (hq : q = cntB (fun h => headB (cM M j) h && decide (cM M j h < cM M j v)) k), 16 - k < fuel → ∀ ls : Array Slot, lv_has ls 5 [(0, .ref (am 0)), (1, .int (nI j)), (2, .int (nI v)), (3, .int (nI q)), (4, .int (nI k))] → W p l e ({ frames := 3, cells := 0, slots := 0, locals := 70 } : Room) s m ([.ref (am 0), .int (nI j), .int (nI v)]).toArray below meth c s.heap [] 0 0 (MQ below (vp_Si (fun r => r = nI (rankC (cM M j) v))) ([.ref (am 0), .int (nI j), .int (nI v)]).toArray s 0 0 (fun _ => False)) (F0 m 5 ls []) := by
    intro fuel
    induction fuel with
    | zero => intro q k hk hq hf; exact absurd hf (Nat.not_lt_zero _)
    | succ fuel ih5 =>
      intro q k hk hq hf ls hl
      refine lv_iload hx hb dX6_rankNow_5 (lv_at hl 4 rfl) ?_
      refine lv_bipush (v := nI 16) hx hb dX6_rankNow_7 (by decide) ?_
      refine kn_icmp_ge (tgt := 47) hx hb (by omega) (by omega) dX6_rankNow_9 (by decide) (fun k_1 => ?_) (fun k_1 => ?_)
      · skip
        refine lv_iload_n hx hb dX6_rankNow_47 rfl (lv_at hl 3 rfl) ?_
        exact W.iret (v := nI q) hx hb hr (fun t9 ht9 hW9 => ⟨_, rfl, (by rw [hq, show k = 16 by omega]; rfl), ht9⟩) (fun _ h => nomatch h) dX6_rankNow_48
      · skip
        refine lv_iload_n hx hb dX6_rankNow_12 rfl (lv_at hl 3 rfl) ?_
        refine lv_aload_n hx hb dX6_rankNow_13 rfl (lv_at hl 0 rfl) ?_
        refine lv_iload_n hx hb dX6_rankNow_14 rfl (lv_at hl 1 rfl) ?_
        refine lv_iload hx hb dX6_rankNow_15 (lv_at hl 4 rfl) ?_
        refine kx_cr (v := bI (headB (cM M j) k)) (va_runV (As := [.int (nI j), .int (nI k)]) (rest := [.int (nI q)]) ⟨hx, hb, hml, hown, hts⟩ (m_X6_isFirst l dC dI am M j k (by omega) ho (by omega)) (cwV 2 hts gX6_rankNow_X6_isFirst rfl rfl rfl hdX6_isFirst_2 ⟨Nat.le_of_ble_eq_true rfl, Nat.le_of_ble_eq_true rfl⟩) (hX.preObj) rfl rfl hl.1 rfl (lv_room (Nat.le_of_ble_eq_true rfl)) dX6_rankNow_17 ⟨Nat.le_of_ble_eq_true rfl, Nat.le_of_ble_eq_true rfl⟩) (fun _ h => h) ?_
        refine kb_if_eq (tgt := 38) hx hb dX6_rankNow_20 (by decide) (fun k_2 => ?_) (fun k_2 => ?_)
        · skip
          have hc := k_2
          refine lv_iconst (v := nI 0) hx hb dX6_rankNow_38 (by decide) ?_
          refine kn_iadd hx hb dX6_rankNow_39 ?_
          refine lv_istore_n (lv' := [(3, .int (nI (q + 0))), (0, .ref (am 0)), (1, .int (nI j)), (2, .int (nI v)), (4, .int (nI k))]) hx hb dX6_rankNow_40 rfl hl (by decide) rfl (fun ls hl => ?_)
          refine lv_iinc (v := nI (k + 1)) (lv' := [(4, .int (nI (k + 1))), (3, .int (nI (q + 0))), (0, .ref (am 0)), (1, .int (nI j)), (2, .int (nI v))]) hx hb dX6_rankNow_41 hl (k := 4) rfl (nI_1 k) (by decide) rfl (fun ls hl => ?_)
          refine lv_goto (tgt := 5) hx hb dX6_rankNow_44 (by decide) ?_
          exact ih5  (q + 0) (k + 1) (by omega) (by rw [cntB_f (by rw [hc, Bool.false_and]), hq]; rfl) (by omega) _ (lv_sub hl [2, 3, 4, 1, 0] rfl)
        · skip
          have hc := k_2
          refine lv_aload_n hx hb dX6_rankNow_23 rfl (lv_at hl 0 rfl) ?_
          refine lv_iload_n hx hb dX6_rankNow_24 rfl (lv_at hl 1 rfl) ?_
          refine lv_iload hx hb dX6_rankNow_25 (lv_at hl 4 rfl) ?_
          refine lv_iload_n hx hb dX6_rankNow_27 rfl (lv_at hl 2 rfl) ?_
          refine kx_cr (v := cmpI (cM M j k) (cM M j v)) (va_runV (As := [.int (nI j), .int (nI k), .int (nI v)]) (rest := [.int (nI q)]) ⟨hx, hb, hml, hown, hts⟩ (m_X6_compareNow l dC dI am M j k v (by omega) ho (by omega) (by omega)) (cwV 3 hts gX6_rankNow_X6_compareNow rfl rfl rfl hdX6_compareNow_3 ⟨Nat.le_of_ble_eq_true rfl, Nat.le_of_ble_eq_true rfl⟩) (hX.preObj) rfl rfl hl.1 rfl (lv_room (Nat.le_of_ble_eq_true rfl)) dX6_rankNow_28 ⟨Nat.le_of_ble_eq_true rfl, Nat.le_of_ble_eq_true rfl⟩) (fun _ h => h) ?_
          refine kc_if_ge (tgt := 38) hx hb dX6_rankNow_31 (by decide) (fun k_3 => ?_) (fun k_3 => ?_)
          · skip
            have hd := k_3
            refine lv_iconst (v := nI 0) hx hb dX6_rankNow_38 (by decide) ?_
            refine kn_iadd hx hb dX6_rankNow_39 ?_
            refine lv_istore_n (lv' := [(3, .int (nI (q + 0))), (0, .ref (am 0)), (1, .int (nI j)), (2, .int (nI v)), (4, .int (nI k))]) hx hb dX6_rankNow_40 rfl hl (by decide) rfl (fun ls hl => ?_)
            refine lv_iinc (v := nI (k + 1)) (lv' := [(4, .int (nI (k + 1))), (3, .int (nI (q + 0))), (0, .ref (am 0)), (1, .int (nI j)), (2, .int (nI v))]) hx hb dX6_rankNow_41 hl (k := 4) rfl (nI_1 k) (by decide) rfl (fun ls hl => ?_)
            refine lv_goto (tgt := 5) hx hb dX6_rankNow_44 (by decide) ?_
            exact ih5  (q + 0) (k + 1) (by omega) (by rw [cntB_f (by rw [hc, decide_eq_false (by omega)]; rfl), hq]; rfl) (by omega) _ (lv_sub hl [2, 3, 4, 1, 0] rfl)
          · skip
            have hd := k_3
            refine lv_iconst (v := nI 1) hx hb dX6_rankNow_34 (by decide) ?_
            refine lv_goto (tgt := 39) hx hb dX6_rankNow_35 (by decide) ?_
            refine kn_iadd hx hb dX6_rankNow_39 ?_
            refine lv_istore_n (lv' := [(3, .int (nI (q + 1))), (0, .ref (am 0)), (1, .int (nI j)), (2, .int (nI v)), (4, .int (nI k))]) hx hb dX6_rankNow_40 rfl hl (by decide) rfl (fun ls hl => ?_)
            refine lv_iinc (v := nI (k + 1)) (lv' := [(4, .int (nI (k + 1))), (3, .int (nI (q + 1))), (0, .ref (am 0)), (1, .int (nI j)), (2, .int (nI v))]) hx hb dX6_rankNow_41 hl (k := 4) rfl (nI_1 k) (by decide) rfl (fun ls hl => ?_)
            refine lv_goto (tgt := 5) hx hb dX6_rankNow_44 (by decide) ?_
            exact ih5  (q + 1) (k + 1) (by omega) (by rw [cntB_t (by rw [hc, decide_eq_true hd]; rfl), hq]) (by omega) _ (lv_sub hl [2, 3, 4, 1, 0] rfl)
  exact loop5 (16 + 1) 0 0 (by omega) rfl (by omega) _ (lv_sub hl [2, 3, 4, 1, 0] rfl)
set_option maxHeartbeats 4000000 in
set_option maxRecDepth 100000 in
theorem m_X6_isRefined (l : Launch) (dC : Nat → ClassId) (dI : Nat → Nat → Nat) (am : Nat → Nat) (M : MS) (j t : Nat) (hj : j < 4) (ht : t < 4) (ho : ordM (M.2.1 j)) (ho2 : ordM (M.2.1 t)) : Met l yX6_isRefined wsX6_isRefined ({ frames := 2, cells := 0, slots := 0, locals := 47 } : Room) (va_Pc [.ref (am 0), .int (nI j), .int (nI t)] (PM dC dI am M)) (vp_Si (fun r => r = bI (finerB (cM M j) (cM M t)))) 0 0 (fun _ => False) := by
  refine Met.ofW (cc := cX6_isRefined) (maxL := 5) (ret := (some .boolean)) pl_X6 rfl ?_
  intro p e s m args below meth c s₁ B hml hv
  obtain ⟨rfl, hPX⟩ := hv
  have hx := B.exec
  have hb := B.bytes
  have hr := B.returns
  have hts := atoms_spec (ws := wsX6_isRefined) B.pre
  have hown : s.vm.findClass RX6 = some m.cls := findClass_of_methodNamed B.named
  have hlocks := B.notSynchronized
  have hX := WM.of hPX
  have hl := lv_entry ([.ref (am 0), .int (nI j), .int (nI t)]) (n := 5) (Nat.le_of_ble_eq_true rfl)
  rw [lg_entry_eq]
  generalize (lg_sl ([.ref (am 0), .int (nI j), .int (nI t)]) ++ List.replicate (5 - (lg_sl ([.ref (am 0), .int (nI j), .int (nI t)])).length) Slot.unset).toArray = ls at hl ⊢
  have hl : lv_has ls 5 [(0, .ref (am 0)), (1, .int (nI j)), (2, .int (nI t))] := hl
  show W p l e ({ frames := 2, cells := 0, slots := 0, locals := 47 } : Room) s m ([.ref (am 0), .int (nI j), .int (nI t)]).toArray below meth c s.heap [] 0 0 (MQ below (vp_Si (fun r => r = bI (finerB (cM M j) (cM M t)))) ([.ref (am 0), .int (nI j), .int (nI t)]).toArray s 0 0 (fun _ => False)) (F0 m 0 ls [])
  refine lv_iconst (v := nI 0) hx hb dX6_isRefined_0 (by decide) ?_
  refine lv_istore_n (lv' := [(3, .int (nI 0)), (0, .ref (am 0)), (1, .int (nI j)), (2, .int (nI t))]) hx hb dX6_isRefined_1 rfl hl (by decide) rfl (fun ls hl => ?_)
  have loop2 : ∀ (fuel : Nat) (a : Nat) (ha : a ≤ 16) (hq : ∀ x, x < a → ∀ y, y < 16 → cM M t x < cM M t y → cM M j x < cM M j y), 16 - a < fuel → ∀ ls : Array Slot, lv_has ls 5 [(0, .ref (am 0)), (1, .int (nI j)), (2, .int (nI t)), (3, .int (nI a))] → W p l e ({ frames := 2, cells := 0, slots := 0, locals := 47 } : Room) s m ([.ref (am 0), .int (nI j), .int (nI t)]).toArray below meth c s.heap [] 0 0 (MQ below (vp_Si (fun r => r = bI (finerB (cM M j) (cM M t)))) ([.ref (am 0), .int (nI j), .int (nI t)]).toArray s 0 0 (fun _ => False)) (F0 m 2 ls []) := by
    intro fuel
    induction fuel with
    | zero => intro a ha hq hf; exact absurd hf (Nat.not_lt_zero _)
    | succ fuel ih2 =>
      intro a ha hq hf ls hl
      refine lv_iload_n hx hb dX6_isRefined_2 rfl (lv_at hl 3 rfl) ?_
      refine lv_bipush (v := nI 16) hx hb dX6_isRefined_3 (by decide) ?_
      refine kn_icmp_ge (tgt := 54) hx hb (by omega) (by omega) dX6_isRefined_5 (by decide) (fun k_1 => ?_) (fun k_1 => ?_)
      · skip
        refine lv_iconst (v := nI 1) hx hb dX6_isRefined_54 (by decide) ?_
        exact W.zret (v := bI true) hx hb hr (bI_narrow _) (fun t9 ht9 hW9 => ⟨_, rfl, (kd_t (fun x hx9 y hy9 => hq x (by omega) y hy9)), ht9⟩) (fun _ h => nomatch h) dX6_isRefined_55
      · skip
        refine lv_iconst (v := nI 0) hx hb dX6_isRefined_8 (by decide) ?_
        refine lv_istore (lv' := [(4, .int (nI 0)), (0, .ref (am 0)), (1, .int (nI j)), (2, .int (nI t)), (3, .int (nI a))]) hx hb dX6_isRefined_9 hl (by decide) rfl (fun ls hl => ?_)
        have loop11 : ∀ (fuel : Nat) (b : Nat) (hb3 : b ≤ 16) (hp : ∀ y, y < b → cM M t a < cM M t y → cM M j a < cM M j y), 17 - b < fuel → ∀ ls : Array Slot, lv_has ls 5 [(0, .ref (am 0)), (1, .int (nI j)), (2, .int (nI t)), (3, .int (nI a)), (4, .int (nI b))] → W p l e ({ frames := 2, cells := 0, slots := 0, locals := 47 } : Room) s m ([.ref (am 0), .int (nI j), .int (nI t)]).toArray below meth c s.heap [] 0 0 (MQ below (vp_Si (fun r => r = bI (finerB (cM M j) (cM M t)))) ([.ref (am 0), .int (nI j), .int (nI t)]).toArray s 0 0 (fun _ => False)) (F0 m 11 ls []) := by
          intro fuel
          induction fuel with
          | zero => intro b hb3 hp hf; exact absurd hf (Nat.not_lt_zero _)
          | succ fuel ih11 =>
            intro b hb3 hp hf ls hl
            refine lv_iload hx hb dX6_isRefined_11 (lv_at hl 4 rfl) ?_
            refine lv_bipush (v := nI 16) hx hb dX6_isRefined_13 (by decide) ?_
            refine kn_icmp_ge (tgt := 48) hx hb (by omega) (by omega) dX6_isRefined_15 (by decide) (fun k_2 => ?_) (fun k_2 => ?_)
            · skip
              refine lv_iinc (v := nI (a + 1)) (lv' := [(3, .int (nI (a + 1))), (0, .ref (am 0)), (1, .int (nI j)), (2, .int (nI t)), (4, .int (nI b))]) hx hb dX6_isRefined_48 hl (k := 3) rfl (nI_1 a) (by decide) rfl (fun ls hl => ?_)
              refine lv_goto (tgt := 2) hx hb dX6_isRefined_51 (by decide) ?_
              exact ih2  (a + 1) (by omega) (lt_s hq (fun y hy => hp y (by omega))) (by omega) _ (lv_sub hl [1, 2, 3, 0] rfl)
            · skip
              refine lv_aload_n hx hb dX6_isRefined_18 rfl (lv_at hl 0 rfl) ?_
              refine lv_iload_n hx hb dX6_isRefined_19 rfl (lv_at hl 2 rfl) ?_
              refine lv_iload_n hx hb dX6_isRefined_20 rfl (lv_at hl 3 rfl) ?_
              refine lv_iload hx hb dX6_isRefined_21 (lv_at hl 4 rfl) ?_
              refine kx_cr (v := cmpI (cM M t a) (cM M t b)) (va_runV (As := [.int (nI t), .int (nI a), .int (nI b)]) (rest := []) ⟨hx, hb, hml, hown, hts⟩ (m_X6_compareNow l dC dI am M t a b (by omega) ho2 (by omega) (by omega)) (cwV 3 hts gX6_isRefined_X6_compareNow rfl rfl rfl hdX6_compareNow_3 ⟨Nat.le_of_ble_eq_true rfl, Nat.le_of_ble_eq_true rfl⟩) (hX.preObj) rfl rfl hl.1 rfl (lv_room (Nat.le_of_ble_eq_true rfl)) dX6_isRefined_23 ⟨Nat.le_of_ble_eq_true rfl, Nat.le_of_ble_eq_true rfl⟩) (fun _ h => h) ?_
              refine kc_if_ge (tgt := 42) hx hb dX6_isRefined_26 (by decide) (fun k_3 => ?_) (fun k_3 => ?_)
              · skip
                have h1 := k_3
                refine lv_iinc (v := nI (b + 1)) (lv' := [(4, .int (nI (b + 1))), (0, .ref (am 0)), (1, .int (nI j)), (2, .int (nI t)), (3, .int (nI a))]) hx hb dX6_isRefined_42 hl (k := 4) rfl (nI_1 b) (by decide) rfl (fun ls hl => ?_)
                refine lv_goto (tgt := 11) hx hb dX6_isRefined_45 (by decide) ?_
                exact ih11  (b + 1) (by omega) (lt_s hp (fun h => absurd h (by omega))) (by omega) _ (lv_sub hl [1, 2, 3, 4, 0] rfl)
              · skip
                have h1 := k_3
                refine lv_aload_n hx hb dX6_isRefined_29 rfl (lv_at hl 0 rfl) ?_
                refine lv_iload_n hx hb dX6_isRefined_30 rfl (lv_at hl 1 rfl) ?_
                refine lv_iload_n hx hb dX6_isRefined_31 rfl (lv_at hl 3 rfl) ?_
                refine lv_iload hx hb dX6_isRefined_32 (lv_at hl 4 rfl) ?_
                refine kx_cr (v := cmpI (cM M j a) (cM M j b)) (va_runV (As := [.int (nI j), .int (nI a), .int (nI b)]) (rest := []) ⟨hx, hb, hml, hown, hts⟩ (m_X6_compareNow l dC dI am M j a b (by omega) ho (by omega) (by omega)) (cwV 3 hts gX6_isRefined_X6_compareNow rfl rfl rfl hdX6_compareNow_3 ⟨Nat.le_of_ble_eq_true rfl, Nat.le_of_ble_eq_true rfl⟩) (hX.preObj) rfl rfl hl.1 rfl (lv_room (Nat.le_of_ble_eq_true rfl)) dX6_isRefined_34 ⟨Nat.le_of_ble_eq_true rfl, Nat.le_of_ble_eq_true rfl⟩) (fun _ h => h) ?_
                refine kc_if_lt (tgt := 42) hx hb dX6_isRefined_37 (by decide) (fun k_4 => ?_) (fun k_4 => ?_)
                · skip
                  have h2 := k_4
                  refine lv_iinc (v := nI (b + 1)) (lv' := [(4, .int (nI (b + 1))), (0, .ref (am 0)), (1, .int (nI j)), (2, .int (nI t)), (3, .int (nI a))]) hx hb dX6_isRefined_42 hl (k := 4) rfl (nI_1 b) (by decide) rfl (fun ls hl => ?_)
                  refine lv_goto (tgt := 11) hx hb dX6_isRefined_45 (by decide) ?_
                  exact ih11  (b + 1) (by omega) (lt_s hp (fun _ => h2)) (by omega) _ (lv_sub hl [1, 2, 3, 4, 0] rfl)
                · skip
                  have h2 := k_4
                  refine lv_iconst (v := nI 0) hx hb dX6_isRefined_40 (by decide) ?_
                  exact W.zret (v := bI false) hx hb hr (bI_narrow _) (fun t9 ht9 hW9 => ⟨_, rfl, (kd_f (fun z => absurd (z a (by omega) b (by omega) h1) (by omega))), ht9⟩) (fun _ h => nomatch h) dX6_isRefined_41
        exact loop11 (17 + 1) 0 (by omega) (fun y h => absurd h (Nat.not_lt_zero y)) (by omega) _ (lv_sub hl [1, 2, 3, 4, 0] rfl)
  exact loop2 (16 + 1) 0 (by omega) (fun x h => absurd h (Nat.not_lt_zero x)) (by omega) _ (lv_sub hl [1, 2, 3, 0] rfl)
set_option maxHeartbeats 4000000 in
set_option maxRecDepth 100000 in
theorem m_X6_bothNow (l : Launch) (dC : Nat → ClassId) (dI : Nat → Nat → Nat) (am : Nat → Nat) (M : MS) (j t v u : Nat) (hj : j < 4) (ht : t < 4) (ho : ordM (M.2.1 j)) (ho2 : ordM (M.2.1 t)) (hv : v < 16) (hu : u < 16) : Met l yX6_bothNow wsX6_bothNow ({ frames := 2, cells := 0, slots := 0, locals := 47 } : Room) (va_Pc [.ref (am 0), .int (nI j), .int (nI t), .int (nI v), .int (nI u)] (PM dC dI am M)) (vp_Si (fun r => r = bothI (cM M j v) (cM M j u) (cM M t v) (cM M t u))) 0 0 (fun _ => False) := by
  refine Met.ofW (cc := cX6_bothNow) (maxL := 7) (ret := (some .int)) pl_X6 rfl ?_
  intro p e s m args below meth c s₁ B hml hv
  obtain ⟨rfl, hPX⟩ := hv
  have hx := B.exec
  have hb := B.bytes
  have hr := B.returns
  have hts := atoms_spec (ws := wsX6_bothNow) B.pre
  have hown : s.vm.findClass RX6 = some m.cls := findClass_of_methodNamed B.named
  have hlocks := B.notSynchronized
  have hX := WM.of hPX
  have hl := lv_entry ([.ref (am 0), .int (nI j), .int (nI t), .int (nI v), .int (nI u)]) (n := 7) (Nat.le_of_ble_eq_true rfl)
  rw [lg_entry_eq]
  generalize (lg_sl ([.ref (am 0), .int (nI j), .int (nI t), .int (nI v), .int (nI u)]) ++ List.replicate (7 - (lg_sl ([.ref (am 0), .int (nI j), .int (nI t), .int (nI v), .int (nI u)])).length) Slot.unset).toArray = ls at hl ⊢
  have hl : lv_has ls 7 [(0, .ref (am 0)), (1, .int (nI j)), (2, .int (nI t)), (3, .int (nI v)), (4, .int (nI u))] := hl
  show W p l e ({ frames := 2, cells := 0, slots := 0, locals := 47 } : Room) s m ([.ref (am 0), .int (nI j), .int (nI t), .int (nI v), .int (nI u)]).toArray below meth c s.heap [] 0 0 (MQ below (vp_Si (fun r => r = bothI (cM M j v) (cM M j u) (cM M t v) (cM M t u))) ([.ref (am 0), .int (nI j), .int (nI t), .int (nI v), .int (nI u)]).toArray s 0 0 (fun _ => False)) (F0 m 0 ls [])
  refine lv_aload_n hx hb dX6_bothNow_0 rfl (lv_at hl 0 rfl) ?_
  refine lv_iload_n hx hb dX6_bothNow_1 rfl (lv_at hl 1 rfl) ?_
  refine lv_iload_n hx hb dX6_bothNow_2 rfl (lv_at hl 3 rfl) ?_
  refine lv_iload hx hb dX6_bothNow_3 (lv_at hl 4 rfl) ?_
  refine kx_cr (v := cmpI (cM M j v) (cM M j u)) (va_runV (As := [.int (nI j), .int (nI v), .int (nI u)]) (rest := []) ⟨hx, hb, hml, hown, hts⟩ (m_X6_compareNow l dC dI am M j v u (by omega) ho (by omega) (by omega)) (cwV 3 hts gX6_bothNow_X6_compareNow rfl rfl rfl hdX6_compareNow_3 ⟨Nat.le_of_ble_eq_true rfl, Nat.le_of_ble_eq_true rfl⟩) (hX.preObj) rfl rfl hl.1 rfl (lv_room (Nat.le_of_ble_eq_true rfl)) dX6_bothNow_5 ⟨Nat.le_of_ble_eq_true rfl, Nat.le_of_ble_eq_true rfl⟩) (fun _ h => h) ?_
  refine lv_istore (lv' := [(5, .int (cmpI (cM M j v) (cM M j u))), (0, .ref (am 0)), (1, .int (nI j)), (2, .int (nI t)), (3, .int (nI v)), (4, .int (nI u))]) hx hb dX6_bothNow_8 hl (by decide) rfl (fun ls hl => ?_)
  refine lv_aload_n hx hb dX6_bothNow_10 rfl (lv_at hl 1 rfl) ?_
  refine lv_iload_n hx hb dX6_bothNow_11 rfl (lv_at hl 3 rfl) ?_
  refine lv_iload_n hx hb dX6_bothNow_12 rfl (lv_at hl 4 rfl) ?_
  refine lv_iload hx hb dX6_bothNow_13 (lv_at hl 5 rfl) ?_
  refine kx_cr (v := cmpI (cM M t v) (cM M t u)) (va_runV (As := [.int (nI t), .int (nI v), .int (nI u)]) (rest := []) ⟨hx, hb, hml, hown, hts⟩ (m_X6_compareNow l dC dI am M t v u (by omega) ho2 (by omega) (by omega)) (cwV 3 hts gX6_bothNow_X6_compareNow rfl rfl rfl hdX6_compareNow_3 ⟨Nat.le_of_ble_eq_true rfl, Nat.le_of_ble_eq_true rfl⟩) (hX.preObj) rfl rfl hl.1 rfl (lv_room (Nat.le_of_ble_eq_true rfl)) dX6_bothNow_15 ⟨Nat.le_of_ble_eq_true rfl, Nat.le_of_ble_eq_true rfl⟩) (fun _ h => h) ?_
  refine lv_istore (lv' := [(6, .int (cmpI (cM M t v) (cM M t u))), (5, .int (cmpI (cM M j v) (cM M j u))), (0, .ref (am 0)), (1, .int (nI j)), (2, .int (nI t)), (3, .int (nI v)), (4, .int (nI u))]) hx hb dX6_bothNow_18 hl (by decide) rfl (fun ls hl => ?_)
  refine lv_iload hx hb dX6_bothNow_20 (lv_at hl 1 rfl) ?_
  refine lv_iload hx hb dX6_bothNow_22 (lv_at hl 0 rfl) ?_
  refine lv_imul hx hb dX6_bothNow_24 ?_
  refine lv_if_ge (tgt := 32) hx hb dX6_bothNow_25 (by decide) (fun k_1 => ?_) (fun k_1 => ?_)
  · skip
    have h1 := k_1
    refine lv_iload hx hb dX6_bothNow_32 (lv_at hl 1 rfl) ?_
    refine kc_if_eq (tgt := 42) hx hb dX6_bothNow_34 (by decide) (fun k_2 => ?_) (fun k_2 => ?_)
    · skip
      have h2 := k_2
      refine lv_iload hx hb dX6_bothNow_42 (lv_at hl 0 rfl) ?_
      exact W.iret (v := cmpI (cM M t v) (cM M t u)) hx hb hr (fun t9 ht9 hW9 => ⟨_, rfl, (bothM_y h2), ht9⟩) (fun _ h => nomatch h) dX6_bothNow_44
    · skip
      have h2 := k_2
      refine lv_iload hx hb dX6_bothNow_37 (lv_at hl 1 rfl) ?_
      refine lv_goto (tgt := 44) hx hb dX6_bothNow_39 (by decide) ?_
      exact W.iret (v := cmpI (cM M j v) (cM M j u)) hx hb hr (fun t9 ht9 hW9 => ⟨_, rfl, (bothM_x h1 h2), ht9⟩) (fun _ h => nomatch h) dX6_bothNow_44
  · skip
    have h1 := k_1
    refine lv_iconst (v := nI 2) hx hb dX6_bothNow_28 (by decide) ?_
    refine lv_goto (tgt := 44) hx hb dX6_bothNow_29 (by decide) ?_
    exact W.iret (v := nI 2) hx hb hr (fun t9 ht9 hW9 => ⟨_, rfl, (bothM_2 h1), ht9⟩) (fun _ h => nomatch h) dX6_bothNow_44
set_option maxHeartbeats 4000000 in
set_option maxRecDepth 100000 in
theorem m_X6_apartNow (l : Launch) (dC : Nat → ClassId) (dI : Nat → Nat → Nat) (am : Nat → Nat) (M : MS) (j t : Nat) (hj : j < 4) (ht : t < 4) (ho : ordM (M.2.1 j)) (ho2 : ordM (M.2.1 t)) : Met l yX6_apartNow wsX6_apartNow ({ frames := 3, cells := 0, slots := 0, locals := 73 } : Room) (va_Pc [.ref (am 0), .int (nI j), .int (nI t)] (PM dC dI am M)) (vp_Si (fun r => r = nI (apartM (cM M j) (cM M t)))) 0 0 (fun _ => False) := by
  refine Met.ofW (cc := cX6_apartNow) (maxL := 6) (ret := (some .int)) pl_X6 rfl ?_
  intro p e s m args below meth c s₁ B hml hv
  obtain ⟨rfl, hPX⟩ := hv
  have hx := B.exec
  have hb := B.bytes
  have hr := B.returns
  have hts := atoms_spec (ws := wsX6_apartNow) B.pre
  have hown : s.vm.findClass RX6 = some m.cls := findClass_of_methodNamed B.named
  have hlocks := B.notSynchronized
  have hX := WM.of hPX
  have hl := lv_entry ([.ref (am 0), .int (nI j), .int (nI t)]) (n := 6) (Nat.le_of_ble_eq_true rfl)
  rw [lg_entry_eq]
  generalize (lg_sl ([.ref (am 0), .int (nI j), .int (nI t)]) ++ List.replicate (6 - (lg_sl ([.ref (am 0), .int (nI j), .int (nI t)])).length) Slot.unset).toArray = ls at hl ⊢
  have hl : lv_has ls 6 [(0, .ref (am 0)), (1, .int (nI j)), (2, .int (nI t))] := hl
  show W p l e ({ frames := 3, cells := 0, slots := 0, locals := 73 } : Room) s m ([.ref (am 0), .int (nI j), .int (nI t)]).toArray below meth c s.heap [] 0 0 (MQ below (vp_Si (fun r => r = nI (apartM (cM M j) (cM M t)))) ([.ref (am 0), .int (nI j), .int (nI t)]).toArray s 0 0 (fun _ => False)) (F0 m 0 ls [])
  refine lv_iconst (v := nI 0) hx hb dX6_apartNow_0 (by decide) ?_
  refine lv_istore_n (lv' := [(3, .int (nI 0)), (0, .ref (am 0)), (1, .int (nI j)), (2, .int (nI t))]) hx hb dX6_apartNow_1 rfl hl (by decide) rfl (fun ls hl => ?_)
  refine lv_iconst (v := nI 0) hx hb dX6_apartNow_2 (by decide) ?_
  refine lv_istore (lv' := [(4, .int (nI 0)), (3, .int (nI 0)), (0, .ref (am 0)), (1, .int (nI j)), (2, .int (nI t))]) hx hb dX6_apartNow_3 hl (by decide) rfl (fun ls hl => ?_)
  have loop5 : ∀ (fuel : Nat) (q a : Nat) (ha : a ≤ 16) (hq : q = sumN (apartF (cM M j) (cM M t)) a), 16 - a < fuel → ∀ ls : Array Slot, lv_has ls 6 [(0, .ref (am 0)), (1, .int (nI j)), (2, .int (nI t)), (3, .int (nI q)), (4, .int (nI a))] → W p l e ({ frames := 3, cells := 0, slots := 0, locals := 73 } : Room) s m ([.ref (am 0), .int (nI j), .int (nI t)]).toArray below meth c s.heap [] 0 0 (MQ below (vp_Si (fun r => r = nI (apartM (cM M j) (cM M t)))) ([.ref (am 0), .int (nI j), .int (nI t)]).toArray s 0 0 (fun _ => False)) (F0 m 5 ls []) := by
    intro fuel
    induction fuel with
    | zero => intro q a ha hq hf; exact absurd hf (Nat.not_lt_zero _)
    | succ fuel ih5 =>
      intro q a ha hq hf ls hl
      refine lv_iload hx hb dX6_apartNow_5 (lv_at hl 4 rfl) ?_
      refine lv_bipush (v := nI 16) hx hb dX6_apartNow_7 (by decide) ?_
      refine kn_icmp_ge (tgt := 56) hx hb (by omega) (by omega) dX6_apartNow_9 (by decide) (fun k_1 => ?_) (fun k_1 => ?_)
      · skip
        refine lv_iload_n hx hb dX6_apartNow_56 rfl (lv_at hl 3 rfl) ?_
        exact W.iret (v := nI q) hx hb hr (fun t9 ht9 hW9 => ⟨_, rfl, (by rw [hq, show a = 16 by omega]; rfl), ht9⟩) (fun _ h => nomatch h) dX6_apartNow_57
      · skip
        refine lv_iconst (v := nI 0) hx hb dX6_apartNow_12 (by decide) ?_
        refine lv_istore (lv' := [(5, .int (nI 0)), (0, .ref (am 0)), (1, .int (nI j)), (2, .int (nI t)), (3, .int (nI q)), (4, .int (nI a))]) hx hb dX6_apartNow_13 hl (by decide) rfl (fun ls hl => ?_)
        have loop15 : ∀ (fuel : Nat) (x b : Nat) (hb3 : b ≤ a ∧ a < 16) (hp : x = sumN (apartF (cM M j) (cM M t)) a + cntB (fun b => decide (bothI (cM M j a) (cM M j b) (cM M t a) (cM M t b) = nI 2)) b), 17 - b < fuel → ∀ ls : Array Slot, lv_has ls 6 [(0, .ref (am 0)), (1, .int (nI j)), (2, .int (nI t)), (3, .int (nI x)), (4, .int (nI a)), (5, .int (nI b))] → W p l e ({ frames := 3, cells := 0, slots := 0, locals := 73 } : Room) s m ([.ref (am 0), .int (nI j), .int (nI t)]).toArray below meth c s.heap [] 0 0 (MQ below (vp_Si (fun r => r = nI (apartM (cM M j) (cM M t)))) ([.ref (am 0), .int (nI j), .int (nI t)]).toArray s 0 0 (fun _ => False)) (F0 m 15 ls []) := by
          intro fuel
          induction fuel with
          | zero => intro x b hb3 hp hf; exact absurd hf (Nat.not_lt_zero _)
          | succ fuel ih15 =>
            intro x b hb3 hp hf ls hl
            refine lv_iload hx hb dX6_apartNow_15 (lv_at hl 5 rfl) ?_
            refine lv_iload hx hb dX6_apartNow_17 (lv_at hl 4 rfl) ?_
            refine kn_icmp_ge (tgt := 50) hx hb (by omega) (by omega) dX6_apartNow_19 (by decide) (fun k_2 => ?_) (fun k_2 => ?_)
            · skip
              refine lv_iinc (v := nI (a + 1)) (lv' := [(4, .int (nI (a + 1))), (0, .ref (am 0)), (1, .int (nI j)), (2, .int (nI t)), (3, .int (nI x)), (5, .int (nI b))]) hx hb dX6_apartNow_50 hl (k := 4) rfl (nI_1 a) (by decide) rfl (fun ls hl => ?_)
              refine lv_goto (tgt := 5) hx hb dX6_apartNow_53 (by decide) ?_
              exact ih5  x (a + 1) (by omega) (by rw [hp, show b = a by omega]; rfl) (by omega) _ (lv_sub hl [1, 2, 3, 4, 0] rfl)
            · skip
              refine lv_iload_n hx hb dX6_apartNow_22 rfl (lv_at hl 3 rfl) ?_
              refine lv_aload_n hx hb dX6_apartNow_23 rfl (lv_at hl 0 rfl) ?_
              refine lv_iload_n hx hb dX6_apartNow_24 rfl (lv_at hl 1 rfl) ?_
              refine lv_iload_n hx hb dX6_apartNow_25 rfl (lv_at hl 2 rfl) ?_
              refine lv_iload hx hb dX6_apartNow_26 (lv_at hl 4 rfl) ?_
              refine lv_iload hx hb dX6_apartNow_28 (lv_at hl 5 rfl) ?_
              refine kx_cr (v := (bothI (cM M j a) (cM M j b) (cM M t a) (cM M t b))) (va_runV (As := [.int (nI j), .int (nI t), .int (nI a), .int (nI b)]) (rest := [.int (nI x)]) ⟨hx, hb, hml, hown, hts⟩ (m_X6_bothNow l dC dI am M j t a b (by omega) (by omega) ho ho2 (by omega) (by omega)) (cwV 4 hts gX6_apartNow_X6_bothNow rfl rfl rfl hdX6_bothNow_4 ⟨Nat.le_of_ble_eq_true rfl, Nat.le_of_ble_eq_true rfl⟩) (hX.preObj) rfl rfl hl.1 rfl (lv_room (Nat.le_of_ble_eq_true rfl)) dX6_apartNow_30 ⟨Nat.le_of_ble_eq_true rfl, Nat.le_of_ble_eq_true rfl⟩) (fun _ h => h) ?_
              refine lv_iconst (v := nI 2) hx hb dX6_apartNow_33 (by decide) ?_
              refine lv_icmp_ne (tgt := 41) hx hb dX6_apartNow_34 (by decide) (fun k_3 => ?_) (fun k_3 => ?_)
              · skip
                have hc := k_3
                refine lv_iconst (v := nI 0) hx hb dX6_apartNow_41 (by decide) ?_
                refine kn_iadd hx hb dX6_apartNow_42 ?_
                refine lv_istore_n (lv' := [(3, .int (nI (x + 0))), (0, .ref (am 0)), (1, .int (nI j)), (2, .int (nI t)), (4, .int (nI a)), (5, .int (nI b))]) hx hb dX6_apartNow_43 rfl hl (by decide) rfl (fun ls hl => ?_)
                refine lv_iinc (v := nI (b + 1)) (lv' := [(5, .int (nI (b + 1))), (3, .int (nI (x + 0))), (0, .ref (am 0)), (1, .int (nI j)), (2, .int (nI t)), (4, .int (nI a))]) hx hb dX6_apartNow_44 hl (k := 5) rfl (nI_1 b) (by decide) rfl (fun ls hl => ?_)
                refine lv_goto (tgt := 15) hx hb dX6_apartNow_47 (by decide) ?_
                exact ih15  (x + 0) (b + 1) (by omega) (by rw [hp, cntB_f (decide_eq_false hc)]; rfl) (by omega) _ (lv_sub hl [2, 3, 4, 1, 5, 0] rfl)
              · skip
                have hc := k_3
                refine lv_iconst (v := nI 1) hx hb dX6_apartNow_37 (by decide) ?_
                refine lv_goto (tgt := 42) hx hb dX6_apartNow_38 (by decide) ?_
                refine kn_iadd hx hb dX6_apartNow_42 ?_
                refine lv_istore_n (lv' := [(3, .int (nI (x + 1))), (0, .ref (am 0)), (1, .int (nI j)), (2, .int (nI t)), (4, .int (nI a)), (5, .int (nI b))]) hx hb dX6_apartNow_43 rfl hl (by decide) rfl (fun ls hl => ?_)
                refine lv_iinc (v := nI (b + 1)) (lv' := [(5, .int (nI (b + 1))), (3, .int (nI (x + 1))), (0, .ref (am 0)), (1, .int (nI j)), (2, .int (nI t)), (4, .int (nI a))]) hx hb dX6_apartNow_44 hl (k := 5) rfl (nI_1 b) (by decide) rfl (fun ls hl => ?_)
                refine lv_goto (tgt := 15) hx hb dX6_apartNow_47 (by decide) ?_
                exact ih15  (x + 1) (b + 1) (by omega) (by rw [hp, cntB_t (decide_eq_true hc), Nat.add_assoc]) (by omega) _ (lv_sub hl [2, 3, 4, 1, 5, 0] rfl)
        exact loop15 (17 + 1) q 0 (by omega) (by rw [hq]; rfl) (by omega) _ (lv_sub hl [1, 2, 3, 4, 5, 0] rfl)
  exact loop5 (16 + 1) 0 0 (by omega) rfl (by omega) _ (lv_sub hl [2, 3, 4, 1, 0] rfl)
end
section
/-! the reference: rows changed -/
theorem isNo_r {x : Int32} (h : x < 0 ∨ nI 3 ≤ x) : x < 0 ∨ nI 2 < x := h.imp id (fun h => by
  rw [Int32.le_iff_toInt_le] at h
  rw [Int32.lt_iff_toInt_lt]
  rw [nI_toInt (by decide)] at *
  omega)
theorem isNo_o {x : Int32} (h : x < 0 ∨ nI 4 ≤ x) : x < 0 ∨ nI 3 < x := h.imp id (fun h => by
  rw [Int32.le_iff_toInt_le] at h
  rw [Int32.lt_iff_toInt_lt]
  rw [nI_toInt (by decide)] at *
  omega)
theorem isNo_p2 {x : Int32} {n : Nat} (h1 : 1 ≤ n) (hn : n ≤ 16) (h : x < 0 ∨ nI n ≤ x) : x < 0 ∨ nI (n - 1) < x := h.imp id (fun h => by
  rw [Int32.le_iff_toInt_le, nI_toInt (by omega)] at h
  rw [Int32.lt_iff_toInt_lt, nI_toInt (by omega)]
  omega)
theorem isNo_pl {x : Int32} {n : Nat} (hn : n ≤ 16) (h : x < 0 ∨ nI n ≤ x) : x < 0 ∨ nI n - nI 1 < x := by
  by_cases h1 : 1 ≤ n
  · rw [pk_sub h1]
    exact isNo_p2 h1 hn h
  · obtain rfl : n = 0 := by omega
    refine h.imp id (fun h => ?_)
    rw [Int32.le_iff_toInt_le, nI_toInt (by decide)] at h
    rw [Int32.lt_iff_toInt_lt, show (nI 0 - nI 1).toInt = -1 by decide]
    omega
/-- a thing placed -/
def placeM (M : MS) (i q v : Nat) : MS := mR (mN M (M.2.2.1, M.2.2.2.1 + 1, M.2.2.2.2)) i (va_up (shr (M.1 i).1 (M.1 i).2.2 q) q v, va_up (shr (M.1 i).2.1 (M.1 i).2.2 q) q M.2.2.2.1, (M.1 i).2.2 + 1)
abbrev thM (M : MS) (u : Nat) : MS := mN M (u, M.2.2.2)
abbrev refM (M : MS) : MS := mN M (0, M.2.2.2.1, M.2.2.2.2.1 + 1, M.2.2.2.2.2)
theorem placeM_mR {M : MS} {i q v : Nat} {r : RowS} : placeM (mR M i r) i q v = mR (mN M (M.2.2.1, M.2.2.2.1 + 1, M.2.2.2.2)) i (va_up (shr r.1 r.2.2 q) q v, va_up (shr r.2.1 r.2.2 q) q M.2.2.2.1, r.2.2 + 1) := by
  unfold placeM
  rw [mR_row]
  exact mR_mR (mN M (M.2.2.1, M.2.2.2.1 + 1, M.2.2.2.2)) i r _
/-- the last carried down to k -/
def car (f : Nat → Nat) (n k : Nat) : Nat → Nat := fun x => if x < k then f x else if x = k then f (n - 1) else if x < n then f (x - 1) else f x
theorem car_top {f : Nat → Nat} {n : Nat} (h : 0 < n) : car f n (n - 1) = f := by
  funext x
  unfold car
  split
  · rfl
  · split
    · rename_i h2; rw [h2]
    · rw [if_neg (by omega)]
theorem car_up {f : Nat → Nat} {n k : Nat} (h1 : 1 ≤ k) (h2 : k < n) : xch (car f n k) k (k - 1) = car f n (k - 1) := by
  funext x
  unfold xch va_up
  by_cases e : x = k - 1
  · subst e
    rw [if_pos rfl]
    unfold car
    rw [if_neg (by omega), if_pos rfl, if_neg (by omega), if_pos rfl]
  · rw [if_neg e]
    by_cases e2 : x = k
    · subst e2
      rw [if_pos rfl]
      unfold car
      rw [if_pos (by omega), if_neg (by omega), if_neg (by omega), if_pos (by omega)]
    · rw [if_neg e2]
      unfold car
      by_cases e3 : x < k
      · rw [if_pos e3, if_pos (by omega)]
      · rw [if_neg e3, if_neg e2, if_neg (show ¬ x < k - 1 by omega), if_neg e]
theorem car_lt {f : Nat → Nat} {n k b x : Nat} (hf : ∀ x, x < 12 → f x < b) (hn : n ≤ 12) (hn0 : 0 < n) (hx : x < 12) : car f n k x < b := by
  unfold car
  split
  · exact hf x hx
  · split
    · exact hf _ (by omega)
    · split
      · exact hf _ (by omega)
      · exact hf x hx
/-- r rounds -/
def rotI (f : Nat → Nat) (n : Nat) : Nat → Nat → Nat
  | 0 => f
  | r + 1 => car (rotI f n r) n 0
theorem wheel_sh (y : Int32) {n : Nat} (h0 : 0 < n) (hn : n ≤ 12) : ∃ sh, sh < n ∧ y - y / nI n * nI n + nI n - (y - y / nI n * nI n + nI n) / nI n * nI n = nI sh := by
  have hN : (nI n).toInt = n := nI_toInt (by omega)
  have h1 : (y - y / nI n * nI n).toInt = y.toInt.tmod n := by rw [rem_toInt, hN]
  have hlo : -(n : Int) < y.toInt.tmod n := by have := Int.lt_tmod_of_pos y.toInt (show (0 : Int) < n by omega); omega
  have hhi : y.toInt.tmod n < n := Int.tmod_lt_of_pos _ (by omega)
  have h2 : (y - y / nI n * nI n + nI n).toInt = y.toInt.tmod n + n := by
    rw [Int32.toInt_add, h1, hN]
    exact Int.bmod_eq_of_le (by omega) (by omega)
  have h3 : (y - y / nI n * nI n + nI n - (y - y / nI n * nI n + nI n) / nI n * nI n).toInt = (y.toInt.tmod n + n).tmod n := by rw [rem_toInt, h2, hN]
  have h5 : 0 ≤ (y.toInt.tmod n + n).tmod n := Int.tmod_nonneg _ (by omega)
  have h6 : (y.toInt.tmod n + n).tmod n < n := Int.tmod_lt_of_pos _ (by omega)
  refine ⟨((y.toInt.tmod n + n).tmod n).toNat, by omega, ?_⟩
  apply Int32.toInt_inj.mp
  rw [h3, nI_toInt (by omega)]
  omega
/-! neighbours changed in rounds -/
abbrev PR : Type := (Nat → Nat) × (Nat → Nat)
def swp (c : Nat → Nat) (p : PR) (k : Nat) : PR := if c (p.1 (k + 1)) < c (p.1 k) then (xch p.1 k (k + 1), xch p.2 k (k + 1)) else p
def passN (c : Nat → Nat) (f : Nat) (p : PR) : Nat → PR
  | 0 => p
  | a + 1 => swp c (passN c f p a) (f + a)
def rndN (c : Nat → Nat) (f w : Nat) (p : PR) : Nat → PR
  | 0 => p
  | r + 1 => passN c f (rndN c f w p r) w
def prOK (p : PR) : Prop := ∀ k, k < 12 → p.1 k < 16 ∧ p.2 k < 1000000
theorem xchM_lt {f : Nat → Nat} {a b m : Nat} (h : ∀ k, k < 12 → f k < m) (ha : a < 12) (hb : b < 12) : ∀ k, k < 12 → xch f a b k < m := fun k hk => by
  unfold xch va_up
  split
  · exact h a ha
  · split
    · exact h b hb
    · exact h k hk
theorem prOK_x {p : PR} {a b : Nat} (h : prOK p) (ha : a < 12) (hb : b < 12) : prOK (xch p.1 a b, xch p.2 a b) := fun k hk => ⟨xchM_lt (fun k hk => (h k hk).1) ha hb k hk, xchM_lt (fun k hk => (h k hk).2) ha hb k hk⟩
theorem prOK_swp {c : Nat → Nat} {p : PR} {k : Nat} (h : prOK p) (hk : k + 1 < 12) : prOK (swp c p k) := by
  unfold swp
  split
  · exact prOK_x h (by omega) hk
  · exact h
theorem prOK_pass {c : Nat → Nat} {f : Nat} {p : PR} (h : prOK p) : ∀ a, f + a < 12 → prOK (passN c f p a)
  | 0, _ => h
  | a + 1, ha => prOK_swp (prOK_pass h a (by omega)) (by omega)
theorem prOK_rnd {c : Nat → Nat} {f w : Nat} {p : PR} (h : prOK p) (hw : f + w < 12 ∨ w = 0) : ∀ r, prOK (rndN c f w p r)
  | 0 => h
  | r + 1 => by
    rcases hw with hw | hw
    · exact prOK_pass (prOK_rnd h (Or.inl hw) r) w hw
    · subst hw
      exact prOK_rnd h (Or.inr rfl) r
theorem swp_t {c : Nat → Nat} {p : PR} {k : Nat} (h : c (p.1 (k + 1)) < c (p.1 k)) : swp c p k = (xch p.1 k (k + 1), xch p.2 k (k + 1)) := if_pos h
theorem swp_f {c : Nat → Nat} {p : PR} {k : Nat} (h : ¬ c (p.1 (k + 1)) < c (p.1 k)) : swp c p k = p := if_neg h
theorem fill_step {M : MS} {V Mk src : Nat → Nat} {n p a i v : Nat} (hv : v = src a) {x y : Nat} : placeM (mR (mN M (0, p + a, x, y)) i (apn V src n a, apn Mk (fun x => p + x) n a, n + a)) i (n + a) v = mR (mN M (0, p + (a + 1), x, y)) i (apn V src n (a + 1), apn Mk (fun x => p + x) n (a + 1), n + (a + 1)) := by
  rw [placeM_mR]
  dsimp only
  rw [shr_n, shr_n, hv, apn_up]
  have e : va_up (apn Mk (fun x => p + x) n a) (n + a) (p + a) = apn Mk (fun x => p + x) n (a + 1) := apn_up Mk (fun x => p + x) n a
  show mR (mN M (0, p + a + 1, x, y)) i (apn V src n (a + 1), va_up (apn Mk (fun x => p + x) n a) (n + a) (p + a), n + a + 1) = _
  rw [e]
  rfl
theorem copy_size (M : MS) (i i2 : Nat) (f g : Nat → Nat) {n0 : Nat × Nat × Nat × Nat} : ((mR (mN M n0) i2 (f, g, (M.1 i2).2.2)).1 i).2.2 = (M.1 i).2.2 := by
  by_cases h : i = i2
  · subst h; rw [mR_row]
  · rw [mR_ne _ _ h]; rfl
theorem copy_v (M : MS) (i i2 a : Nat) (g : Nat → Nat) (n : Nat) {n0 : Nat × Nat × Nat × Nat} : ((mR (mN M n0) i2 (ovl (M.1 i).1 (M.1 i2).1 a, g, n)).1 i).1 a = (M.1 i).1 a := by
  by_cases h : i = i2
  · subst h; rw [mR_row]; exact ovl_out (Nat.le_refl a)
  · rw [mR_ne _ _ h]; rfl
theorem copy_m (M : MS) (i i2 a : Nat) (f : Nat → Nat) (n : Nat) {n0 : Nat × Nat × Nat × Nat} : ((mR (mN M n0) i2 (f, ovl (M.1 i).2.1 (M.1 i2).2.1 a, n)).1 i).2.1 a = (M.1 i).2.1 a := by
  by_cases h : i = i2
  · subst h; rw [mR_row]; exact ovl_out (Nat.le_refl a)
  · rw [mR_ne _ _ h]; rfl
set_option maxHeartbeats 4000000 in
set_option maxRecDepth 100000 in
theorem m_X6_at (l : Launch) (dC : Nat → ClassId) (dI : Nat → Nat → Nat) (am : Nat → Nat) (M : MS) (i q v : Nat) (hi : i < 3) (hn : (M.1 i).2.2 < 12) (hq : q ≤ (M.1 i).2.2) : Met l yX6_at wsX6_at ({ frames := 0, cells := 0, slots := 0, locals := 0 } : Room) (va_Pc [.ref (am 0), .int (nI i), .int (nI q), .int (nI v)] (PM dC dI am M)) (va_Qi (fun r M' => r = nI M.2.2.2.1 ∧ M' = placeM M i q v) (PM dC dI am) (AM am)) 0 0 (AM am) := by
  refine Met.ofW (cc := cX6_at) (maxL := 5) (ret := (some .int)) pl_X6 rfl ?_
  intro p e s m args below meth c s₁ B hml hv
  obtain ⟨rfl, hPX⟩ := hv
  have hx := B.exec
  have hb := B.bytes
  have hr := B.returns
  have hts := atoms_spec (ws := wsX6_at) B.pre
  have hown : s.vm.findClass RX6 = some m.cls := findClass_of_methodNamed B.named
  have hlocks := B.notSynchronized
  have hin6 : ∀ w ∈ u_ws RX6 TX6 10, w ∈ wsX6_at := tu 1331 (by decide +kernel) rfl
  have hX := WM.of hPX
  have hl := lv_entry ([.ref (am 0), .int (nI i), .int (nI q), .int (nI v)]) (n := 5) (Nat.le_of_ble_eq_true rfl)
  rw [lg_entry_eq]
  generalize (lg_sl ([.ref (am 0), .int (nI i), .int (nI q), .int (nI v)]) ++ List.replicate (5 - (lg_sl ([.ref (am 0), .int (nI i), .int (nI q), .int (nI v)])).length) Slot.unset).toArray = ls at hl ⊢
  have hl : lv_has ls 5 [(0, .ref (am 0)), (1, .int (nI i)), (2, .int (nI q)), (3, .int (nI v))] := hl
  show W p l e ({ frames := 0, cells := 0, slots := 0, locals := 0 } : Room) s m ([.ref (am 0), .int (nI i), .int (nI q), .int (nI v)]).toArray below meth c s.heap [] 0 0 (MQ below (va_Qi (fun r M' => r = nI M.2.2.2.1 ∧ M' = placeM M i q v) (PM dC dI am) (AM am)) ([.ref (am 0), .int (nI i), .int (nI q), .int (nI v)]).toArray s 0 0 (AM am)) (F0 m 0 ls [])
  refine lv_aload_n hx hb dX6_at_0 rfl (lv_at hl 0 rfl) ?_
  refine km_gsizes hx hb hts hin6 hown hX (hts (.fieldLink RX6 17 "OrderlatticeModel" "sizes" "[I") (tm 681 (by decide +kernel) rfl)) dX6_at_1 ?_
  refine lv_iload_n hx hb dX6_at_4 rfl (lv_at hl 1 rfl) ?_
  refine km_lz (v := (M.1 i).2.2) hx hb hX (by omega) rfl dX6_at_5 ?_
  refine lv_istore (lv' := [(4, .int (nI ((M.1 i).2.2))), (0, .ref (am 0)), (1, .int (nI i)), (2, .int (nI q)), (3, .int (nI v))]) hx hb dX6_at_6 hl (by decide) rfl (fun ls hl => ?_)
  have loop8 : ∀ (fuel : Nat) (a : Nat) (ha : q ≤ a ∧ a ≤ (M.1 i).2.2) (H : Heap) (locs : List Loc), a < fuel → WM dC dI am (mR M i (shr (M.1 i).1 (M.1 i).2.2 a, shr (M.1 i).2.1 (M.1 i).2.2 a, (M.1 i).2.2)) [] (AM am) s H locs → ∀ ls : Array Slot, lv_has ls 5 [(0, .ref (am 0)), (1, .int (nI i)), (2, .int (nI q)), (3, .int (nI v)), (4, .int (nI a))] → W p l e ({ frames := 0, cells := 0, slots := 0, locals := 0 } : Room) s m ([.ref (am 0), .int (nI i), .int (nI q), .int (nI v)]).toArray below meth c H locs 0 0 (MQ below (va_Qi (fun r M' => r = nI M.2.2.2.1 ∧ M' = placeM M i q v) (PM dC dI am) (AM am)) ([.ref (am 0), .int (nI i), .int (nI q), .int (nI v)]).toArray s 0 0 (AM am)) (F0 m 8 ls []) := by
    intro fuel
    induction fuel with
    | zero => intro a ha H locs hf; exact absurd hf (Nat.not_lt_zero _)
    | succ fuel ih8 =>
      intro a ha H locs hf hX ls hl
      refine lv_iload hx hb dX6_at_8 (lv_at hl 4 rfl) ?_
      refine lv_iload_n hx hb dX6_at_10 rfl (lv_at hl 2 rfl) ?_
      refine kn_icmp_le (tgt := 60) hx hb (by omega) (by omega) dX6_at_11 (by decide) (fun k_1 => ?_) (fun k_1 => ?_)
      · skip
        refine lv_aload_n hx hb dX6_at_60 rfl (lv_at hl 0 rfl) ?_
        refine km_gvalues hx hb hts hin6 hown hX (hts (.fieldLink RX6 11 "OrderlatticeModel" "values" "[[I") (tm 710 (by decide +kernel) rfl)) dX6_at_61 ?_
        refine lv_iload_n hx hb dX6_at_64 rfl (lv_at hl 1 rfl) ?_
        refine km_av hx hb hX (by omega) dX6_at_65 ?_
        refine lv_iload_n hx hb dX6_at_66 rfl (lv_at hl 2 rfl) ?_
        refine lv_iload_n hx hb dX6_at_67 rfl (lv_at hl 3 rfl) ?_
        refine km_sv (M' := (mR M i (va_up (shr (M.1 i).1 (M.1 i).2.2 a) q v, shr (M.1 i).2.1 (M.1 i).2.2 a, (M.1 i).2.2))) hx hb hX (by omega) (by omega) (by rw [mR_row, mR_mR]) dX6_at_68 (fun H locs hX => ?_)
        refine lv_aload_n hx hb dX6_at_69 rfl (lv_at hl 0 rfl) ?_
        refine km_gmarks hx hb hts hin6 hown hX (hts (.fieldLink RX6 14 "OrderlatticeModel" "marks" "[[I") (tm 711 (by decide +kernel) rfl)) dX6_at_70 ?_
        refine lv_iload_n hx hb dX6_at_73 rfl (lv_at hl 1 rfl) ?_
        refine km_am hx hb hX (by omega) dX6_at_74 ?_
        refine lv_iload_n hx hb dX6_at_75 rfl (lv_at hl 2 rfl) ?_
        refine lv_aload_n hx hb dX6_at_76 rfl (lv_at hl 0 rfl) ?_
        refine km_gput (n := M.2.2.2.1) hx hb hts hin6 hown hX rfl (hts (.fieldLink RX6 62 "OrderlatticeModel" "put" "I") (tm 712 (by decide +kernel) rfl)) dX6_at_77 ?_
        refine km_sm (M' := (mR M i (va_up (shr (M.1 i).1 (M.1 i).2.2 a) q v, va_up (shr (M.1 i).2.1 (M.1 i).2.2 a) q M.2.2.2.1, (M.1 i).2.2))) hx hb hX (by omega) (by omega) (by rw [mR_row, mR_mR]) dX6_at_80 (fun H locs hX => ?_)
        refine lv_aload_n hx hb dX6_at_81 rfl (lv_at hl 0 rfl) ?_
        refine km_gsizes hx hb hts hin6 hown hX (hts (.fieldLink RX6 17 "OrderlatticeModel" "sizes" "[I") (tm 681 (by decide +kernel) rfl)) dX6_at_82 ?_
        refine lv_iload_n hx hb dX6_at_85 rfl (lv_at hl 1 rfl) ?_
        refine lv_dup2_11 hx hb dX6_at_86 rfl rfl ?_
        refine km_lz (v := (M.1 i).2.2) hx hb hX (by omega) (by rw [mR_row] <;> rfl) dX6_at_87 ?_
        refine lv_iconst (v := nI 1) hx hb dX6_at_88 (by decide) ?_
        refine kn_iadd hx hb dX6_at_89 ?_
        refine km_sz (M' := (mR M i (va_up (shr (M.1 i).1 (M.1 i).2.2 a) q v, va_up (shr (M.1 i).2.1 (M.1 i).2.2 a) q M.2.2.2.1, (M.1 i).2.2 + 1))) hx hb hX  (by omega) (by rw [mR_row, mR_mR]) dX6_at_90 (fun H locs hX => ?_)
        refine lv_aload_n hx hb dX6_at_91 rfl (lv_at hl 0 rfl) ?_
        refine lv_dup hx hb dX6_at_92 rfl ?_
        refine km_gput (n := M.2.2.2.1) hx hb hts hin6 hown hX rfl (hts (.fieldLink RX6 62 "OrderlatticeModel" "put" "I") (tm 712 (by decide +kernel) rfl)) dX6_at_93 ?_
        refine lv_iconst (v := nI 1) hx hb dX6_at_96 (by decide) ?_
        refine kn_iadd hx hb dX6_at_97 ?_
        refine km_pput (M' := (mR (mN M (M.2.2.1, M.2.2.2.1 + 1, M.2.2.2.2.1, M.2.2.2.2.2)) i (va_up (shr (M.1 i).1 (M.1 i).2.2 a) q v, va_up (shr (M.1 i).2.1 (M.1 i).2.2 a) q M.2.2.2.1, (M.1 i).2.2 + 1))) hx hb hts hin6 hown hX rfl (hts (.fieldLink RX6 62 "OrderlatticeModel" "put" "I") (tm 712 (by decide +kernel) rfl)) dX6_at_98 (fun H locs hX => ?_)
        refine lv_aload_n hx hb dX6_at_101 rfl (lv_at hl 0 rfl) ?_
        refine km_gput (n := M.2.2.2.1 + 1) hx hb hts hin6 hown hX rfl (hts (.fieldLink RX6 62 "OrderlatticeModel" "put" "I") (tm 712 (by decide +kernel) rfl)) dX6_at_102 ?_
        refine lv_iconst (v := nI 1) hx hb dX6_at_105 (by decide) ?_
        refine kn_isub hx hb (by omega) dX6_at_106 ?_
        exact W.iret (v := nI ((M.2.2.2.1 + 1) - 1)) hx hb hr (fun t9 ht9 hW9 => ⟨⟨_, (mR (mN M (M.2.2.1, M.2.2.2.1 + 1, M.2.2.2.2.1, M.2.2.2.2.2)) i (va_up (shr (M.1 i).1 (M.1 i).2.2 a) q v, va_up (shr (M.1 i).2.1 (M.1 i).2.2 a) q M.2.2.2.1, (M.1 i).2.2 + 1)), rfl, ⟨rfl, by rw [show a = q by omega]; rfl⟩, hX.P ht9 hW9⟩, hX.2.2.2.F ht9⟩) hX.2.2.2.2.2 dX6_at_107
      · skip
        refine lv_aload_n hx hb dX6_at_14 rfl (lv_at hl 0 rfl) ?_
        refine km_gvalues hx hb hts hin6 hown hX (hts (.fieldLink RX6 11 "OrderlatticeModel" "values" "[[I") (tm 710 (by decide +kernel) rfl)) dX6_at_15 ?_
        refine lv_iload_n hx hb dX6_at_18 rfl (lv_at hl 1 rfl) ?_
        refine km_av hx hb hX (by omega) dX6_at_19 ?_
        refine lv_iload hx hb dX6_at_20 (lv_at hl 4 rfl) ?_
        refine lv_aload_n hx hb dX6_at_22 rfl (lv_at hl 0 rfl) ?_
        refine km_gvalues hx hb hts hin6 hown hX (hts (.fieldLink RX6 11 "OrderlatticeModel" "values" "[[I") (tm 710 (by decide +kernel) rfl)) dX6_at_23 ?_
        refine lv_iload_n hx hb dX6_at_26 rfl (lv_at hl 1 rfl) ?_
        refine km_av hx hb hX (by omega) dX6_at_27 ?_
        refine lv_iload hx hb dX6_at_28 (lv_at hl 4 rfl) ?_
        refine lv_iconst (v := nI 1) hx hb dX6_at_30 (by decide) ?_
        refine kn_isub hx hb (by omega) dX6_at_31 ?_
        refine km_lv (v := (M.1 i).1 (a - 1)) hx hb hX (by omega) (by omega) (by rw [mR_row]; exact shr_lo _ (by omega)) dX6_at_32 ?_
        refine km_sv (M' := (mR M i (va_up (shr (M.1 i).1 (M.1 i).2.2 a) a ((M.1 i).1 (a - 1)), shr (M.1 i).2.1 (M.1 i).2.2 a, (M.1 i).2.2))) hx hb hX (by omega) (by omega) (by rw [mR_row, mR_mR]) dX6_at_33 (fun H locs hX => ?_)
        refine lv_aload_n hx hb dX6_at_34 rfl (lv_at hl 0 rfl) ?_
        refine km_gmarks hx hb hts hin6 hown hX (hts (.fieldLink RX6 14 "OrderlatticeModel" "marks" "[[I") (tm 711 (by decide +kernel) rfl)) dX6_at_35 ?_
        refine lv_iload_n hx hb dX6_at_38 rfl (lv_at hl 1 rfl) ?_
        refine km_am hx hb hX (by omega) dX6_at_39 ?_
        refine lv_iload hx hb dX6_at_40 (lv_at hl 4 rfl) ?_
        refine lv_aload_n hx hb dX6_at_42 rfl (lv_at hl 0 rfl) ?_
        refine km_gmarks hx hb hts hin6 hown hX (hts (.fieldLink RX6 14 "OrderlatticeModel" "marks" "[[I") (tm 711 (by decide +kernel) rfl)) dX6_at_43 ?_
        refine lv_iload_n hx hb dX6_at_46 rfl (lv_at hl 1 rfl) ?_
        refine km_am hx hb hX (by omega) dX6_at_47 ?_
        refine lv_iload hx hb dX6_at_48 (lv_at hl 4 rfl) ?_
        refine lv_iconst (v := nI 1) hx hb dX6_at_50 (by decide) ?_
        refine kn_isub hx hb (by omega) dX6_at_51 ?_
        refine km_lm (v := (M.1 i).2.1 (a - 1)) hx hb hX (by omega) (by omega) (by rw [mR_row]; exact shr_lo _ (by omega)) dX6_at_52 ?_
        refine km_sm (M' := (mR M i (va_up (shr (M.1 i).1 (M.1 i).2.2 a) a ((M.1 i).1 (a - 1)), va_up (shr (M.1 i).2.1 (M.1 i).2.2 a) a ((M.1 i).2.1 (a - 1)), (M.1 i).2.2))) hx hb hX (by omega) (by omega) (by rw [mR_row, mR_mR]) dX6_at_53 (fun H locs hX => ?_)
        refine lv_iinc (v := nI (a - 1)) (lv' := [(4, .int (nI (a - 1))), (0, .ref (am 0)), (1, .int (nI i)), (2, .int (nI q)), (3, .int (nI v))]) hx hb dX6_at_54 hl (k := 4) rfl (kn_dec (by omega)) (by decide) rfl (fun ls hl => ?_)
        refine lv_goto (tgt := 8) hx hb dX6_at_57 (by decide) ?_
        exact ih8  (a - 1) (by omega) _ _ (by omega) (WM.eqS (by rw [shr_up _ (by omega) (by omega), shr_up _ (by omega) (by omega)]) hX) _ (lv_sub hl [1, 2, 3, 4, 0] rfl)
  exact loop8 ((M.1 i).2.2 + 1) ((M.1 i).2.2) (by omega) _ _ (by omega) (WM.eqS (by rw [shr_n, shr_n]; exact (mR_self M i).symm) hX) _ (lv_sub hl [1, 2, 3, 4, 0] rfl)
set_option maxHeartbeats 4000000 in
set_option maxRecDepth 100000 in
theorem m_X6_change (l : Launch) (dC : Nat → ClassId) (dI : Nat → Nat → Nat) (am : Nat → Nat) (M : MS) (i a b : Nat) (hi : i < 3) (ha : a < 12) (hb9 : b < 12) : Met l yX6_change wsX6_change ({ frames := 0, cells := 0, slots := 0, locals := 0 } : Room) (va_Pc [.ref (am 0), .int (nI i), .int (nI a), .int (nI b)] (PM dC dI am M)) (va_Qv (fun M' => M' = mR M i (xch (M.1 i).1 a b, xch (M.1 i).2.1 a b, (M.1 i).2.2)) (PM dC dI am) (AM am)) 0 0 (AM am) := by
  refine Met.ofW (cc := cX6_change) (maxL := 6) (ret := none) pl_X6 rfl ?_
  intro p e s m args below meth c s₁ B hml hv
  obtain ⟨rfl, hPX⟩ := hv
  have hx := B.exec
  have hb := B.bytes
  have hr := B.returns
  have hts := atoms_spec (ws := wsX6_change) B.pre
  have hown : s.vm.findClass RX6 = some m.cls := findClass_of_methodNamed B.named
  have hlocks := B.notSynchronized
  have hin6 : ∀ w ∈ u_ws RX6 TX6 10, w ∈ wsX6_change := tu 1331 (by decide +kernel) rfl
  have hX := WM.of hPX
  have hl := lv_entry ([.ref (am 0), .int (nI i), .int (nI a), .int (nI b)]) (n := 6) (Nat.le_of_ble_eq_true rfl)
  rw [lg_entry_eq]
  generalize (lg_sl ([.ref (am 0), .int (nI i), .int (nI a), .int (nI b)]) ++ List.replicate (6 - (lg_sl ([.ref (am 0), .int (nI i), .int (nI a), .int (nI b)])).length) Slot.unset).toArray = ls at hl ⊢
  have hl : lv_has ls 6 [(0, .ref (am 0)), (1, .int (nI i)), (2, .int (nI a)), (3, .int (nI b))] := hl
  show W p l e ({ frames := 0, cells := 0, slots := 0, locals := 0 } : Room) s m ([.ref (am 0), .int (nI i), .int (nI a), .int (nI b)]).toArray below meth c s.heap [] 0 0 (MQ below (va_Qv (fun M' => M' = mR M i (xch (M.1 i).1 a b, xch (M.1 i).2.1 a b, (M.1 i).2.2)) (PM dC dI am) (AM am)) ([.ref (am 0), .int (nI i), .int (nI a), .int (nI b)]).toArray s 0 0 (AM am)) (F0 m 0 ls [])
  refine lv_aload_n hx hb dX6_change_0 rfl (lv_at hl 0 rfl) ?_
  refine km_gvalues hx hb hts hin6 hown hX (hts (.fieldLink RX6 11 "OrderlatticeModel" "values" "[[I") (tm 710 (by decide +kernel) rfl)) dX6_change_1 ?_
  refine lv_iload_n hx hb dX6_change_4 rfl (lv_at hl 1 rfl) ?_
  refine km_av hx hb hX (by omega) dX6_change_5 ?_
  refine lv_iload_n hx hb dX6_change_6 rfl (lv_at hl 2 rfl) ?_
  refine km_lv (v := ((M.1 i).1) a) hx hb hX (by omega) (by omega) rfl dX6_change_7 ?_
  refine lv_istore (lv' := [(4, .int (nI (((M.1 i).1) a))), (0, .ref (am 0)), (1, .int (nI i)), (2, .int (nI a)), (3, .int (nI b))]) hx hb dX6_change_8 hl (by decide) rfl (fun ls hl => ?_)
  refine lv_aload_n hx hb dX6_change_10 rfl (lv_at hl 1 rfl) ?_
  refine km_gmarks hx hb hts hin6 hown hX (hts (.fieldLink RX6 14 "OrderlatticeModel" "marks" "[[I") (tm 711 (by decide +kernel) rfl)) dX6_change_11 ?_
  refine lv_iload_n hx hb dX6_change_14 rfl (lv_at hl 2 rfl) ?_
  refine km_am hx hb hX (by omega) dX6_change_15 ?_
  refine lv_iload_n hx hb dX6_change_16 rfl (lv_at hl 3 rfl) ?_
  refine km_lm (v := ((M.1 i).2.1) a) hx hb hX (by omega) (by omega) rfl dX6_change_17 ?_
  refine lv_istore (lv' := [(5, .int (nI (((M.1 i).2.1) a))), (4, .int (nI (((M.1 i).1) a))), (0, .ref (am 0)), (1, .int (nI i)), (2, .int (nI a)), (3, .int (nI b))]) hx hb dX6_change_18 hl (by decide) rfl (fun ls hl => ?_)
  refine lv_aload_n hx hb dX6_change_20 rfl (lv_at hl 2 rfl) ?_
  refine km_gvalues hx hb hts hin6 hown hX (hts (.fieldLink RX6 11 "OrderlatticeModel" "values" "[[I") (tm 710 (by decide +kernel) rfl)) dX6_change_21 ?_
  refine lv_iload_n hx hb dX6_change_24 rfl (lv_at hl 3 rfl) ?_
  refine km_av hx hb hX (by omega) dX6_change_25 ?_
  refine lv_iload_n hx hb dX6_change_26 rfl (lv_at hl 4 rfl) ?_
  refine lv_aload_n hx hb dX6_change_27 rfl (lv_at hl 2 rfl) ?_
  refine km_gvalues hx hb hts hin6 hown hX (hts (.fieldLink RX6 11 "OrderlatticeModel" "values" "[[I") (tm 710 (by decide +kernel) rfl)) dX6_change_28 ?_
  refine lv_iload_n hx hb dX6_change_31 rfl (lv_at hl 3 rfl) ?_
  refine km_av hx hb hX (by omega) dX6_change_32 ?_
  refine lv_iload_n hx hb dX6_change_33 rfl (lv_at hl 5 rfl) ?_
  refine km_lv (v := ((M.1 i).1) b) hx hb hX (by omega) (by omega) rfl dX6_change_34 ?_
  refine km_sv (M' := (mR M i (va_up ((M.1 i).1) a (((M.1 i).1) b), (M.1 i).2.1, (M.1 i).2.2))) hx hb hX (by omega) (by omega) rfl dX6_change_35 (fun H locs hX => ?_)
  refine lv_aload_n hx hb dX6_change_36 rfl (lv_at hl 2 rfl) ?_
  refine km_gmarks hx hb hts hin6 hown hX (hts (.fieldLink RX6 14 "OrderlatticeModel" "marks" "[[I") (tm 711 (by decide +kernel) rfl)) dX6_change_37 ?_
  refine lv_iload_n hx hb dX6_change_40 rfl (lv_at hl 3 rfl) ?_
  refine km_am hx hb hX (by omega) dX6_change_41 ?_
  refine lv_iload_n hx hb dX6_change_42 rfl (lv_at hl 4 rfl) ?_
  refine lv_aload_n hx hb dX6_change_43 rfl (lv_at hl 2 rfl) ?_
  refine km_gmarks hx hb hts hin6 hown hX (hts (.fieldLink RX6 14 "OrderlatticeModel" "marks" "[[I") (tm 711 (by decide +kernel) rfl)) dX6_change_44 ?_
  refine lv_iload_n hx hb dX6_change_47 rfl (lv_at hl 3 rfl) ?_
  refine km_am hx hb hX (by omega) dX6_change_48 ?_
  refine lv_iload_n hx hb dX6_change_49 rfl (lv_at hl 5 rfl) ?_
  refine km_lm (v := ((M.1 i).2.1) b) hx hb hX (by omega) (by omega) (by rw [mR_row] <;> rfl) dX6_change_50 ?_
  refine km_sm (M' := (mR M i (va_up ((M.1 i).1) a (((M.1 i).1) b), va_up ((M.1 i).2.1) a (((M.1 i).2.1) b), (M.1 i).2.2))) hx hb hX (by omega) (by omega) (by rw [mR_row, mR_mR]) dX6_change_51 (fun H locs hX => ?_)
  refine lv_aload_n hx hb dX6_change_52 rfl (lv_at hl 2 rfl) ?_
  refine km_gvalues hx hb hts hin6 hown hX (hts (.fieldLink RX6 11 "OrderlatticeModel" "values" "[[I") (tm 710 (by decide +kernel) rfl)) dX6_change_53 ?_
  refine lv_iload_n hx hb dX6_change_56 rfl (lv_at hl 3 rfl) ?_
  refine km_av hx hb hX (by omega) dX6_change_57 ?_
  refine lv_iload_n hx hb dX6_change_58 rfl (lv_at hl 5 rfl) ?_
  refine lv_iload hx hb dX6_change_59 (lv_at hl 1 rfl) ?_
  refine km_sv (M' := (mR M i (va_up (va_up ((M.1 i).1) a (((M.1 i).1) b)) b (((M.1 i).1) a), va_up ((M.1 i).2.1) a (((M.1 i).2.1) b), (M.1 i).2.2))) hx hb hX (by omega) (by omega) (by rw [mR_row, mR_mR]) dX6_change_61 (fun H locs hX => ?_)
  refine lv_aload_n hx hb dX6_change_62 rfl (lv_at hl 2 rfl) ?_
  refine km_gmarks hx hb hts hin6 hown hX (hts (.fieldLink RX6 14 "OrderlatticeModel" "marks" "[[I") (tm 711 (by decide +kernel) rfl)) dX6_change_63 ?_
  refine lv_iload_n hx hb dX6_change_66 rfl (lv_at hl 3 rfl) ?_
  refine km_am hx hb hX (by omega) dX6_change_67 ?_
  refine lv_iload_n hx hb dX6_change_68 rfl (lv_at hl 5 rfl) ?_
  refine lv_iload hx hb dX6_change_69 (lv_at hl 0 rfl) ?_
  refine km_sm (M' := (mR M i (va_up (va_up ((M.1 i).1) a (((M.1 i).1) b)) b (((M.1 i).1) a), va_up (va_up ((M.1 i).2.1) a (((M.1 i).2.1) b)) b (((M.1 i).2.1) a), (M.1 i).2.2))) hx hb hX (by omega) (by omega) (by rw [mR_row, mR_mR]) dX6_change_71 (fun H locs hX => ?_)
  exact W.vret hx hb hr (fun t9 ht9 hW9 => ⟨⟨(mR M i (va_up (va_up ((M.1 i).1) a (((M.1 i).1) b)) b (((M.1 i).1) a), va_up (va_up ((M.1 i).2.1) a (((M.1 i).2.1) b)) b (((M.1 i).2.1) a), (M.1 i).2.2)), rfl, rfl, hX.P ht9 hW9⟩, hX.2.2.2.F ht9⟩) hX.2.2.2.2.2 dX6_change_72
set_option maxHeartbeats 4000000 in
set_option maxRecDepth 100000 in
theorem m_X6_put (l : Launch) (dC : Nat → ClassId) (dI : Nat → Nat → Nat) (am : Nat → Nat) (M : MS) (i : Nat) (v : Nat) (hi : i < 3) (hv : v < 16) (hI : InvM M) : Met l yX6_put wsX6_put ({ frames := 2, cells := 0, slots := 0, locals := 44 } : Room) (va_Pc [.ref (am 0), .int (nI i), .int (nI v)] (PM dC dI am M)) (va_Qi (fun r M' => ((M.1 i).2.2 < 12 ∧ r = nI M.2.2.2.1 ∧ M' = placeM (thM M 0) i ((M.1 i).2.2) v) ∨ (12 ≤ (M.1 i).2.2 ∧ r = -9 ∧ M' = refM M)) (PM dC dI am) (AM am)) 0 0 (AM am) := by
  refine Met.ofW (cc := cX6_put) (maxL := 3) (ret := (some .int)) pl_X6 rfl ?_
  intro p e s m args below meth c s₁ B hml hv
  obtain ⟨rfl, hPX⟩ := hv
  have hx := B.exec
  have hb := B.bytes
  have hr := B.returns
  have hts := atoms_spec (ws := wsX6_put) B.pre
  have hown : s.vm.findClass RX6 = some m.cls := findClass_of_methodNamed B.named
  have hlocks := B.notSynchronized
  have hin6 : ∀ w ∈ u_ws RX6 TX6 10, w ∈ wsX6_put := tu 1331 (by decide +kernel) rfl
  have hX := WM.of hPX
  have hl := lv_entry ([.ref (am 0), .int (nI i), .int (nI v)]) (n := 3) (Nat.le_of_ble_eq_true rfl)
  rw [lg_entry_eq]
  generalize (lg_sl ([.ref (am 0), .int (nI i), .int (nI v)]) ++ List.replicate (3 - (lg_sl ([.ref (am 0), .int (nI i), .int (nI v)])).length) Slot.unset).toArray = ls at hl ⊢
  have hl : lv_has ls 3 [(0, .ref (am 0)), (1, .int (nI i)), (2, .int (nI v))] := hl
  show W p l e ({ frames := 2, cells := 0, slots := 0, locals := 44 } : Room) s m ([.ref (am 0), .int (nI i), .int (nI v)]).toArray below meth c s.heap [] 0 0 (MQ below (va_Qi (fun r M' => ((M.1 i).2.2 < 12 ∧ r = nI M.2.2.2.1 ∧ M' = placeM (thM M 0) i ((M.1 i).2.2) v) ∨ (12 ≤ (M.1 i).2.2 ∧ r = -9 ∧ M' = refM M)) (PM dC dI am) (AM am)) ([.ref (am 0), .int (nI i), .int (nI v)]).toArray s 0 0 (AM am)) (F0 m 0 ls [])
  have hn := (hI.1 i (by omega)).1
  refine lv_aload_n hx hb dX6_put_0 rfl (lv_at hl 0 rfl) ?_
  refine lv_iload_n hx hb dX6_put_1 rfl (lv_at hl 1 rfl) ?_
  refine kx_cr (v := bI false) (va_runS (As := [.int (nI i)]) (rest := [.ref (am 0)]) ⟨hx, hb, hml, hown, hts⟩ (m_X6_isNoRow l dC dI am M (nI i)) (va_cwS 1 hts gX6_put_X6_isNoRow rfl rfl rfl hdX6_isNoRow_1.2 ⟨Nat.le_of_ble_eq_true rfl, Nat.le_of_ble_eq_true rfl⟩) hX.preS rfl rfl hl.1 rfl (lv_room (Nat.le_of_ble_eq_true rfl)) dX6_put_2 ⟨Nat.le_of_ble_eq_true rfl, Nat.le_of_ble_eq_true rfl⟩) (fun _ h => h.trans (isNo_ok (by omega) (by omega))) ?_
  refine lv_iconst (v := nI 1) hx hb dX6_put_5 (by decide) ?_
  refine km_ci (va_runV (As := [.int (bI false), .int (nI 1)]) (rest := []) ⟨hx, hb, hml, hown, hts⟩ (m_X6_start l dC dI am M false 1 (by omega)) (cwV 2 hts gX6_put_X6_start rfl rfl rfl hdX6_start_2 ⟨Nat.le_of_ble_eq_true rfl, Nat.le_of_ble_eq_true rfl⟩) (hX.preObj) rfl rfl hl.1 rfl (lv_room (Nat.le_of_ble_eq_true rfl)) dX6_put_6 ⟨Nat.le_of_ble_eq_true rfl, Nat.le_of_ble_eq_true rfl⟩) hX (fun _ h => h) (fun r_ S_ H locs hw hX => ?_)
  obtain ⟨rfl, rfl⟩ := hw
  refine kb_if_ne (tgt := 24) hx hb dX6_put_9 (by decide) (fun k_1 => absurd k_1 (by decide)) (fun k_1 => ?_)
  refine lv_aload_n hx hb dX6_put_12 rfl (lv_at hl 0 rfl) ?_
  refine lv_iload_n hx hb dX6_put_13 rfl (lv_at hl 2 rfl) ?_
  refine kx_cr (v := bI false) (va_runS (As := [.int (nI v)]) (rest := [.ref (am 0)]) ⟨hx, hb, hml, hown, hts⟩ (m_X6_isNoValue l dC dI am (mN M (0, M.2.2.2.1, M.2.2.2.2.1, M.2.2.2.2.2)) (nI v)) (va_cwS 1 hts gX6_put_X6_isNoValue rfl rfl rfl hdX6_isNoValue_1.2 ⟨Nat.le_of_ble_eq_true rfl, Nat.le_of_ble_eq_true rfl⟩) hX.preS rfl rfl hl.1 rfl (lv_room (Nat.le_of_ble_eq_true rfl)) dX6_put_14 ⟨Nat.le_of_ble_eq_true rfl, Nat.le_of_ble_eq_true rfl⟩) (fun _ h => h.trans (isNo_ok (by omega) (by omega))) ?_
  refine lv_iconst (v := nI 2) hx hb dX6_put_17 (by decide) ?_
  refine km_ci (va_runV (As := [.int (bI false), .int (nI 2)]) (rest := []) ⟨hx, hb, hml, hown, hts⟩ (m_X6_refuse l dC dI am (mN M (0, M.2.2.2.1, M.2.2.2.2.1, M.2.2.2.2.2)) false 2 (by omega) rfl) (cwV 2 hts gX6_put_X6_refuse rfl rfl rfl hdX6_refuse_2 ⟨Nat.le_of_ble_eq_true rfl, Nat.le_of_ble_eq_true rfl⟩) (hX.preObj) rfl rfl hl.1 rfl (lv_room (Nat.le_of_ble_eq_true rfl)) dX6_put_18 ⟨Nat.le_of_ble_eq_true rfl, Nat.le_of_ble_eq_true rfl⟩) hX (fun _ h => h) (fun r_ S_ H locs hw hX => ?_)
  obtain ⟨rfl, rfl⟩ := hw
  refine kb_if_eq (tgt := 26) hx hb dX6_put_21 (by decide) (fun k_2 => ?_) (fun k_2 => absurd k_2 (by decide))
  refine lv_aload_n hx hb dX6_put_26 rfl (lv_at hl 0 rfl) ?_
  refine km_gsizes hx hb hts hin6 hown hX (hts (.fieldLink RX6 17 "OrderlatticeModel" "sizes" "[I") (tm 681 (by decide +kernel) rfl)) dX6_put_27 ?_
  refine lv_iload_n hx hb dX6_put_30 rfl (lv_at hl 1 rfl) ?_
  refine km_lz (v := (M.1 i).2.2) hx hb hX (by omega) rfl dX6_put_31 ?_
  refine lv_bipush (v := nI 12) hx hb dX6_put_32 (by decide) ?_
  refine kn_icmp_ne (tgt := 44) hx hb (by omega) (by omega) dX6_put_34 (by decide) (fun k_3 => ?_) (fun k_3 => ?_)
  · skip
    have hc := k_3
    refine lv_aload_n hx hb dX6_put_44 rfl (lv_at hl 0 rfl) ?_
    refine lv_iload_n hx hb dX6_put_45 rfl (lv_at hl 1 rfl) ?_
    refine lv_aload_n hx hb dX6_put_46 rfl (lv_at hl 0 rfl) ?_
    refine km_gsizes hx hb hts hin6 hown hX (hts (.fieldLink RX6 17 "OrderlatticeModel" "sizes" "[I") (tm 681 (by decide +kernel) rfl)) dX6_put_47 ?_
    refine lv_iload_n hx hb dX6_put_50 rfl (lv_at hl 1 rfl) ?_
    refine km_lz (v := (M.1 i).2.2) hx hb hX (by omega) rfl dX6_put_51 ?_
    refine lv_iload_n hx hb dX6_put_52 rfl (lv_at hl 2 rfl) ?_
    refine km_ci (va_runV (As := [.int (nI i), .int (nI ((M.1 i).2.2)), .int (nI v)]) (rest := []) ⟨hx, hb, hml, hown, hts⟩ (m_X6_at l dC dI am (mN M (0, M.2.2.2.1, M.2.2.2.2.1, M.2.2.2.2.2)) i ((M.1 i).2.2) v (by omega) (show (M.1 i).2.2 < 12 by omega) (show (M.1 i).2.2 ≤ (M.1 i).2.2 by omega)) (cwV 3 hts gX6_put_X6_at rfl rfl rfl hdX6_at_3 ⟨Nat.le_of_ble_eq_true rfl, Nat.le_of_ble_eq_true rfl⟩) (hX.preObj) rfl rfl hl.1 rfl (lv_room (Nat.le_of_ble_eq_true rfl)) dX6_put_53 ⟨Nat.le_of_ble_eq_true rfl, Nat.le_of_ble_eq_true rfl⟩) hX (fun _ h => h) (fun r_ S_ H locs hw hX => ?_)
    obtain ⟨rfl, rfl⟩ := hw
    exact W.iret (v := nI M.2.2.2.1) hx hb hr (fun t9 ht9 hW9 => ⟨⟨_, (mR (mN M (0, M.2.2.2.1 + 1, M.2.2.2.2.1, M.2.2.2.2.2)) i (va_up (shr ((M.1 i).1) ((M.1 i).2.2) ((M.1 i).2.2)) ((M.1 i).2.2) v, va_up (shr ((M.1 i).2.1) ((M.1 i).2.2) ((M.1 i).2.2)) ((M.1 i).2.2) M.2.2.2.1, (M.1 i).2.2 + 1)), rfl, (Or.inl ⟨by omega, rfl, rfl⟩), hX.P ht9 hW9⟩, hX.2.2.2.F ht9⟩) hX.2.2.2.2.2 dX6_put_56
  · skip
    have hc := k_3
    refine lv_aload_n hx hb dX6_put_37 rfl (lv_at hl 0 rfl) ?_
    refine km_ci (va_runV (As := []) (rest := []) ⟨hx, hb, hml, hown, hts⟩ (m_X6_no l dC dI am (mN M (0, M.2.2.2.1, M.2.2.2.2.1, M.2.2.2.2.2)) ) (cwV 0 hts gX6_put_X6_no rfl rfl rfl hdX6_no_0 ⟨Nat.le_of_ble_eq_true rfl, Nat.le_of_ble_eq_true rfl⟩) (hX.preObj) rfl rfl hl.1 rfl (lv_room (Nat.le_of_ble_eq_true rfl)) dX6_put_38 ⟨Nat.le_of_ble_eq_true rfl, Nat.le_of_ble_eq_true rfl⟩) hX (fun _ h => h) (fun r_ S_ H locs hw hX => ?_)
    obtain ⟨rfl, rfl⟩ := hw
    refine lv_goto (tgt := 56) hx hb dX6_put_41 (by decide) ?_
    exact W.iret (v := (-9)) hx hb hr (fun t9 ht9 hW9 => ⟨⟨_, (mN M (0, M.2.2.2.1, M.2.2.2.2.1 + 1, M.2.2.2.2.2)), rfl, (Or.inr ⟨by omega, rfl, rfl⟩), hX.P ht9 hW9⟩, hX.2.2.2.F ht9⟩) hX.2.2.2.2.2 dX6_put_56
set_option maxHeartbeats 4000000 in
set_option maxRecDepth 100000 in
theorem m_X6_putAt (l : Launch) (dC : Nat → ClassId) (dI : Nat → Nat → Nat) (am : Nat → Nat) (M : MS) (i : Nat) (q : Nat) (v : Nat) (hi : i < 3) (hq : q ≤ (M.1 i).2.2) (hv : v < 16) (hI : InvM M) : Met l yX6_putAt wsX6_putAt ({ frames := 2, cells := 0, slots := 0, locals := 44 } : Room) (va_Pc [.ref (am 0), .int (nI i), .int (nI q), .int (nI v)] (PM dC dI am M)) (va_Qi (fun r M' => ((M.1 i).2.2 < 12 ∧ r = nI M.2.2.2.1 ∧ M' = placeM (thM M 0) i q v) ∨ (12 ≤ (M.1 i).2.2 ∧ r = -9 ∧ M' = refM M)) (PM dC dI am) (AM am)) 0 0 (AM am) := by
  refine Met.ofW (cc := cX6_putAt) (maxL := 4) (ret := (some .int)) pl_X6 rfl ?_
  intro p e s m args below meth c s₁ B hml hv
  obtain ⟨rfl, hPX⟩ := hv
  have hx := B.exec
  have hb := B.bytes
  have hr := B.returns
  have hts := atoms_spec (ws := wsX6_putAt) B.pre
  have hown : s.vm.findClass RX6 = some m.cls := findClass_of_methodNamed B.named
  have hlocks := B.notSynchronized
  have hin6 : ∀ w ∈ u_ws RX6 TX6 10, w ∈ wsX6_putAt := tu 1331 (by decide +kernel) rfl
  have hX := WM.of hPX
  have hl := lv_entry ([.ref (am 0), .int (nI i), .int (nI q), .int (nI v)]) (n := 4) (Nat.le_of_ble_eq_true rfl)
  rw [lg_entry_eq]
  generalize (lg_sl ([.ref (am 0), .int (nI i), .int (nI q), .int (nI v)]) ++ List.replicate (4 - (lg_sl ([.ref (am 0), .int (nI i), .int (nI q), .int (nI v)])).length) Slot.unset).toArray = ls at hl ⊢
  have hl : lv_has ls 4 [(0, .ref (am 0)), (1, .int (nI i)), (2, .int (nI q)), (3, .int (nI v))] := hl
  show W p l e ({ frames := 2, cells := 0, slots := 0, locals := 44 } : Room) s m ([.ref (am 0), .int (nI i), .int (nI q), .int (nI v)]).toArray below meth c s.heap [] 0 0 (MQ below (va_Qi (fun r M' => ((M.1 i).2.2 < 12 ∧ r = nI M.2.2.2.1 ∧ M' = placeM (thM M 0) i q v) ∨ (12 ≤ (M.1 i).2.2 ∧ r = -9 ∧ M' = refM M)) (PM dC dI am) (AM am)) ([.ref (am 0), .int (nI i), .int (nI q), .int (nI v)]).toArray s 0 0 (AM am)) (F0 m 0 ls [])
  have hn := (hI.1 i (by omega)).1
  refine lv_aload_n hx hb dX6_putAt_0 rfl (lv_at hl 0 rfl) ?_
  refine lv_iload_n hx hb dX6_putAt_1 rfl (lv_at hl 1 rfl) ?_
  refine kx_cr (v := bI false) (va_runS (As := [.int (nI i)]) (rest := [.ref (am 0)]) ⟨hx, hb, hml, hown, hts⟩ (m_X6_isNoRow l dC dI am M (nI i)) (va_cwS 1 hts gX6_putAt_X6_isNoRow rfl rfl rfl hdX6_isNoRow_1.2 ⟨Nat.le_of_ble_eq_true rfl, Nat.le_of_ble_eq_true rfl⟩) hX.preS rfl rfl hl.1 rfl (lv_room (Nat.le_of_ble_eq_true rfl)) dX6_putAt_2 ⟨Nat.le_of_ble_eq_true rfl, Nat.le_of_ble_eq_true rfl⟩) (fun _ h => h.trans (isNo_ok (by omega) (by omega))) ?_
  refine lv_iconst (v := nI 1) hx hb dX6_putAt_5 (by decide) ?_
  refine km_ci (va_runV (As := [.int (bI false), .int (nI 1)]) (rest := []) ⟨hx, hb, hml, hown, hts⟩ (m_X6_start l dC dI am M false 1 (by omega)) (cwV 2 hts gX6_putAt_X6_start rfl rfl rfl hdX6_start_2 ⟨Nat.le_of_ble_eq_true rfl, Nat.le_of_ble_eq_true rfl⟩) (hX.preObj) rfl rfl hl.1 rfl (lv_room (Nat.le_of_ble_eq_true rfl)) dX6_putAt_6 ⟨Nat.le_of_ble_eq_true rfl, Nat.le_of_ble_eq_true rfl⟩) hX (fun _ h => h) (fun r_ S_ H locs hw hX => ?_)
  obtain ⟨rfl, rfl⟩ := hw
  refine kb_if_ne (tgt := 42) hx hb dX6_putAt_9 (by decide) (fun k_1 => absurd k_1 (by decide)) (fun k_1 => ?_)
  refine lv_aload_n hx hb dX6_putAt_12 rfl (lv_at hl 0 rfl) ?_
  refine lv_iload_n hx hb dX6_putAt_13 rfl (lv_at hl 2 rfl) ?_
  refine lv_aload_n hx hb dX6_putAt_14 rfl (lv_at hl 0 rfl) ?_
  refine km_gsizes hx hb hts hin6 hown hX (hts (.fieldLink RX6 17 "OrderlatticeModel" "sizes" "[I") (tm 681 (by decide +kernel) rfl)) dX6_putAt_15 ?_
  refine lv_iload_n hx hb dX6_putAt_18 rfl (lv_at hl 1 rfl) ?_
  refine km_lz (v := (M.1 i).2.2) hx hb hX (by omega) rfl dX6_putAt_19 ?_
  refine kx_cr (v := bI false) (va_runS (As := [.int (nI q), .int (nI ((M.1 i).2.2))]) (rest := [.ref (am 0)]) ⟨hx, hb, hml, hown, hts⟩ (m_X6_isNo l dC dI am (mN M (0, M.2.2.2.1, M.2.2.2.2.1, M.2.2.2.2.2)) (nI q) (nI ((M.1 i).2.2))) (va_cwS 2 hts gX6_putAt_X6_isNo rfl rfl rfl hdX6_isNo_2.2 ⟨Nat.le_of_ble_eq_true rfl, Nat.le_of_ble_eq_true rfl⟩) hX.preS rfl rfl hl.1 rfl (lv_room (Nat.le_of_ble_eq_true rfl)) dX6_putAt_20 ⟨Nat.le_of_ble_eq_true rfl, Nat.le_of_ble_eq_true rfl⟩) (fun _ h => h.trans (isNo_ok (by omega) (by omega))) ?_
  refine lv_iconst (v := nI 1) hx hb dX6_putAt_23 (by decide) ?_
  refine km_ci (va_runV (As := [.int (bI false), .int (nI 1)]) (rest := []) ⟨hx, hb, hml, hown, hts⟩ (m_X6_refuse l dC dI am (mN M (0, M.2.2.2.1, M.2.2.2.2.1, M.2.2.2.2.2)) false 1 (by omega) rfl) (cwV 2 hts gX6_putAt_X6_refuse rfl rfl rfl hdX6_refuse_2 ⟨Nat.le_of_ble_eq_true rfl, Nat.le_of_ble_eq_true rfl⟩) (hX.preObj) rfl rfl hl.1 rfl (lv_room (Nat.le_of_ble_eq_true rfl)) dX6_putAt_24 ⟨Nat.le_of_ble_eq_true rfl, Nat.le_of_ble_eq_true rfl⟩) hX (fun _ h => h) (fun r_ S_ H locs hw hX => ?_)
  obtain ⟨rfl, rfl⟩ := hw
  refine kb_if_ne (tgt := 42) hx hb dX6_putAt_27 (by decide) (fun k_2 => absurd k_2 (by decide)) (fun k_2 => ?_)
  refine lv_aload_n hx hb dX6_putAt_30 rfl (lv_at hl 0 rfl) ?_
  refine lv_iload_n hx hb dX6_putAt_31 rfl (lv_at hl 3 rfl) ?_
  refine kx_cr (v := bI false) (va_runS (As := [.int (nI v)]) (rest := [.ref (am 0)]) ⟨hx, hb, hml, hown, hts⟩ (m_X6_isNoValue l dC dI am (mN M (0, M.2.2.2.1, M.2.2.2.2.1, M.2.2.2.2.2)) (nI v)) (va_cwS 1 hts gX6_putAt_X6_isNoValue rfl rfl rfl hdX6_isNoValue_1.2 ⟨Nat.le_of_ble_eq_true rfl, Nat.le_of_ble_eq_true rfl⟩) hX.preS rfl rfl hl.1 rfl (lv_room (Nat.le_of_ble_eq_true rfl)) dX6_putAt_32 ⟨Nat.le_of_ble_eq_true rfl, Nat.le_of_ble_eq_true rfl⟩) (fun _ h => h.trans (isNo_ok (by omega) (by omega))) ?_
  refine lv_iconst (v := nI 2) hx hb dX6_putAt_35 (by decide) ?_
  refine km_ci (va_runV (As := [.int (bI false), .int (nI 2)]) (rest := []) ⟨hx, hb, hml, hown, hts⟩ (m_X6_refuse l dC dI am (mN M (0, M.2.2.2.1, M.2.2.2.2.1, M.2.2.2.2.2)) false 2 (by omega) rfl) (cwV 2 hts gX6_putAt_X6_refuse rfl rfl rfl hdX6_refuse_2 ⟨Nat.le_of_ble_eq_true rfl, Nat.le_of_ble_eq_true rfl⟩) (hX.preObj) rfl rfl hl.1 rfl (lv_room (Nat.le_of_ble_eq_true rfl)) dX6_putAt_36 ⟨Nat.le_of_ble_eq_true rfl, Nat.le_of_ble_eq_true rfl⟩) hX (fun _ h => h) (fun r_ S_ H locs hw hX => ?_)
  obtain ⟨rfl, rfl⟩ := hw
  refine kb_if_eq (tgt := 44) hx hb dX6_putAt_39 (by decide) (fun k_3 => ?_) (fun k_3 => absurd k_3 (by decide))
  refine lv_aload_n hx hb dX6_putAt_44 rfl (lv_at hl 0 rfl) ?_
  refine km_gsizes hx hb hts hin6 hown hX (hts (.fieldLink RX6 17 "OrderlatticeModel" "sizes" "[I") (tm 681 (by decide +kernel) rfl)) dX6_putAt_45 ?_
  refine lv_iload_n hx hb dX6_putAt_48 rfl (lv_at hl 1 rfl) ?_
  refine km_lz (v := (M.1 i).2.2) hx hb hX (by omega) rfl dX6_putAt_49 ?_
  refine lv_bipush (v := nI 12) hx hb dX6_putAt_50 (by decide) ?_
  refine kn_icmp_ne (tgt := 62) hx hb (by omega) (by omega) dX6_putAt_52 (by decide) (fun k_4 => ?_) (fun k_4 => ?_)
  · skip
    have hc := k_4
    refine lv_aload_n hx hb dX6_putAt_62 rfl (lv_at hl 0 rfl) ?_
    refine lv_iload_n hx hb dX6_putAt_63 rfl (lv_at hl 1 rfl) ?_
    refine lv_iload_n hx hb dX6_putAt_64 rfl (lv_at hl 2 rfl) ?_
    refine lv_iload_n hx hb dX6_putAt_65 rfl (lv_at hl 3 rfl) ?_
    refine km_ci (va_runV (As := [.int (nI i), .int (nI q), .int (nI v)]) (rest := []) ⟨hx, hb, hml, hown, hts⟩ (m_X6_at l dC dI am (mN M (0, M.2.2.2.1, M.2.2.2.2.1, M.2.2.2.2.2)) i q v (by omega) (show (M.1 i).2.2 < 12 by omega) (show q ≤ (M.1 i).2.2 by omega)) (cwV 3 hts gX6_putAt_X6_at rfl rfl rfl hdX6_at_3 ⟨Nat.le_of_ble_eq_true rfl, Nat.le_of_ble_eq_true rfl⟩) (hX.preObj) rfl rfl hl.1 rfl (lv_room (Nat.le_of_ble_eq_true rfl)) dX6_putAt_66 ⟨Nat.le_of_ble_eq_true rfl, Nat.le_of_ble_eq_true rfl⟩) hX (fun _ h => h) (fun r_ S_ H locs hw hX => ?_)
    obtain ⟨rfl, rfl⟩ := hw
    exact W.iret (v := nI M.2.2.2.1) hx hb hr (fun t9 ht9 hW9 => ⟨⟨_, (mR (mN M (0, M.2.2.2.1 + 1, M.2.2.2.2.1, M.2.2.2.2.2)) i (va_up (shr ((M.1 i).1) ((M.1 i).2.2) q) q v, va_up (shr ((M.1 i).2.1) ((M.1 i).2.2) q) q M.2.2.2.1, (M.1 i).2.2 + 1)), rfl, (Or.inl ⟨by omega, rfl, rfl⟩), hX.P ht9 hW9⟩, hX.2.2.2.F ht9⟩) hX.2.2.2.2.2 dX6_putAt_69
  · skip
    have hc := k_4
    refine lv_aload_n hx hb dX6_putAt_55 rfl (lv_at hl 0 rfl) ?_
    refine km_ci (va_runV (As := []) (rest := []) ⟨hx, hb, hml, hown, hts⟩ (m_X6_no l dC dI am (mN M (0, M.2.2.2.1, M.2.2.2.2.1, M.2.2.2.2.2)) ) (cwV 0 hts gX6_putAt_X6_no rfl rfl rfl hdX6_no_0 ⟨Nat.le_of_ble_eq_true rfl, Nat.le_of_ble_eq_true rfl⟩) (hX.preObj) rfl rfl hl.1 rfl (lv_room (Nat.le_of_ble_eq_true rfl)) dX6_putAt_56 ⟨Nat.le_of_ble_eq_true rfl, Nat.le_of_ble_eq_true rfl⟩) hX (fun _ h => h) (fun r_ S_ H locs hw hX => ?_)
    obtain ⟨rfl, rfl⟩ := hw
    refine lv_goto (tgt := 69) hx hb dX6_putAt_59 (by decide) ?_
    exact W.iret (v := (-9)) hx hb hr (fun t9 ht9 hW9 => ⟨⟨_, (mN M (0, M.2.2.2.1, M.2.2.2.2.1 + 1, M.2.2.2.2.2)), rfl, (Or.inr ⟨by omega, rfl, rfl⟩), hX.P ht9 hW9⟩, hX.2.2.2.F ht9⟩) hX.2.2.2.2.2 dX6_putAt_69
set_option maxHeartbeats 4000000 in
set_option maxRecDepth 100000 in
theorem m_X6_fill (l : Launch) (dC : Nat → ClassId) (dI : Nat → Nat → Nat) (am : Nat → Nat) (M : MS) (i : Nat) (k : Nat) (k2 : Nat) (k3 : Nat) (hi : i < 3) (hk : k ≤ 12) (hk2 : k2 ≤ 99) (hk3 : k3 ≤ 99) (hI : InvM M) : Met l yX6_fill wsX6_fill ({ frames := 2, cells := 0, slots := 0, locals := 44 } : Room) (va_Pc [.ref (am 0), .int (nI i), .int (nI k), .int (nI k2), .int (nI k3)] (PM dC dI am M)) (va_Qi (fun r M' => ((M.1 i).2.2 + k ≤ 12 ∧ r = nI ((M.1 i).2.2 + k) ∧ M' = mR (mN M (0, M.2.2.2.1 + k, M.2.2.2.2)) i (apn (M.1 i).1 (fun x => (k2 + x * k3) % 16) (M.1 i).2.2 k, apn (M.1 i).2.1 (fun x => M.2.2.2.1 + x) (M.1 i).2.2 k, (M.1 i).2.2 + k)) ∨ (12 < (M.1 i).2.2 + k ∧ r = -9 ∧ M' = refM M)) (PM dC dI am) (AM am)) 0 0 (AM am) := by
  refine Met.ofW (cc := cX6_fill) (maxL := 6) (ret := (some .int)) pl_X6 rfl ?_
  intro p e s m args below meth c s₁ B hml hv
  obtain ⟨rfl, hPX⟩ := hv
  have hx := B.exec
  have hb := B.bytes
  have hr := B.returns
  have hts := atoms_spec (ws := wsX6_fill) B.pre
  have hown : s.vm.findClass RX6 = some m.cls := findClass_of_methodNamed B.named
  have hlocks := B.notSynchronized
  have hin6 : ∀ w ∈ u_ws RX6 TX6 10, w ∈ wsX6_fill := tu 1331 (by decide +kernel) rfl
  have hX := WM.of hPX
  have hl := lv_entry ([.ref (am 0), .int (nI i), .int (nI k), .int (nI k2), .int (nI k3)]) (n := 6) (Nat.le_of_ble_eq_true rfl)
  rw [lg_entry_eq]
  generalize (lg_sl ([.ref (am 0), .int (nI i), .int (nI k), .int (nI k2), .int (nI k3)]) ++ List.replicate (6 - (lg_sl ([.ref (am 0), .int (nI i), .int (nI k), .int (nI k2), .int (nI k3)])).length) Slot.unset).toArray = ls at hl ⊢
  have hl : lv_has ls 6 [(0, .ref (am 0)), (1, .int (nI i)), (2, .int (nI k)), (3, .int (nI k2)), (4, .int (nI k3))] := hl
  show W p l e ({ frames := 2, cells := 0, slots := 0, locals := 44 } : Room) s m ([.ref (am 0), .int (nI i), .int (nI k), .int (nI k2), .int (nI k3)]).toArray below meth c s.heap [] 0 0 (MQ below (va_Qi (fun r M' => ((M.1 i).2.2 + k ≤ 12 ∧ r = nI ((M.1 i).2.2 + k) ∧ M' = mR (mN M (0, M.2.2.2.1 + k, M.2.2.2.2)) i (apn (M.1 i).1 (fun x => (k2 + x * k3) % 16) (M.1 i).2.2 k, apn (M.1 i).2.1 (fun x => M.2.2.2.1 + x) (M.1 i).2.2 k, (M.1 i).2.2 + k)) ∨ (12 < (M.1 i).2.2 + k ∧ r = -9 ∧ M' = refM M)) (PM dC dI am) (AM am)) ([.ref (am 0), .int (nI i), .int (nI k), .int (nI k2), .int (nI k3)]).toArray s 0 0 (AM am)) (F0 m 0 ls [])
  have hn := (hI.1 i (by omega)).1
  refine lv_aload_n hx hb dX6_fill_0 rfl (lv_at hl 0 rfl) ?_
  refine lv_iload_n hx hb dX6_fill_1 rfl (lv_at hl 1 rfl) ?_
  refine kx_cr (v := bI false) (va_runS (As := [.int (nI i)]) (rest := [.ref (am 0)]) ⟨hx, hb, hml, hown, hts⟩ (m_X6_isNoRow l dC dI am M (nI i)) (va_cwS 1 hts gX6_fill_X6_isNoRow rfl rfl rfl hdX6_isNoRow_1.2 ⟨Nat.le_of_ble_eq_true rfl, Nat.le_of_ble_eq_true rfl⟩) hX.preS rfl rfl hl.1 rfl (lv_room (Nat.le_of_ble_eq_true rfl)) dX6_fill_2 ⟨Nat.le_of_ble_eq_true rfl, Nat.le_of_ble_eq_true rfl⟩) (fun _ h => h.trans (isNo_ok (by omega) (by omega))) ?_
  refine lv_iconst (v := nI 1) hx hb dX6_fill_5 (by decide) ?_
  refine km_ci (va_runV (As := [.int (bI false), .int (nI 1)]) (rest := []) ⟨hx, hb, hml, hown, hts⟩ (m_X6_start l dC dI am M false 1 (by omega)) (cwV 2 hts gX6_fill_X6_start rfl rfl rfl hdX6_start_2 ⟨Nat.le_of_ble_eq_true rfl, Nat.le_of_ble_eq_true rfl⟩) (hX.preObj) rfl rfl hl.1 rfl (lv_room (Nat.le_of_ble_eq_true rfl)) dX6_fill_6 ⟨Nat.le_of_ble_eq_true rfl, Nat.le_of_ble_eq_true rfl⟩) hX (fun _ h => h) (fun r_ S_ H locs hw hX => ?_)
  obtain ⟨rfl, rfl⟩ := hw
  refine kb_if_ne (tgt := 53) hx hb dX6_fill_9 (by decide) (fun k_1 => absurd k_1 (by decide)) (fun k_1 => ?_)
  refine lv_aload_n hx hb dX6_fill_12 rfl (lv_at hl 0 rfl) ?_
  refine lv_iload_n hx hb dX6_fill_13 rfl (lv_at hl 2 rfl) ?_
  refine lv_bipush (v := nI 12) hx hb dX6_fill_14 (by decide) ?_
  refine kx_cr (v := bI false) (va_runS (As := [.int (nI k), .int (nI 12)]) (rest := [.ref (am 0)]) ⟨hx, hb, hml, hown, hts⟩ (m_X6_isNo l dC dI am (mN M (0, M.2.2.2.1, M.2.2.2.2.1, M.2.2.2.2.2)) (nI k) (nI 12)) (va_cwS 2 hts gX6_fill_X6_isNo rfl rfl rfl hdX6_isNo_2.2 ⟨Nat.le_of_ble_eq_true rfl, Nat.le_of_ble_eq_true rfl⟩) hX.preS rfl rfl hl.1 rfl (lv_room (Nat.le_of_ble_eq_true rfl)) dX6_fill_16 ⟨Nat.le_of_ble_eq_true rfl, Nat.le_of_ble_eq_true rfl⟩) (fun _ h => h.trans (isNo_ok (by omega) (by omega))) ?_
  refine kb_if_ne (tgt := 41) hx hb dX6_fill_19 (by decide) (fun k_2 => absurd k_2 (by decide)) (fun k_2 => ?_)
  refine lv_iload_n hx hb dX6_fill_22 rfl (lv_at hl 3 rfl) ?_
  refine lv_bipush (v := nI 99) hx hb dX6_fill_23 (by decide) ?_
  refine kx_cr (v := bI false) (va_runS (As := [.int (nI k2), .int (nI 99)]) (rest := [.ref (am 0)]) ⟨hx, hb, hml, hown, hts⟩ (m_X6_isNo l dC dI am (mN M (0, M.2.2.2.1, M.2.2.2.2.1, M.2.2.2.2.2)) (nI k2) (nI 99)) (va_cwS 2 hts gX6_fill_X6_isNo rfl rfl rfl hdX6_isNo_2.2 ⟨Nat.le_of_ble_eq_true rfl, Nat.le_of_ble_eq_true rfl⟩) hX.preS rfl rfl hl.1 rfl (lv_room (Nat.le_of_ble_eq_true rfl)) dX6_fill_25 ⟨Nat.le_of_ble_eq_true rfl, Nat.le_of_ble_eq_true rfl⟩) (fun _ h => h.trans (isNo_ok (by omega) (by omega))) ?_
  refine kb_if_ne (tgt := 41) hx hb dX6_fill_28 (by decide) (fun k_3 => absurd k_3 (by decide)) (fun k_3 => ?_)
  refine lv_iload hx hb dX6_fill_31 (lv_at hl 4 rfl) ?_
  refine lv_bipush (v := nI 99) hx hb dX6_fill_33 (by decide) ?_
  refine kx_cr (v := bI false) (va_runS (As := [.int (nI k3), .int (nI 99)]) (rest := [.ref (am 0)]) ⟨hx, hb, hml, hown, hts⟩ (m_X6_isNo l dC dI am (mN M (0, M.2.2.2.1, M.2.2.2.2.1, M.2.2.2.2.2)) (nI k3) (nI 99)) (va_cwS 2 hts gX6_fill_X6_isNo rfl rfl rfl hdX6_isNo_2.2 ⟨Nat.le_of_ble_eq_true rfl, Nat.le_of_ble_eq_true rfl⟩) hX.preS rfl rfl hl.1 rfl (lv_room (Nat.le_of_ble_eq_true rfl)) dX6_fill_35 ⟨Nat.le_of_ble_eq_true rfl, Nat.le_of_ble_eq_true rfl⟩) (fun _ h => h.trans (isNo_ok (by omega) (by omega))) ?_
  refine kb_if_eq (tgt := 45) hx hb dX6_fill_38 (by decide) (fun k_4 => ?_) (fun k_4 => absurd k_4 (by decide))
  refine lv_iconst (v := nI 0) hx hb dX6_fill_45 (by decide) ?_
  refine lv_iconst (v := nI 2) hx hb dX6_fill_46 (by decide) ?_
  refine km_ci (va_runV (As := [.int (nI 0), .int (nI 2)]) (rest := []) ⟨hx, hb, hml, hown, hts⟩ (m_X6_refuse l dC dI am (mN M (0, M.2.2.2.1, M.2.2.2.2.1, M.2.2.2.2.2)) false 2 (by omega) rfl) (cwV 2 hts gX6_fill_X6_refuse rfl rfl rfl hdX6_refuse_2 ⟨Nat.le_of_ble_eq_true rfl, Nat.le_of_ble_eq_true rfl⟩) (hX.preObj) rfl rfl hl.1 rfl (lv_room (Nat.le_of_ble_eq_true rfl)) dX6_fill_47 ⟨Nat.le_of_ble_eq_true rfl, Nat.le_of_ble_eq_true rfl⟩) hX (fun _ h => h) (fun r_ S_ H locs hw hX => ?_)
  obtain ⟨rfl, rfl⟩ := hw
  refine kb_if_eq (tgt := 55) hx hb dX6_fill_50 (by decide) (fun k_5 => ?_) (fun k_5 => absurd k_5 (by decide))
  refine lv_aload_n hx hb dX6_fill_55 rfl (lv_at hl 0 rfl) ?_
  refine km_gsizes hx hb hts hin6 hown hX (hts (.fieldLink RX6 17 "OrderlatticeModel" "sizes" "[I") (tm 681 (by decide +kernel) rfl)) dX6_fill_56 ?_
  refine lv_iload_n hx hb dX6_fill_59 rfl (lv_at hl 1 rfl) ?_
  refine km_lz (v := (M.1 i).2.2) hx hb hX (by omega) rfl dX6_fill_60 ?_
  refine lv_iload_n hx hb dX6_fill_61 rfl (lv_at hl 2 rfl) ?_
  refine kn_iadd hx hb dX6_fill_62 ?_
  refine lv_bipush (v := nI 12) hx hb dX6_fill_63 (by decide) ?_
  refine kn_icmp_le (tgt := 73) hx hb (by omega) (by omega) dX6_fill_65 (by decide) (fun k_6 => ?_) (fun k_6 => ?_)
  · skip
    have hc := k_6
    refine lv_iconst (v := nI 0) hx hb dX6_fill_73 (by decide) ?_
    refine lv_istore (lv' := [(5, .int (nI 0)), (0, .ref (am 0)), (1, .int (nI i)), (2, .int (nI k)), (3, .int (nI k2)), (4, .int (nI k3))]) hx hb dX6_fill_74 hl (by decide) rfl (fun ls hl => ?_)
    have loop76 : ∀ (fuel : Nat) (a : Nat) (ha : a ≤ k) (H : Heap) (locs : List Loc), k - a < fuel → WM dC dI am (mR (mN M (0, M.2.2.2.1 + a, M.2.2.2.2.1, M.2.2.2.2.2)) i (apn (M.1 i).1 (fun x => (k2 + x * k3) % 16) (M.1 i).2.2 a, apn (M.1 i).2.1 (fun x => M.2.2.2.1 + x) (M.1 i).2.2 a, (M.1 i).2.2 + a)) [] (AM am) s H locs → ∀ ls : Array Slot, lv_has ls 6 [(0, .ref (am 0)), (1, .int (nI i)), (2, .int (nI k)), (3, .int (nI k2)), (4, .int (nI k3)), (5, .int (nI a))] → W p l e ({ frames := 2, cells := 0, slots := 0, locals := 44 } : Room) s m ([.ref (am 0), .int (nI i), .int (nI k), .int (nI k2), .int (nI k3)]).toArray below meth c H locs 0 0 (MQ below (va_Qi (fun r M' => ((M.1 i).2.2 + k ≤ 12 ∧ r = nI ((M.1 i).2.2 + k) ∧ M' = mR (mN M (0, M.2.2.2.1 + k, M.2.2.2.2)) i (apn (M.1 i).1 (fun x => (k2 + x * k3) % 16) (M.1 i).2.2 k, apn (M.1 i).2.1 (fun x => M.2.2.2.1 + x) (M.1 i).2.2 k, (M.1 i).2.2 + k)) ∨ (12 < (M.1 i).2.2 + k ∧ r = -9 ∧ M' = refM M)) (PM dC dI am) (AM am)) ([.ref (am 0), .int (nI i), .int (nI k), .int (nI k2), .int (nI k3)]).toArray s 0 0 (AM am)) (F0 m 76 ls []) := by
      intro fuel
      induction fuel with
      | zero => intro a ha H locs hf; exact absurd hf (Nat.not_lt_zero _)
      | succ fuel ih76 =>
        intro a ha H locs hf hX ls hl
        refine lv_iload hx hb dX6_fill_76 (lv_at hl 5 rfl) ?_
        refine lv_iload_n hx hb dX6_fill_78 rfl (lv_at hl 2 rfl) ?_
        refine kn_icmp_ge (tgt := 110) hx hb (by omega) (by omega) dX6_fill_79 (by decide) (fun k_7 => ?_) (fun k_7 => ?_)
        · skip
          refine lv_aload_n hx hb dX6_fill_110 rfl (lv_at hl 0 rfl) ?_
          refine km_gsizes hx hb hts hin6 hown hX (hts (.fieldLink RX6 17 "OrderlatticeModel" "sizes" "[I") (tm 681 (by decide +kernel) rfl)) dX6_fill_111 ?_
          refine lv_iload_n hx hb dX6_fill_114 rfl (lv_at hl 1 rfl) ?_
          refine km_lz (v := (M.1 i).2.2 + a) hx hb hX (by omega) (by rw [mR_row] <;> rfl) dX6_fill_115 ?_
          exact W.iret (v := nI ((M.1 i).2.2 + a)) hx hb hr (fun t9 ht9 hW9 => ⟨⟨_, (mR (mN M (0, M.2.2.2.1 + a, M.2.2.2.2.1, M.2.2.2.2.2)) i (apn (M.1 i).1 (fun x => (k2 + x * k3) % 16) (M.1 i).2.2 a, apn (M.1 i).2.1 (fun x => M.2.2.2.1 + x) (M.1 i).2.2 a, (M.1 i).2.2 + a)), rfl, (Or.inl ⟨hc, by rw [show a = k by omega], by rw [show a = k by omega]⟩), hX.P ht9 hW9⟩, hX.2.2.2.F ht9⟩) hX.2.2.2.2.2 dX6_fill_116
        · skip
          refine lv_aload_n hx hb dX6_fill_82 rfl (lv_at hl 0 rfl) ?_
          refine lv_iload_n hx hb dX6_fill_83 rfl (lv_at hl 1 rfl) ?_
          refine lv_aload_n hx hb dX6_fill_84 rfl (lv_at hl 0 rfl) ?_
          refine km_gsizes hx hb hts hin6 hown hX (hts (.fieldLink RX6 17 "OrderlatticeModel" "sizes" "[I") (tm 681 (by decide +kernel) rfl)) dX6_fill_85 ?_
          refine lv_iload_n hx hb dX6_fill_88 rfl (lv_at hl 1 rfl) ?_
          refine km_lz (v := (M.1 i).2.2 + a) hx hb hX (by omega) (by rw [mR_row] <;> rfl) dX6_fill_89 ?_
          refine lv_iload_n hx hb dX6_fill_90 rfl (lv_at hl 3 rfl) ?_
          refine lv_iload hx hb dX6_fill_91 (lv_at hl 5 rfl) ?_
          refine lv_iload hx hb dX6_fill_93 (lv_at hl 4 rfl) ?_
          have hm9 : a * k3 ≤ 12 * 99 := Nat.mul_le_mul (by omega) hk3
          refine kn_imul hx hb dX6_fill_95 ?_
          refine kn_iadd hx hb dX6_fill_96 ?_
          refine lv_bipush (v := nI 16) hx hb dX6_fill_97 (by decide) ?_
          refine kn_irem hx hb (by omega) (by omega) (by omega) dX6_fill_99 ?_
          refine km_ci (va_runV (As := [.int (nI i), .int (nI ((M.1 i).2.2 + a)), .int (nI ((k2 + (a * k3)) % 16))]) (rest := []) ⟨hx, hb, hml, hown, hts⟩ (m_X6_at l dC dI am (mR (mN M (0, M.2.2.2.1 + a, M.2.2.2.2.1, M.2.2.2.2.2)) i (apn (M.1 i).1 (fun x => (k2 + x * k3) % 16) (M.1 i).2.2 a, apn (M.1 i).2.1 (fun x => M.2.2.2.1 + x) (M.1 i).2.2 a, (M.1 i).2.2 + a)) i ((M.1 i).2.2 + a) ((k2 + (a * k3)) % 16) (by omega) (by rw [mR_row]; show (M.1 i).2.2 + a < 12; omega) (by rw [mR_row]; exact Nat.le_refl _)) (cwV 3 hts gX6_fill_X6_at rfl rfl rfl hdX6_at_3 ⟨Nat.le_of_ble_eq_true rfl, Nat.le_of_ble_eq_true rfl⟩) (hX.preObj) rfl rfl hl.1 rfl (lv_room (Nat.le_of_ble_eq_true rfl)) dX6_fill_100 ⟨Nat.le_of_ble_eq_true rfl, Nat.le_of_ble_eq_true rfl⟩) hX (fun _ h => h) (fun r_ S_ H locs hw hX => ?_)
          obtain ⟨rfl, hw⟩ := hw
          replace hX := WM.eqS (hw.trans (fill_step (V := (M.1 i).1) (Mk := (M.1 i).2.1) (n := (M.1 i).2.2) (p := M.2.2.2.1) (a := a) (src := (fun x => (k2 + x * k3) % 16)) rfl)) hX
          refine lv_pop hx hb dX6_fill_103 rfl ?_
          refine lv_iinc (v := nI (a + 1)) (lv' := [(5, .int (nI (a + 1))), (0, .ref (am 0)), (1, .int (nI i)), (2, .int (nI k)), (3, .int (nI k2)), (4, .int (nI k3))]) hx hb dX6_fill_104 hl (k := 5) rfl (nI_1 a) (by decide) rfl (fun ls hl => ?_)
          refine lv_goto (tgt := 76) hx hb dX6_fill_107 (by decide) ?_
          exact ih76  (a + 1) (by omega) _ _ (by omega) hX _ (lv_sub hl [1, 2, 3, 4, 5, 0] rfl)
    exact loop76 (k + 1) 0 (by omega) _ _ (by omega) (WM.eqS (by rw [apn_0, apn_0]; exact (mR_self _ i).symm) hX) _ (lv_sub hl [1, 2, 3, 4, 5, 0] rfl)
  · skip
    have hc := k_6
    refine lv_aload_n hx hb dX6_fill_68 rfl (lv_at hl 0 rfl) ?_
    refine km_ci (va_runV (As := []) (rest := []) ⟨hx, hb, hml, hown, hts⟩ (m_X6_no l dC dI am (mN M (0, M.2.2.2.1, M.2.2.2.2.1, M.2.2.2.2.2)) ) (cwV 0 hts gX6_fill_X6_no rfl rfl rfl hdX6_no_0 ⟨Nat.le_of_ble_eq_true rfl, Nat.le_of_ble_eq_true rfl⟩) (hX.preObj) rfl rfl hl.1 rfl (lv_room (Nat.le_of_ble_eq_true rfl)) dX6_fill_69 ⟨Nat.le_of_ble_eq_true rfl, Nat.le_of_ble_eq_true rfl⟩) hX (fun _ h => h) (fun r_ S_ H locs hw hX => ?_)
    obtain ⟨rfl, rfl⟩ := hw
    exact W.iret (v := (-9)) hx hb hr (fun t9 ht9 hW9 => ⟨⟨_, (mN M (0, M.2.2.2.1, M.2.2.2.2.1 + 1, M.2.2.2.2.2)), rfl, (Or.inr ⟨hc, rfl, rfl⟩), hX.P ht9 hW9⟩, hX.2.2.2.F ht9⟩) hX.2.2.2.2.2 dX6_fill_72
set_option maxHeartbeats 4000000 in
set_option maxRecDepth 100000 in
theorem m_X6_drop (l : Launch) (dC : Nat → ClassId) (dI : Nat → Nat → Nat) (am : Nat → Nat) (M : MS) (i : Nat) (q : Nat) (hi : i < 3) (hq : q < (M.1 i).2.2) (hI : InvM M) : Met l yX6_drop wsX6_drop ({ frames := 2, cells := 0, slots := 0, locals := 44 } : Room) (va_Pc [.ref (am 0), .int (nI i), .int (nI q)] (PM dC dI am M)) (va_Qi (fun r M' => r = nI ((M.1 i).2.1 q) ∧ M' = mR (thM M 0) i (shl (M.1 i).1 q ((M.1 i).2.2 - 1), shl (M.1 i).2.1 q ((M.1 i).2.2 - 1), (M.1 i).2.2 - 1)) (PM dC dI am) (AM am)) 0 0 (AM am) := by
  refine Met.ofW (cc := cX6_drop) (maxL := 5) (ret := (some .int)) pl_X6 rfl ?_
  intro p e s m args below meth c s₁ B hml hv
  obtain ⟨rfl, hPX⟩ := hv
  have hx := B.exec
  have hb := B.bytes
  have hr := B.returns
  have hts := atoms_spec (ws := wsX6_drop) B.pre
  have hown : s.vm.findClass RX6 = some m.cls := findClass_of_methodNamed B.named
  have hlocks := B.notSynchronized
  have hin6 : ∀ w ∈ u_ws RX6 TX6 10, w ∈ wsX6_drop := tu 1331 (by decide +kernel) rfl
  have hX := WM.of hPX
  have hl := lv_entry ([.ref (am 0), .int (nI i), .int (nI q)]) (n := 5) (Nat.le_of_ble_eq_true rfl)
  rw [lg_entry_eq]
  generalize (lg_sl ([.ref (am 0), .int (nI i), .int (nI q)]) ++ List.replicate (5 - (lg_sl ([.ref (am 0), .int (nI i), .int (nI q)])).length) Slot.unset).toArray = ls at hl ⊢
  have hl : lv_has ls 5 [(0, .ref (am 0)), (1, .int (nI i)), (2, .int (nI q))] := hl
  show W p l e ({ frames := 2, cells := 0, slots := 0, locals := 44 } : Room) s m ([.ref (am 0), .int (nI i), .int (nI q)]).toArray below meth c s.heap [] 0 0 (MQ below (va_Qi (fun r M' => r = nI ((M.1 i).2.1 q) ∧ M' = mR (thM M 0) i (shl (M.1 i).1 q ((M.1 i).2.2 - 1), shl (M.1 i).2.1 q ((M.1 i).2.2 - 1), (M.1 i).2.2 - 1)) (PM dC dI am) (AM am)) ([.ref (am 0), .int (nI i), .int (nI q)]).toArray s 0 0 (AM am)) (F0 m 0 ls [])
  have hn := (hI.1 i (by omega)).1
  refine lv_aload_n hx hb dX6_drop_0 rfl (lv_at hl 0 rfl) ?_
  refine lv_iload_n hx hb dX6_drop_1 rfl (lv_at hl 1 rfl) ?_
  refine kx_cr (v := bI false) (va_runS (As := [.int (nI i)]) (rest := [.ref (am 0)]) ⟨hx, hb, hml, hown, hts⟩ (m_X6_isNoRow l dC dI am M (nI i)) (va_cwS 1 hts gX6_drop_X6_isNoRow rfl rfl rfl hdX6_isNoRow_1.2 ⟨Nat.le_of_ble_eq_true rfl, Nat.le_of_ble_eq_true rfl⟩) hX.preS rfl rfl hl.1 rfl (lv_room (Nat.le_of_ble_eq_true rfl)) dX6_drop_2 ⟨Nat.le_of_ble_eq_true rfl, Nat.le_of_ble_eq_true rfl⟩) (fun _ h => h.trans (isNo_ok (by omega) (by omega))) ?_
  refine lv_iconst (v := nI 1) hx hb dX6_drop_5 (by decide) ?_
  refine km_ci (va_runV (As := [.int (bI false), .int (nI 1)]) (rest := []) ⟨hx, hb, hml, hown, hts⟩ (m_X6_start l dC dI am M false 1 (by omega)) (cwV 2 hts gX6_drop_X6_start rfl rfl rfl hdX6_start_2 ⟨Nat.le_of_ble_eq_true rfl, Nat.le_of_ble_eq_true rfl⟩) (hX.preObj) rfl rfl hl.1 rfl (lv_room (Nat.le_of_ble_eq_true rfl)) dX6_drop_6 ⟨Nat.le_of_ble_eq_true rfl, Nat.le_of_ble_eq_true rfl⟩) hX (fun _ h => h) (fun r_ S_ H locs hw hX => ?_)
  obtain ⟨rfl, rfl⟩ := hw
  refine kb_if_ne (tgt := 32) hx hb dX6_drop_9 (by decide) (fun k_1 => absurd k_1 (by decide)) (fun k_1 => ?_)
  refine lv_aload_n hx hb dX6_drop_12 rfl (lv_at hl 0 rfl) ?_
  refine lv_iload_n hx hb dX6_drop_13 rfl (lv_at hl 2 rfl) ?_
  refine lv_aload_n hx hb dX6_drop_14 rfl (lv_at hl 0 rfl) ?_
  refine km_gsizes hx hb hts hin6 hown hX (hts (.fieldLink RX6 17 "OrderlatticeModel" "sizes" "[I") (tm 681 (by decide +kernel) rfl)) dX6_drop_15 ?_
  refine lv_iload_n hx hb dX6_drop_18 rfl (lv_at hl 1 rfl) ?_
  refine km_lz (v := (M.1 i).2.2) hx hb hX (by omega) rfl dX6_drop_19 ?_
  refine lv_iconst (v := nI 1) hx hb dX6_drop_20 (by decide) ?_
  refine kn_isub hx hb (by omega) dX6_drop_21 ?_
  refine kx_cr (v := bI false) (va_runS (As := [.int (nI q), .int (nI (((M.1 i).2.2) - 1))]) (rest := [.ref (am 0)]) ⟨hx, hb, hml, hown, hts⟩ (m_X6_isNo l dC dI am (mN M (0, M.2.2.2.1, M.2.2.2.2.1, M.2.2.2.2.2)) (nI q) (nI (((M.1 i).2.2) - 1))) (va_cwS 2 hts gX6_drop_X6_isNo rfl rfl rfl hdX6_isNo_2.2 ⟨Nat.le_of_ble_eq_true rfl, Nat.le_of_ble_eq_true rfl⟩) hX.preS rfl rfl hl.1 rfl (lv_room (Nat.le_of_ble_eq_true rfl)) dX6_drop_22 ⟨Nat.le_of_ble_eq_true rfl, Nat.le_of_ble_eq_true rfl⟩) (fun _ h => h.trans (isNo_ok (by omega) (by omega))) ?_
  refine lv_iconst (v := nI 1) hx hb dX6_drop_25 (by decide) ?_
  refine km_ci (va_runV (As := [.int (bI false), .int (nI 1)]) (rest := []) ⟨hx, hb, hml, hown, hts⟩ (m_X6_refuse l dC dI am (mN M (0, M.2.2.2.1, M.2.2.2.2.1, M.2.2.2.2.2)) false 1 (by omega) rfl) (cwV 2 hts gX6_drop_X6_refuse rfl rfl rfl hdX6_refuse_2 ⟨Nat.le_of_ble_eq_true rfl, Nat.le_of_ble_eq_true rfl⟩) (hX.preObj) rfl rfl hl.1 rfl (lv_room (Nat.le_of_ble_eq_true rfl)) dX6_drop_26 ⟨Nat.le_of_ble_eq_true rfl, Nat.le_of_ble_eq_true rfl⟩) hX (fun _ h => h) (fun r_ S_ H locs hw hX => ?_)
  obtain ⟨rfl, rfl⟩ := hw
  refine kb_if_eq (tgt := 34) hx hb dX6_drop_29 (by decide) (fun k_2 => ?_) (fun k_2 => absurd k_2 (by decide))
  refine lv_aload_n hx hb dX6_drop_34 rfl (lv_at hl 0 rfl) ?_
  refine km_gmarks hx hb hts hin6 hown hX (hts (.fieldLink RX6 14 "OrderlatticeModel" "marks" "[[I") (tm 711 (by decide +kernel) rfl)) dX6_drop_35 ?_
  refine lv_iload_n hx hb dX6_drop_38 rfl (lv_at hl 1 rfl) ?_
  refine km_am hx hb hX (by omega) dX6_drop_39 ?_
  refine lv_iload_n hx hb dX6_drop_40 rfl (lv_at hl 2 rfl) ?_
  refine km_lm (v := ((M.1 i).2.1) q) hx hb hX (by omega) (by omega) rfl dX6_drop_41 ?_
  refine lv_istore_n (lv' := [(3, .int (nI (((M.1 i).2.1) q))), (0, .ref (am 0)), (1, .int (nI i)), (2, .int (nI q))]) hx hb dX6_drop_42 rfl hl (by decide) rfl (fun ls hl => ?_)
  refine lv_iload_n hx hb dX6_drop_43 rfl (lv_at hl 3 rfl) ?_
  refine lv_istore (lv' := [(4, .int (nI q)), (3, .int (nI (((M.1 i).2.1) q))), (0, .ref (am 0)), (1, .int (nI i)), (2, .int (nI q))]) hx hb dX6_drop_44 hl (by decide) rfl (fun ls hl => ?_)
  have loop46 : ∀ (fuel : Nat) (a : Nat) (ha : q ≤ a ∧ a ≤ (M.1 i).2.2 - 1) (H : Heap) (locs : List Loc), (M.1 i).2.2 - a < fuel → WM dC dI am (mR (mN M (0, M.2.2.2.1, M.2.2.2.2.1, M.2.2.2.2.2)) i (shl (M.1 i).1 q a, shl (M.1 i).2.1 q a, (M.1 i).2.2)) [] (AM am) s H locs → ∀ ls : Array Slot, lv_has ls 5 [(0, .ref (am 0)), (1, .int (nI i)), (2, .int (nI q)), (3, .int (nI ((M.1 i).2.1 q))), (4, .int (nI a))] → W p l e ({ frames := 2, cells := 0, slots := 0, locals := 44 } : Room) s m ([.ref (am 0), .int (nI i), .int (nI q)]).toArray below meth c H locs 0 0 (MQ below (va_Qi (fun r M' => r = nI ((M.1 i).2.1 q) ∧ M' = mR (thM M 0) i (shl (M.1 i).1 q ((M.1 i).2.2 - 1), shl (M.1 i).2.1 q ((M.1 i).2.2 - 1), (M.1 i).2.2 - 1)) (PM dC dI am) (AM am)) ([.ref (am 0), .int (nI i), .int (nI q)]).toArray s 0 0 (AM am)) (F0 m 46 ls []) := by
    intro fuel
    induction fuel with
    | zero => intro a ha H locs hf; exact absurd hf (Nat.not_lt_zero _)
    | succ fuel ih46 =>
      intro a ha H locs hf hX ls hl
      refine lv_iload hx hb dX6_drop_46 (lv_at hl 4 rfl) ?_
      refine lv_iconst (v := nI 1) hx hb dX6_drop_48 (by decide) ?_
      refine kn_iadd hx hb dX6_drop_49 ?_
      refine lv_aload_n hx hb dX6_drop_50 rfl (lv_at hl 0 rfl) ?_
      refine km_gsizes hx hb hts hin6 hown hX (hts (.fieldLink RX6 17 "OrderlatticeModel" "sizes" "[I") (tm 681 (by decide +kernel) rfl)) dX6_drop_51 ?_
      refine lv_iload_n hx hb dX6_drop_54 rfl (lv_at hl 1 rfl) ?_
      refine km_lz (v := (M.1 i).2.2) hx hb hX (by omega) (by rw [mR_row] <;> rfl) dX6_drop_55 ?_
      refine kn_icmp_ge (tgt := 105) hx hb (by omega) (by omega) dX6_drop_56 (by decide) (fun k_3 => ?_) (fun k_3 => ?_)
      · skip
        refine lv_aload_n hx hb dX6_drop_105 rfl (lv_at hl 0 rfl) ?_
        refine km_gsizes hx hb hts hin6 hown hX (hts (.fieldLink RX6 17 "OrderlatticeModel" "sizes" "[I") (tm 681 (by decide +kernel) rfl)) dX6_drop_106 ?_
        refine lv_iload_n hx hb dX6_drop_109 rfl (lv_at hl 1 rfl) ?_
        refine lv_dup2_11 hx hb dX6_drop_110 rfl rfl ?_
        refine km_lz (v := (M.1 i).2.2) hx hb hX (by omega) (by rw [mR_row] <;> rfl) dX6_drop_111 ?_
        refine lv_iconst (v := nI 1) hx hb dX6_drop_112 (by decide) ?_
        refine kn_isub hx hb (by omega) dX6_drop_113 ?_
        refine km_sz (M' := (mR (mN M (0, M.2.2.2.1, M.2.2.2.2.1, M.2.2.2.2.2)) i (shl (M.1 i).1 q a, shl (M.1 i).2.1 q a, ((M.1 i).2.2) - 1))) hx hb hX  (by omega) (by rw [mR_row, mR_mR]) dX6_drop_114 (fun H locs hX => ?_)
        refine lv_iload_n hx hb dX6_drop_115 rfl (lv_at hl 3 rfl) ?_
        exact W.iret (v := nI ((M.1 i).2.1 q)) hx hb hr (fun t9 ht9 hW9 => ⟨⟨_, (mR (mN M (0, M.2.2.2.1, M.2.2.2.2.1, M.2.2.2.2.2)) i (shl (M.1 i).1 q a, shl (M.1 i).2.1 q a, ((M.1 i).2.2) - 1)), rfl, ⟨rfl, by rw [show a = (M.1 i).2.2 - 1 by omega]⟩, hX.P ht9 hW9⟩, hX.2.2.2.F ht9⟩) hX.2.2.2.2.2 dX6_drop_116
      · skip
        refine lv_aload_n hx hb dX6_drop_59 rfl (lv_at hl 0 rfl) ?_
        refine km_gvalues hx hb hts hin6 hown hX (hts (.fieldLink RX6 11 "OrderlatticeModel" "values" "[[I") (tm 710 (by decide +kernel) rfl)) dX6_drop_60 ?_
        refine lv_iload_n hx hb dX6_drop_63 rfl (lv_at hl 1 rfl) ?_
        refine km_av hx hb hX (by omega) dX6_drop_64 ?_
        refine lv_iload hx hb dX6_drop_65 (lv_at hl 4 rfl) ?_
        refine lv_aload_n hx hb dX6_drop_67 rfl (lv_at hl 0 rfl) ?_
        refine km_gvalues hx hb hts hin6 hown hX (hts (.fieldLink RX6 11 "OrderlatticeModel" "values" "[[I") (tm 710 (by decide +kernel) rfl)) dX6_drop_68 ?_
        refine lv_iload_n hx hb dX6_drop_71 rfl (lv_at hl 1 rfl) ?_
        refine km_av hx hb hX (by omega) dX6_drop_72 ?_
        refine lv_iload hx hb dX6_drop_73 (lv_at hl 4 rfl) ?_
        refine lv_iconst (v := nI 1) hx hb dX6_drop_75 (by decide) ?_
        refine kn_iadd hx hb dX6_drop_76 ?_
        refine km_lv (v := (M.1 i).1 (a + 1)) hx hb hX (by omega) (by omega) (by rw [mR_row]; exact shl_hi _ (by omega)) dX6_drop_77 ?_
        refine km_sv (M' := (mR (mN M (0, M.2.2.2.1, M.2.2.2.2.1, M.2.2.2.2.2)) i (va_up (shl (M.1 i).1 q a) a ((M.1 i).1 (a + 1)), shl (M.1 i).2.1 q a, (M.1 i).2.2))) hx hb hX (by omega) (by omega) (by rw [mR_row, mR_mR]) dX6_drop_78 (fun H locs hX => ?_)
        refine lv_aload_n hx hb dX6_drop_79 rfl (lv_at hl 0 rfl) ?_
        refine km_gmarks hx hb hts hin6 hown hX (hts (.fieldLink RX6 14 "OrderlatticeModel" "marks" "[[I") (tm 711 (by decide +kernel) rfl)) dX6_drop_80 ?_
        refine lv_iload_n hx hb dX6_drop_83 rfl (lv_at hl 1 rfl) ?_
        refine km_am hx hb hX (by omega) dX6_drop_84 ?_
        refine lv_iload hx hb dX6_drop_85 (lv_at hl 4 rfl) ?_
        refine lv_aload_n hx hb dX6_drop_87 rfl (lv_at hl 0 rfl) ?_
        refine km_gmarks hx hb hts hin6 hown hX (hts (.fieldLink RX6 14 "OrderlatticeModel" "marks" "[[I") (tm 711 (by decide +kernel) rfl)) dX6_drop_88 ?_
        refine lv_iload_n hx hb dX6_drop_91 rfl (lv_at hl 1 rfl) ?_
        refine km_am hx hb hX (by omega) dX6_drop_92 ?_
        refine lv_iload hx hb dX6_drop_93 (lv_at hl 4 rfl) ?_
        refine lv_iconst (v := nI 1) hx hb dX6_drop_95 (by decide) ?_
        refine kn_iadd hx hb dX6_drop_96 ?_
        refine km_lm (v := (M.1 i).2.1 (a + 1)) hx hb hX (by omega) (by omega) (by rw [mR_row]; exact shl_hi _ (by omega)) dX6_drop_97 ?_
        refine km_sm (M' := (mR (mN M (0, M.2.2.2.1, M.2.2.2.2.1, M.2.2.2.2.2)) i (va_up (shl (M.1 i).1 q a) a ((M.1 i).1 (a + 1)), va_up (shl (M.1 i).2.1 q a) a ((M.1 i).2.1 (a + 1)), (M.1 i).2.2))) hx hb hX (by omega) (by omega) (by rw [mR_row, mR_mR]) dX6_drop_98 (fun H locs hX => ?_)
        refine lv_iinc (v := nI (a + 1)) (lv' := [(4, .int (nI (a + 1))), (0, .ref (am 0)), (1, .int (nI i)), (2, .int (nI q)), (3, .int (nI ((M.1 i).2.1 q)))]) hx hb dX6_drop_99 hl (k := 4) rfl (nI_1 a) (by decide) rfl (fun ls hl => ?_)
        refine lv_goto (tgt := 46) hx hb dX6_drop_102 (by decide) ?_
        exact ih46  (a + 1) (by omega) _ _ (by omega) (WM.eqS (by rw [shl_up _ (by omega), shl_up _ (by omega)]) hX) _ (lv_sub hl [1, 2, 3, 4, 0] rfl)
  exact loop46 ((M.1 i).2.2 + 1) q (by omega) _ _ (by omega) (WM.eqS (by rw [shl_q, shl_q]; exact (mR_self _ i).symm) hX) _ (lv_sub hl [2, 3, 4, 1, 0] rfl)
set_option maxHeartbeats 4000000 in
set_option maxRecDepth 100000 in
theorem m_X6_clear (l : Launch) (dC : Nat → ClassId) (dI : Nat → Nat → Nat) (am : Nat → Nat) (M : MS) (i : Nat) (hi : i < 3) (hI : InvM M) : Met l yX6_clear wsX6_clear ({ frames := 2, cells := 0, slots := 0, locals := 44 } : Room) (va_Pc [.ref (am 0), .int (nI i)] (PM dC dI am M)) (va_Qi (fun r M' => r = nI (M.1 i).2.2 ∧ M' = mR (thM M 0) i ((M.1 i).1, (M.1 i).2.1, 0)) (PM dC dI am) (AM am)) 0 0 (AM am) := by
  refine Met.ofW (cc := cX6_clear) (maxL := 3) (ret := (some .int)) pl_X6 rfl ?_
  intro p e s m args below meth c s₁ B hml hv
  obtain ⟨rfl, hPX⟩ := hv
  have hx := B.exec
  have hb := B.bytes
  have hr := B.returns
  have hts := atoms_spec (ws := wsX6_clear) B.pre
  have hown : s.vm.findClass RX6 = some m.cls := findClass_of_methodNamed B.named
  have hlocks := B.notSynchronized
  have hin6 : ∀ w ∈ u_ws RX6 TX6 10, w ∈ wsX6_clear := tu 1331 (by decide +kernel) rfl
  have hX := WM.of hPX
  have hl := lv_entry ([.ref (am 0), .int (nI i)]) (n := 3) (Nat.le_of_ble_eq_true rfl)
  rw [lg_entry_eq]
  generalize (lg_sl ([.ref (am 0), .int (nI i)]) ++ List.replicate (3 - (lg_sl ([.ref (am 0), .int (nI i)])).length) Slot.unset).toArray = ls at hl ⊢
  have hl : lv_has ls 3 [(0, .ref (am 0)), (1, .int (nI i))] := hl
  show W p l e ({ frames := 2, cells := 0, slots := 0, locals := 44 } : Room) s m ([.ref (am 0), .int (nI i)]).toArray below meth c s.heap [] 0 0 (MQ below (va_Qi (fun r M' => r = nI (M.1 i).2.2 ∧ M' = mR (thM M 0) i ((M.1 i).1, (M.1 i).2.1, 0)) (PM dC dI am) (AM am)) ([.ref (am 0), .int (nI i)]).toArray s 0 0 (AM am)) (F0 m 0 ls [])
  have hn := (hI.1 i (by omega)).1
  refine lv_aload_n hx hb dX6_clear_0 rfl (lv_at hl 0 rfl) ?_
  refine lv_iload_n hx hb dX6_clear_1 rfl (lv_at hl 1 rfl) ?_
  refine kx_cr (v := bI false) (va_runS (As := [.int (nI i)]) (rest := [.ref (am 0)]) ⟨hx, hb, hml, hown, hts⟩ (m_X6_isNoRow l dC dI am M (nI i)) (va_cwS 1 hts gX6_clear_X6_isNoRow rfl rfl rfl hdX6_isNoRow_1.2 ⟨Nat.le_of_ble_eq_true rfl, Nat.le_of_ble_eq_true rfl⟩) hX.preS rfl rfl hl.1 rfl (lv_room (Nat.le_of_ble_eq_true rfl)) dX6_clear_2 ⟨Nat.le_of_ble_eq_true rfl, Nat.le_of_ble_eq_true rfl⟩) (fun _ h => h.trans (isNo_ok (by omega) (by omega))) ?_
  refine lv_iconst (v := nI 1) hx hb dX6_clear_5 (by decide) ?_
  refine km_ci (va_runV (As := [.int (bI false), .int (nI 1)]) (rest := []) ⟨hx, hb, hml, hown, hts⟩ (m_X6_start l dC dI am M false 1 (by omega)) (cwV 2 hts gX6_clear_X6_start rfl rfl rfl hdX6_start_2 ⟨Nat.le_of_ble_eq_true rfl, Nat.le_of_ble_eq_true rfl⟩) (hX.preObj) rfl rfl hl.1 rfl (lv_room (Nat.le_of_ble_eq_true rfl)) dX6_clear_6 ⟨Nat.le_of_ble_eq_true rfl, Nat.le_of_ble_eq_true rfl⟩) hX (fun _ h => h) (fun r_ S_ H locs hw hX => ?_)
  obtain ⟨rfl, rfl⟩ := hw
  refine kb_if_eq (tgt := 14) hx hb dX6_clear_9 (by decide) (fun k_1 => ?_) (fun k_1 => absurd k_1 (by decide))
  refine lv_aload_n hx hb dX6_clear_14 rfl (lv_at hl 0 rfl) ?_
  refine km_gsizes hx hb hts hin6 hown hX (hts (.fieldLink RX6 17 "OrderlatticeModel" "sizes" "[I") (tm 681 (by decide +kernel) rfl)) dX6_clear_15 ?_
  refine lv_iload_n hx hb dX6_clear_18 rfl (lv_at hl 1 rfl) ?_
  refine km_lz (v := (M.1 i).2.2) hx hb hX (by omega) rfl dX6_clear_19 ?_
  refine lv_istore_n (lv' := [(2, .int (nI ((M.1 i).2.2))), (0, .ref (am 0)), (1, .int (nI i))]) hx hb dX6_clear_20 rfl hl (by decide) rfl (fun ls hl => ?_)
  refine lv_aload_n hx hb dX6_clear_21 rfl (lv_at hl 1 rfl) ?_
  refine km_gsizes hx hb hts hin6 hown hX (hts (.fieldLink RX6 17 "OrderlatticeModel" "sizes" "[I") (tm 681 (by decide +kernel) rfl)) dX6_clear_22 ?_
  refine lv_iload_n hx hb dX6_clear_25 rfl (lv_at hl 2 rfl) ?_
  refine lv_iconst (v := nI 0) hx hb dX6_clear_26 (by decide) ?_
  refine km_sz (M' := (mR (mN M (0, M.2.2.2.1, M.2.2.2.2.1, M.2.2.2.2.2)) i ((M.1 i).1, (M.1 i).2.1, 0))) hx hb hX  (by omega) rfl dX6_clear_27 (fun H locs hX => ?_)
  refine lv_iload_n hx hb dX6_clear_28 rfl (lv_at hl 0 rfl) ?_
  exact W.iret (v := nI ((M.1 i).2.2)) hx hb hr (fun t9 ht9 hW9 => ⟨⟨_, (mR (mN M (0, M.2.2.2.1, M.2.2.2.2.1, M.2.2.2.2.2)) i ((M.1 i).1, (M.1 i).2.1, 0)), rfl, ⟨rfl, rfl⟩, hX.P ht9 hW9⟩, hX.2.2.2.F ht9⟩) hX.2.2.2.2.2 dX6_clear_29
set_option maxHeartbeats 4000000 in
set_option maxRecDepth 100000 in
theorem m_X6_copyRow (l : Launch) (dC : Nat → ClassId) (dI : Nat → Nat → Nat) (am : Nat → Nat) (M : MS) (i : Nat) (i2 : Nat) (hi : i < 3) (hi2 : i2 < 3) (hI : InvM M) : Met l yX6_copyRow wsX6_copyRow ({ frames := 2, cells := 0, slots := 0, locals := 44 } : Room) (va_Pc [.ref (am 0), .int (nI i), .int (nI i2)] (PM dC dI am M)) (va_Qi (fun r M' => r = nI (M.1 i).2.2 ∧ M' = mR (thM M 0) i2 (ovl (M.1 i).1 (M.1 i2).1 (M.1 i).2.2, ovl (M.1 i).2.1 (M.1 i2).2.1 (M.1 i).2.2, (M.1 i).2.2)) (PM dC dI am) (AM am)) 0 0 (AM am) := by
  refine Met.ofW (cc := cX6_copyRow) (maxL := 4) (ret := (some .int)) pl_X6 rfl ?_
  intro p e s m args below meth c s₁ B hml hv
  obtain ⟨rfl, hPX⟩ := hv
  have hx := B.exec
  have hb := B.bytes
  have hr := B.returns
  have hts := atoms_spec (ws := wsX6_copyRow) B.pre
  have hown : s.vm.findClass RX6 = some m.cls := findClass_of_methodNamed B.named
  have hlocks := B.notSynchronized
  have hin6 : ∀ w ∈ u_ws RX6 TX6 10, w ∈ wsX6_copyRow := tu 1331 (by decide +kernel) rfl
  have hX := WM.of hPX
  have hl := lv_entry ([.ref (am 0), .int (nI i), .int (nI i2)]) (n := 4) (Nat.le_of_ble_eq_true rfl)
  rw [lg_entry_eq]
  generalize (lg_sl ([.ref (am 0), .int (nI i), .int (nI i2)]) ++ List.replicate (4 - (lg_sl ([.ref (am 0), .int (nI i), .int (nI i2)])).length) Slot.unset).toArray = ls at hl ⊢
  have hl : lv_has ls 4 [(0, .ref (am 0)), (1, .int (nI i)), (2, .int (nI i2))] := hl
  show W p l e ({ frames := 2, cells := 0, slots := 0, locals := 44 } : Room) s m ([.ref (am 0), .int (nI i), .int (nI i2)]).toArray below meth c s.heap [] 0 0 (MQ below (va_Qi (fun r M' => r = nI (M.1 i).2.2 ∧ M' = mR (thM M 0) i2 (ovl (M.1 i).1 (M.1 i2).1 (M.1 i).2.2, ovl (M.1 i).2.1 (M.1 i2).2.1 (M.1 i).2.2, (M.1 i).2.2)) (PM dC dI am) (AM am)) ([.ref (am 0), .int (nI i), .int (nI i2)]).toArray s 0 0 (AM am)) (F0 m 0 ls [])
  have hn := (hI.1 i (by omega)).1
  refine lv_aload_n hx hb dX6_copyRow_0 rfl (lv_at hl 0 rfl) ?_
  refine lv_iload_n hx hb dX6_copyRow_1 rfl (lv_at hl 1 rfl) ?_
  refine kx_cr (v := bI false) (va_runS (As := [.int (nI i)]) (rest := [.ref (am 0)]) ⟨hx, hb, hml, hown, hts⟩ (m_X6_isNoRow l dC dI am M (nI i)) (va_cwS 1 hts gX6_copyRow_X6_isNoRow rfl rfl rfl hdX6_isNoRow_1.2 ⟨Nat.le_of_ble_eq_true rfl, Nat.le_of_ble_eq_true rfl⟩) hX.preS rfl rfl hl.1 rfl (lv_room (Nat.le_of_ble_eq_true rfl)) dX6_copyRow_2 ⟨Nat.le_of_ble_eq_true rfl, Nat.le_of_ble_eq_true rfl⟩) (fun _ h => h.trans (isNo_ok (by omega) (by omega))) ?_
  refine kb_if_ne (tgt := 15) hx hb dX6_copyRow_5 (by decide) (fun k_1 => absurd k_1 (by decide)) (fun k_1 => ?_)
  refine lv_iload_n hx hb dX6_copyRow_8 rfl (lv_at hl 2 rfl) ?_
  refine kx_cr (v := bI false) (va_runS (As := [.int (nI i2)]) (rest := [.ref (am 0)]) ⟨hx, hb, hml, hown, hts⟩ (m_X6_isNoRow l dC dI am M (nI i2)) (va_cwS 1 hts gX6_copyRow_X6_isNoRow rfl rfl rfl hdX6_isNoRow_1.2 ⟨Nat.le_of_ble_eq_true rfl, Nat.le_of_ble_eq_true rfl⟩) hX.preS rfl rfl hl.1 rfl (lv_room (Nat.le_of_ble_eq_true rfl)) dX6_copyRow_9 ⟨Nat.le_of_ble_eq_true rfl, Nat.le_of_ble_eq_true rfl⟩) (fun _ h => h.trans (isNo_ok (by omega) (by omega))) ?_
  refine kb_if_eq (tgt := 19) hx hb dX6_copyRow_12 (by decide) (fun k_2 => ?_) (fun k_2 => absurd k_2 (by decide))
  refine lv_iconst (v := nI 0) hx hb dX6_copyRow_19 (by decide) ?_
  refine lv_iconst (v := nI 1) hx hb dX6_copyRow_20 (by decide) ?_
  refine km_ci (va_runV (As := [.int (nI 0), .int (nI 1)]) (rest := []) ⟨hx, hb, hml, hown, hts⟩ (m_X6_start l dC dI am M false 1 (by omega)) (cwV 2 hts gX6_copyRow_X6_start rfl rfl rfl hdX6_start_2 ⟨Nat.le_of_ble_eq_true rfl, Nat.le_of_ble_eq_true rfl⟩) (hX.preObj) rfl rfl hl.1 rfl (lv_room (Nat.le_of_ble_eq_true rfl)) dX6_copyRow_21 ⟨Nat.le_of_ble_eq_true rfl, Nat.le_of_ble_eq_true rfl⟩) hX (fun _ h => h) (fun r_ S_ H locs hw hX => ?_)
  obtain ⟨rfl, rfl⟩ := hw
  refine kb_if_eq (tgt := 29) hx hb dX6_copyRow_24 (by decide) (fun k_3 => ?_) (fun k_3 => absurd k_3 (by decide))
  refine lv_iconst (v := nI 0) hx hb dX6_copyRow_29 (by decide) ?_
  refine lv_istore_n (lv' := [(3, .int (nI 0)), (0, .ref (am 0)), (1, .int (nI i)), (2, .int (nI i2))]) hx hb dX6_copyRow_30 rfl hl (by decide) rfl (fun ls hl => ?_)
  have loop31 : ∀ (fuel : Nat) (a : Nat) (ha : a ≤ (M.1 i).2.2) (H : Heap) (locs : List Loc), (M.1 i).2.2 - a < fuel → WM dC dI am (mR (mN M (0, M.2.2.2.1, M.2.2.2.2.1, M.2.2.2.2.2)) i2 (ovl (M.1 i).1 (M.1 i2).1 a, ovl (M.1 i).2.1 (M.1 i2).2.1 a, (M.1 i2).2.2)) [] (AM am) s H locs → ∀ ls : Array Slot, lv_has ls 4 [(0, .ref (am 0)), (1, .int (nI i)), (2, .int (nI i2)), (3, .int (nI a))] → W p l e ({ frames := 2, cells := 0, slots := 0, locals := 44 } : Room) s m ([.ref (am 0), .int (nI i), .int (nI i2)]).toArray below meth c H locs 0 0 (MQ below (va_Qi (fun r M' => r = nI (M.1 i).2.2 ∧ M' = mR (thM M 0) i2 (ovl (M.1 i).1 (M.1 i2).1 (M.1 i).2.2, ovl (M.1 i).2.1 (M.1 i2).2.1 (M.1 i).2.2, (M.1 i).2.2)) (PM dC dI am) (AM am)) ([.ref (am 0), .int (nI i), .int (nI i2)]).toArray s 0 0 (AM am)) (F0 m 31 ls []) := by
    intro fuel
    induction fuel with
    | zero => intro a ha H locs hf; exact absurd hf (Nat.not_lt_zero _)
    | succ fuel ih31 =>
      intro a ha H locs hf hX ls hl
      refine lv_iload_n hx hb dX6_copyRow_31 rfl (lv_at hl 3 rfl) ?_
      refine lv_aload_n hx hb dX6_copyRow_32 rfl (lv_at hl 0 rfl) ?_
      refine km_gsizes hx hb hts hin6 hown hX (hts (.fieldLink RX6 17 "OrderlatticeModel" "sizes" "[I") (tm 681 (by decide +kernel) rfl)) dX6_copyRow_33 ?_
      refine lv_iload_n hx hb dX6_copyRow_36 rfl (lv_at hl 1 rfl) ?_
      refine km_lz (v := (M.1 i).2.2) hx hb hX (by omega) (copy_size M i i2 _ _) dX6_copyRow_37 ?_
      refine kn_icmp_ge (tgt := 79) hx hb (by omega) (by omega) dX6_copyRow_38 (by decide) (fun k_4 => ?_) (fun k_4 => ?_)
      · skip
        refine lv_aload_n hx hb dX6_copyRow_79 rfl (lv_at hl 0 rfl) ?_
        refine km_gsizes hx hb hts hin6 hown hX (hts (.fieldLink RX6 17 "OrderlatticeModel" "sizes" "[I") (tm 681 (by decide +kernel) rfl)) dX6_copyRow_80 ?_
        refine lv_iload_n hx hb dX6_copyRow_83 rfl (lv_at hl 2 rfl) ?_
        refine lv_aload_n hx hb dX6_copyRow_84 rfl (lv_at hl 0 rfl) ?_
        refine km_gsizes hx hb hts hin6 hown hX (hts (.fieldLink RX6 17 "OrderlatticeModel" "sizes" "[I") (tm 681 (by decide +kernel) rfl)) dX6_copyRow_85 ?_
        refine lv_iload_n hx hb dX6_copyRow_88 rfl (lv_at hl 1 rfl) ?_
        refine km_lz (v := (M.1 i).2.2) hx hb hX (by omega) (copy_size M i i2 _ _) dX6_copyRow_89 ?_
        refine km_sz (M' := (mR (mN M (0, M.2.2.2.1, M.2.2.2.2.1, M.2.2.2.2.2)) i2 (ovl (M.1 i).1 (M.1 i2).1 a, ovl (M.1 i).2.1 (M.1 i2).2.1 a, (M.1 i).2.2))) hx hb hX  (by omega) (by rw [mR_row, mR_mR]) dX6_copyRow_90 (fun H locs hX => ?_)
        refine lv_aload_n hx hb dX6_copyRow_91 rfl (lv_at hl 0 rfl) ?_
        refine km_gsizes hx hb hts hin6 hown hX (hts (.fieldLink RX6 17 "OrderlatticeModel" "sizes" "[I") (tm 681 (by decide +kernel) rfl)) dX6_copyRow_92 ?_
        refine lv_iload_n hx hb dX6_copyRow_95 rfl (lv_at hl 2 rfl) ?_
        refine km_lz (v := (M.1 i).2.2) hx hb hX (by omega) (by rw [mR_row] <;> rfl) dX6_copyRow_96 ?_
        exact W.iret (v := nI ((M.1 i).2.2)) hx hb hr (fun t9 ht9 hW9 => ⟨⟨_, (mR (mN M (0, M.2.2.2.1, M.2.2.2.2.1, M.2.2.2.2.2)) i2 (ovl (M.1 i).1 (M.1 i2).1 a, ovl (M.1 i).2.1 (M.1 i2).2.1 a, (M.1 i).2.2)), rfl, ⟨rfl, by rw [show a = (M.1 i).2.2 by omega]⟩, hX.P ht9 hW9⟩, hX.2.2.2.F ht9⟩) hX.2.2.2.2.2 dX6_copyRow_97
      · skip
        refine lv_aload_n hx hb dX6_copyRow_41 rfl (lv_at hl 0 rfl) ?_
        refine km_gvalues hx hb hts hin6 hown hX (hts (.fieldLink RX6 11 "OrderlatticeModel" "values" "[[I") (tm 710 (by decide +kernel) rfl)) dX6_copyRow_42 ?_
        refine lv_iload_n hx hb dX6_copyRow_45 rfl (lv_at hl 2 rfl) ?_
        refine km_av hx hb hX (by omega) dX6_copyRow_46 ?_
        refine lv_iload_n hx hb dX6_copyRow_47 rfl (lv_at hl 3 rfl) ?_
        refine lv_aload_n hx hb dX6_copyRow_48 rfl (lv_at hl 0 rfl) ?_
        refine km_gvalues hx hb hts hin6 hown hX (hts (.fieldLink RX6 11 "OrderlatticeModel" "values" "[[I") (tm 710 (by decide +kernel) rfl)) dX6_copyRow_49 ?_
        refine lv_iload_n hx hb dX6_copyRow_52 rfl (lv_at hl 1 rfl) ?_
        refine km_av hx hb hX (by omega) dX6_copyRow_53 ?_
        refine lv_iload_n hx hb dX6_copyRow_54 rfl (lv_at hl 3 rfl) ?_
        refine km_lv (v := (M.1 i).1 a) hx hb hX (by omega) (by omega) (copy_v M i i2 a _ _) dX6_copyRow_55 ?_
        refine km_sv (M' := (mR (mN M (0, M.2.2.2.1, M.2.2.2.2.1, M.2.2.2.2.2)) i2 (va_up (ovl (M.1 i).1 (M.1 i2).1 a) a ((M.1 i).1 a), ovl (M.1 i).2.1 (M.1 i2).2.1 a, (M.1 i2).2.2))) hx hb hX (by omega) (by omega) (by rw [mR_row, mR_mR]) dX6_copyRow_56 (fun H locs hX => ?_)
        refine lv_aload_n hx hb dX6_copyRow_57 rfl (lv_at hl 0 rfl) ?_
        refine km_gmarks hx hb hts hin6 hown hX (hts (.fieldLink RX6 14 "OrderlatticeModel" "marks" "[[I") (tm 711 (by decide +kernel) rfl)) dX6_copyRow_58 ?_
        refine lv_iload_n hx hb dX6_copyRow_61 rfl (lv_at hl 2 rfl) ?_
        refine km_am hx hb hX (by omega) dX6_copyRow_62 ?_
        refine lv_iload_n hx hb dX6_copyRow_63 rfl (lv_at hl 3 rfl) ?_
        refine lv_aload_n hx hb dX6_copyRow_64 rfl (lv_at hl 0 rfl) ?_
        refine km_gmarks hx hb hts hin6 hown hX (hts (.fieldLink RX6 14 "OrderlatticeModel" "marks" "[[I") (tm 711 (by decide +kernel) rfl)) dX6_copyRow_65 ?_
        refine lv_iload_n hx hb dX6_copyRow_68 rfl (lv_at hl 1 rfl) ?_
        refine km_am hx hb hX (by omega) dX6_copyRow_69 ?_
        refine lv_iload_n hx hb dX6_copyRow_70 rfl (lv_at hl 3 rfl) ?_
        refine km_lm (v := (M.1 i).2.1 a) hx hb hX (by omega) (by omega) (copy_m M i i2 a _ _) dX6_copyRow_71 ?_
        refine km_sm (M' := (mR (mN M (0, M.2.2.2.1, M.2.2.2.2.1, M.2.2.2.2.2)) i2 (va_up (ovl (M.1 i).1 (M.1 i2).1 a) a ((M.1 i).1 a), va_up (ovl (M.1 i).2.1 (M.1 i2).2.1 a) a ((M.1 i).2.1 a), (M.1 i2).2.2))) hx hb hX (by omega) (by omega) (by rw [mR_row, mR_mR]) dX6_copyRow_72 (fun H locs hX => ?_)
        refine lv_iinc (v := nI (a + 1)) (lv' := [(3, .int (nI (a + 1))), (0, .ref (am 0)), (1, .int (nI i)), (2, .int (nI i2))]) hx hb dX6_copyRow_73 hl (k := 3) rfl (nI_1 a) (by decide) rfl (fun ls hl => ?_)
        refine lv_goto (tgt := 31) hx hb dX6_copyRow_76 (by decide) ?_
        exact ih31  (a + 1) (by omega) _ _ (by omega) (WM.eqS (by rw [ovl_up, ovl_up]) hX) _ (lv_sub hl [1, 2, 3, 0] rfl)
  exact loop31 ((M.1 i).2.2 + 1) 0 (by omega) _ _ (by omega) (WM.eqS (by rw [ovl_0, ovl_0]; exact (mR_self _ i2).symm) hX) _ (lv_sub hl [1, 2, 3, 0] rfl)
set_option maxHeartbeats 4000000 in
set_option maxRecDepth 100000 in
theorem m_X6_turnRow (l : Launch) (dC : Nat → ClassId) (dI : Nat → Nat → Nat) (am : Nat → Nat) (M : MS) (i : Nat) (hi : i < 3) (hI : InvM M) : Met l yX6_turnRow wsX6_turnRow ({ frames := 2, cells := 0, slots := 0, locals := 44 } : Room) (va_Pc [.ref (am 0), .int (nI i)] (PM dC dI am M)) (va_Qi (fun r M' => r = nI ((M.1 i).2.2 - (M.1 i).2.2 % 2) ∧ M' = mR (thM M 0) i (rev (M.1 i).1 (M.1 i).2.2 ((M.1 i).2.2), rev (M.1 i).2.1 (M.1 i).2.2 ((M.1 i).2.2), (M.1 i).2.2)) (PM dC dI am) (AM am)) 0 0 (AM am) := by
  refine Met.ofW (cc := cX6_turnRow) (maxL := 4) (ret := (some .int)) pl_X6 rfl ?_
  intro p e s m args below meth c s₁ B hml hv
  obtain ⟨rfl, hPX⟩ := hv
  have hx := B.exec
  have hb := B.bytes
  have hr := B.returns
  have hts := atoms_spec (ws := wsX6_turnRow) B.pre
  have hown : s.vm.findClass RX6 = some m.cls := findClass_of_methodNamed B.named
  have hlocks := B.notSynchronized
  have hin6 : ∀ w ∈ u_ws RX6 TX6 10, w ∈ wsX6_turnRow := tu 1331 (by decide +kernel) rfl
  have hX := WM.of hPX
  have hl := lv_entry ([.ref (am 0), .int (nI i)]) (n := 4) (Nat.le_of_ble_eq_true rfl)
  rw [lg_entry_eq]
  generalize (lg_sl ([.ref (am 0), .int (nI i)]) ++ List.replicate (4 - (lg_sl ([.ref (am 0), .int (nI i)])).length) Slot.unset).toArray = ls at hl ⊢
  have hl : lv_has ls 4 [(0, .ref (am 0)), (1, .int (nI i))] := hl
  show W p l e ({ frames := 2, cells := 0, slots := 0, locals := 44 } : Room) s m ([.ref (am 0), .int (nI i)]).toArray below meth c s.heap [] 0 0 (MQ below (va_Qi (fun r M' => r = nI ((M.1 i).2.2 - (M.1 i).2.2 % 2) ∧ M' = mR (thM M 0) i (rev (M.1 i).1 (M.1 i).2.2 ((M.1 i).2.2), rev (M.1 i).2.1 (M.1 i).2.2 ((M.1 i).2.2), (M.1 i).2.2)) (PM dC dI am) (AM am)) ([.ref (am 0), .int (nI i)]).toArray s 0 0 (AM am)) (F0 m 0 ls [])
  have hn := (hI.1 i (by omega)).1
  refine lv_aload_n hx hb dX6_turnRow_0 rfl (lv_at hl 0 rfl) ?_
  refine lv_iload_n hx hb dX6_turnRow_1 rfl (lv_at hl 1 rfl) ?_
  refine kx_cr (v := bI false) (va_runS (As := [.int (nI i)]) (rest := [.ref (am 0)]) ⟨hx, hb, hml, hown, hts⟩ (m_X6_isNoRow l dC dI am M (nI i)) (va_cwS 1 hts gX6_turnRow_X6_isNoRow rfl rfl rfl hdX6_isNoRow_1.2 ⟨Nat.le_of_ble_eq_true rfl, Nat.le_of_ble_eq_true rfl⟩) hX.preS rfl rfl hl.1 rfl (lv_room (Nat.le_of_ble_eq_true rfl)) dX6_turnRow_2 ⟨Nat.le_of_ble_eq_true rfl, Nat.le_of_ble_eq_true rfl⟩) (fun _ h => h.trans (isNo_ok (by omega) (by omega))) ?_
  refine lv_iconst (v := nI 1) hx hb dX6_turnRow_5 (by decide) ?_
  refine km_ci (va_runV (As := [.int (bI false), .int (nI 1)]) (rest := []) ⟨hx, hb, hml, hown, hts⟩ (m_X6_start l dC dI am M false 1 (by omega)) (cwV 2 hts gX6_turnRow_X6_start rfl rfl rfl hdX6_start_2 ⟨Nat.le_of_ble_eq_true rfl, Nat.le_of_ble_eq_true rfl⟩) (hX.preObj) rfl rfl hl.1 rfl (lv_room (Nat.le_of_ble_eq_true rfl)) dX6_turnRow_6 ⟨Nat.le_of_ble_eq_true rfl, Nat.le_of_ble_eq_true rfl⟩) hX (fun _ h => h) (fun r_ S_ H locs hw hX => ?_)
  obtain ⟨rfl, rfl⟩ := hw
  refine kb_if_eq (tgt := 14) hx hb dX6_turnRow_9 (by decide) (fun k_1 => ?_) (fun k_1 => absurd k_1 (by decide))
  refine lv_iconst (v := nI 0) hx hb dX6_turnRow_14 (by decide) ?_
  refine lv_istore_n (lv' := [(2, .int (nI 0)), (0, .ref (am 0)), (1, .int (nI i))]) hx hb dX6_turnRow_15 rfl hl (by decide) rfl (fun ls hl => ?_)
  refine lv_iconst (v := nI 0) hx hb dX6_turnRow_16 (by decide) ?_
  refine lv_istore_n (lv' := [(3, .int (nI 0)), (2, .int (nI 0)), (0, .ref (am 0)), (1, .int (nI i))]) hx hb dX6_turnRow_17 rfl hl (by decide) rfl (fun ls hl => ?_)
  have loop18 : ∀ (fuel : Nat) (q a : Nat) (ha : 2 * a ≤ (M.1 i).2.2 ∧ q = 2 * a) (H : Heap) (locs : List Loc), (M.1 i).2.2 - a < fuel → WM dC dI am (mR (mN M (0, M.2.2.2.1, M.2.2.2.2.1, M.2.2.2.2.2)) i (rev (M.1 i).1 (M.1 i).2.2 a, rev (M.1 i).2.1 (M.1 i).2.2 a, (M.1 i).2.2)) [] (AM am) s H locs → ∀ ls : Array Slot, lv_has ls 4 [(0, .ref (am 0)), (1, .int (nI i)), (2, .int (nI q)), (3, .int (nI a))] → W p l e ({ frames := 2, cells := 0, slots := 0, locals := 44 } : Room) s m ([.ref (am 0), .int (nI i)]).toArray below meth c H locs 0 0 (MQ below (va_Qi (fun r M' => r = nI ((M.1 i).2.2 - (M.1 i).2.2 % 2) ∧ M' = mR (thM M 0) i (rev (M.1 i).1 (M.1 i).2.2 ((M.1 i).2.2), rev (M.1 i).2.1 (M.1 i).2.2 ((M.1 i).2.2), (M.1 i).2.2)) (PM dC dI am) (AM am)) ([.ref (am 0), .int (nI i)]).toArray s 0 0 (AM am)) (F0 m 18 ls []) := by
    intro fuel
    induction fuel with
    | zero => intro q a ha H locs hf; exact absurd hf (Nat.not_lt_zero _)
    | succ fuel ih18 =>
      intro q a ha H locs hf hX ls hl
      refine lv_iload_n hx hb dX6_turnRow_18 rfl (lv_at hl 3 rfl) ?_
      refine lv_aload_n hx hb dX6_turnRow_19 rfl (lv_at hl 0 rfl) ?_
      refine km_gsizes hx hb hts hin6 hown hX (hts (.fieldLink RX6 17 "OrderlatticeModel" "sizes" "[I") (tm 681 (by decide +kernel) rfl)) dX6_turnRow_20 ?_
      refine lv_iload_n hx hb dX6_turnRow_23 rfl (lv_at hl 1 rfl) ?_
      refine km_lz (v := (M.1 i).2.2) hx hb hX (by omega) (by rw [mR_row] <;> rfl) dX6_turnRow_24 ?_
      refine lv_iconst (v := nI 2) hx hb dX6_turnRow_25 (by decide) ?_
      refine kn_idiv hx hb (by omega) (by omega) (by omega) dX6_turnRow_26 ?_
      refine kn_icmp_ge (tgt := 55) hx hb (by omega) (by omega) dX6_turnRow_27 (by decide) (fun k_2 => ?_) (fun k_2 => ?_)
      · skip
        refine lv_iload_n hx hb dX6_turnRow_55 rfl (lv_at hl 2 rfl) ?_
        exact W.iret (v := nI q) hx hb hr (fun t9 ht9 hW9 => ⟨⟨_, (mR (mN M (0, M.2.2.2.1, M.2.2.2.2.1, M.2.2.2.2.2)) i (rev (M.1 i).1 (M.1 i).2.2 a, rev (M.1 i).2.1 (M.1 i).2.2 a, (M.1 i).2.2)), rfl, ⟨congrArg nI (by omega), by rw [rev_end (a := a) (M.1 i).1 (by omega), rev_end (a := a) (M.1 i).2.1 (by omega)]⟩, hX.P ht9 hW9⟩, hX.2.2.2.F ht9⟩) hX.2.2.2.2.2 dX6_turnRow_56
      · skip
        refine lv_aload_n hx hb dX6_turnRow_30 rfl (lv_at hl 0 rfl) ?_
        refine lv_iload_n hx hb dX6_turnRow_31 rfl (lv_at hl 1 rfl) ?_
        refine lv_iload_n hx hb dX6_turnRow_32 rfl (lv_at hl 3 rfl) ?_
        refine lv_aload_n hx hb dX6_turnRow_33 rfl (lv_at hl 0 rfl) ?_
        refine km_gsizes hx hb hts hin6 hown hX (hts (.fieldLink RX6 17 "OrderlatticeModel" "sizes" "[I") (tm 681 (by decide +kernel) rfl)) dX6_turnRow_34 ?_
        refine lv_iload_n hx hb dX6_turnRow_37 rfl (lv_at hl 1 rfl) ?_
        refine km_lz (v := (M.1 i).2.2) hx hb hX (by omega) (by rw [mR_row] <;> rfl) dX6_turnRow_38 ?_
        refine lv_iconst (v := nI 1) hx hb dX6_turnRow_39 (by decide) ?_
        refine kn_isub hx hb (by omega) dX6_turnRow_40 ?_
        refine lv_iload_n hx hb dX6_turnRow_41 rfl (lv_at hl 3 rfl) ?_
        refine kn_isub hx hb (by omega) dX6_turnRow_42 ?_
        refine km_cv (va_runV (As := [.int (nI i), .int (nI a), .int (nI ((((M.1 i).2.2) - 1) - a))]) (rest := []) ⟨hx, hb, hml, hown, hts⟩ (m_X6_change l dC dI am (mR (mN M (0, M.2.2.2.1, M.2.2.2.2.1, M.2.2.2.2.2)) i (rev (M.1 i).1 (M.1 i).2.2 a, rev (M.1 i).2.1 (M.1 i).2.2 a, (M.1 i).2.2)) i a ((((M.1 i).2.2) - 1) - a) (by omega) (by omega) (by omega)) (cwV 3 hts gX6_turnRow_X6_change rfl rfl rfl hdX6_change_3 ⟨Nat.le_of_ble_eq_true rfl, Nat.le_of_ble_eq_true rfl⟩) (hX.preObj) rfl rfl hl.1 rfl (lv_room (Nat.le_of_ble_eq_true rfl)) dX6_turnRow_43 ⟨Nat.le_of_ble_eq_true rfl, Nat.le_of_ble_eq_true rfl⟩) hX (fun _ h => h) (fun S_ H locs hw hX => ?_)
        rw [mR_row, mR_mR] at hw
        subst hw
        refine lv_iinc (v := nI (q + 2)) (lv' := [(2, .int (nI (q + 2))), (0, .ref (am 0)), (1, .int (nI i)), (3, .int (nI a))]) hx hb dX6_turnRow_46 hl (k := 2) rfl (nI_add q 2) (by decide) rfl (fun ls hl => ?_)
        refine lv_iinc (v := nI (a + 1)) (lv' := [(3, .int (nI (a + 1))), (2, .int (nI (q + 2))), (0, .ref (am 0)), (1, .int (nI i))]) hx hb dX6_turnRow_49 hl (k := 3) rfl (nI_1 a) (by decide) rfl (fun ls hl => ?_)
        refine lv_goto (tgt := 18) hx hb dX6_turnRow_52 (by decide) ?_
        exact ih18  (q + 2) (a + 1) (by omega) _ _ (by omega) (WM.eqS (by rw [rev_up _ (by omega), rev_up _ (by omega)]) hX) _ (lv_sub hl [2, 3, 1, 0] rfl)
  exact loop18 ((M.1 i).2.2 + 1) 0 0 (by omega) _ _ (by omega) (WM.eqS (by rw [rev_a0, rev_a0]; exact (mR_self _ i).symm) hX) _ (lv_sub hl [2, 3, 1, 0] rfl)
set_option maxHeartbeats 4000000 in
set_option maxRecDepth 100000 in
theorem m_X6_wheel (l : Launch) (dC : Nat → ClassId) (dI : Nat → Nat → Nat) (am : Nat → Nat) (M : MS) (i : Nat) (y : Int32) (hi : i < 3) (hI : InvM M) : Met l yX6_wheel wsX6_wheel ({ frames := 2, cells := 0, slots := 0, locals := 44 } : Room) (va_Pc [.ref (am 0), .int (nI i), .int y] (PM dC dI am M)) (va_Qi (fun r M' => ((M.1 i).2.2 = 0 ∧ r = -1 ∧ M' = thM M 0) ∨ (0 < (M.1 i).2.2 ∧ ∃ sh, sh < (M.1 i).2.2 ∧ y - y / nI (M.1 i).2.2 * nI (M.1 i).2.2 + nI (M.1 i).2.2 - (y - y / nI (M.1 i).2.2 * nI (M.1 i).2.2 + nI (M.1 i).2.2) / nI (M.1 i).2.2 * nI (M.1 i).2.2 = nI sh ∧ r = nI (rotI (M.1 i).2.1 (M.1 i).2.2 sh 0) ∧ M' = mR (thM M 0) i (rotI (M.1 i).1 (M.1 i).2.2 sh, rotI (M.1 i).2.1 (M.1 i).2.2 sh, (M.1 i).2.2))) (PM dC dI am) (AM am)) 0 0 (AM am) := by
  refine Met.ofW (cc := cX6_wheel) (maxL := 7) (ret := (some .int)) pl_X6 rfl ?_
  intro p e s m args below meth c s₁ B hml hv
  obtain ⟨rfl, hPX⟩ := hv
  have hx := B.exec
  have hb := B.bytes
  have hr := B.returns
  have hts := atoms_spec (ws := wsX6_wheel) B.pre
  have hown : s.vm.findClass RX6 = some m.cls := findClass_of_methodNamed B.named
  have hlocks := B.notSynchronized
  have hin6 : ∀ w ∈ u_ws RX6 TX6 10, w ∈ wsX6_wheel := tu 1331 (by decide +kernel) rfl
  have hX := WM.of hPX
  have hl := lv_entry ([.ref (am 0), .int (nI i), .int y]) (n := 7) (Nat.le_of_ble_eq_true rfl)
  rw [lg_entry_eq]
  generalize (lg_sl ([.ref (am 0), .int (nI i), .int y]) ++ List.replicate (7 - (lg_sl ([.ref (am 0), .int (nI i), .int y])).length) Slot.unset).toArray = ls at hl ⊢
  have hl : lv_has ls 7 [(0, .ref (am 0)), (1, .int (nI i)), (2, .int y)] := hl
  show W p l e ({ frames := 2, cells := 0, slots := 0, locals := 44 } : Room) s m ([.ref (am 0), .int (nI i), .int y]).toArray below meth c s.heap [] 0 0 (MQ below (va_Qi (fun r M' => ((M.1 i).2.2 = 0 ∧ r = -1 ∧ M' = thM M 0) ∨ (0 < (M.1 i).2.2 ∧ ∃ sh, sh < (M.1 i).2.2 ∧ y - y / nI (M.1 i).2.2 * nI (M.1 i).2.2 + nI (M.1 i).2.2 - (y - y / nI (M.1 i).2.2 * nI (M.1 i).2.2 + nI (M.1 i).2.2) / nI (M.1 i).2.2 * nI (M.1 i).2.2 = nI sh ∧ r = nI (rotI (M.1 i).2.1 (M.1 i).2.2 sh 0) ∧ M' = mR (thM M 0) i (rotI (M.1 i).1 (M.1 i).2.2 sh, rotI (M.1 i).2.1 (M.1 i).2.2 sh, (M.1 i).2.2))) (PM dC dI am) (AM am)) ([.ref (am 0), .int (nI i), .int y]).toArray s 0 0 (AM am)) (F0 m 0 ls [])
  have hn := (hI.1 i (by omega)).1
  refine lv_aload_n hx hb dX6_wheel_0 rfl (lv_at hl 0 rfl) ?_
  refine lv_iload_n hx hb dX6_wheel_1 rfl (lv_at hl 1 rfl) ?_
  refine kx_cr (v := bI false) (va_runS (As := [.int (nI i)]) (rest := [.ref (am 0)]) ⟨hx, hb, hml, hown, hts⟩ (m_X6_isNoRow l dC dI am M (nI i)) (va_cwS 1 hts gX6_wheel_X6_isNoRow rfl rfl rfl hdX6_isNoRow_1.2 ⟨Nat.le_of_ble_eq_true rfl, Nat.le_of_ble_eq_true rfl⟩) hX.preS rfl rfl hl.1 rfl (lv_room (Nat.le_of_ble_eq_true rfl)) dX6_wheel_2 ⟨Nat.le_of_ble_eq_true rfl, Nat.le_of_ble_eq_true rfl⟩) (fun _ h => h.trans (isNo_ok (by omega) (by omega))) ?_
  refine lv_iconst (v := nI 1) hx hb dX6_wheel_5 (by decide) ?_
  refine km_ci (va_runV (As := [.int (bI false), .int (nI 1)]) (rest := []) ⟨hx, hb, hml, hown, hts⟩ (m_X6_start l dC dI am M false 1 (by omega)) (cwV 2 hts gX6_wheel_X6_start rfl rfl rfl hdX6_start_2 ⟨Nat.le_of_ble_eq_true rfl, Nat.le_of_ble_eq_true rfl⟩) (hX.preObj) rfl rfl hl.1 rfl (lv_room (Nat.le_of_ble_eq_true rfl)) dX6_wheel_6 ⟨Nat.le_of_ble_eq_true rfl, Nat.le_of_ble_eq_true rfl⟩) hX (fun _ h => h) (fun r_ S_ H locs hw hX => ?_)
  obtain ⟨rfl, rfl⟩ := hw
  refine kb_if_eq (tgt := 14) hx hb dX6_wheel_9 (by decide) (fun k_1 => ?_) (fun k_1 => absurd k_1 (by decide))
  refine lv_aload_n hx hb dX6_wheel_14 rfl (lv_at hl 0 rfl) ?_
  refine km_gsizes hx hb hts hin6 hown hX (hts (.fieldLink RX6 17 "OrderlatticeModel" "sizes" "[I") (tm 681 (by decide +kernel) rfl)) dX6_wheel_15 ?_
  refine lv_iload_n hx hb dX6_wheel_18 rfl (lv_at hl 1 rfl) ?_
  refine km_lz (v := (M.1 i).2.2) hx hb hX (by omega) rfl dX6_wheel_19 ?_
  refine lv_istore_n (lv' := [(3, .int (nI ((M.1 i).2.2))), (0, .ref (am 0)), (1, .int (nI i)), (2, .int y)]) hx hb dX6_wheel_20 rfl hl (by decide) rfl (fun ls hl => ?_)
  refine lv_iload_n hx hb dX6_wheel_21 rfl (lv_at hl 0 rfl) ?_
  refine kn_if_ne (tgt := 27) hx hb (by omega) dX6_wheel_22 (by decide) (fun k_2 => ?_) (fun k_2 => ?_)
  · skip
    have h0 := k_2
    refine lv_iload_n hx hb dX6_wheel_27 rfl (lv_at hl 3 rfl) ?_
    refine lv_iload_n hx hb dX6_wheel_28 rfl (lv_at hl 0 rfl) ?_
    refine lv_irem hx hb dX6_wheel_29 (nI_ne0 (show 0 < (M.1 i).2.2 by omega) (by omega)) ?_
    refine lv_iload_n hx hb dX6_wheel_30 rfl (lv_at hl 0 rfl) ?_
    refine lv_iadd hx hb dX6_wheel_31 ?_
    refine lv_iload_n hx hb dX6_wheel_32 rfl (lv_at hl 0 rfl) ?_
    refine lv_irem hx hb dX6_wheel_33 (nI_ne0 (show 0 < (M.1 i).2.2 by omega) (by omega)) ?_
    refine lv_topi (fun w9 e9 => ?_)
    obtain ⟨sh, hs1, hs2⟩ := wheel_sh y (show 0 < (M.1 i).2.2 by omega) hn
    rw [hs2] at e9
    subst e9
    refine lv_istore (lv' := [(4, .int (nI sh)), (3, .int (nI ((M.1 i).2.2))), (0, .ref (am 0)), (1, .int (nI i)), (2, .int y)]) hx hb dX6_wheel_34 hl (by decide) rfl (fun ls hl => ?_)
    refine lv_iconst (v := nI 0) hx hb dX6_wheel_36 (by decide) ?_
    refine lv_istore (lv' := [(5, .int (nI 0)), (4, .int (nI sh)), (3, .int (nI ((M.1 i).2.2))), (0, .ref (am 0)), (1, .int (nI i)), (2, .int y)]) hx hb dX6_wheel_37 hl (by decide) rfl (fun ls hl => ?_)
    have loop39 : ∀ (fuel : Nat) (a : Nat) (ha : a ≤ sh) (H : Heap) (locs : List Loc), sh - a < fuel → WM dC dI am (mR (mN M (0, M.2.2.2.1, M.2.2.2.2.1, M.2.2.2.2.2)) i (rotI (M.1 i).1 (M.1 i).2.2 a, rotI (M.1 i).2.1 (M.1 i).2.2 a, (M.1 i).2.2)) [] (AM am) s H locs → ∀ ls : Array Slot, lv_has ls 7 [(0, .ref (am 0)), (1, .int (nI i)), (2, .int y), (3, .int (nI ((M.1 i).2.2))), (4, .int (nI sh)), (5, .int (nI a))] → W p l e ({ frames := 2, cells := 0, slots := 0, locals := 44 } : Room) s m ([.ref (am 0), .int (nI i), .int y]).toArray below meth c H locs 0 0 (MQ below (va_Qi (fun r M' => ((M.1 i).2.2 = 0 ∧ r = -1 ∧ M' = thM M 0) ∨ (0 < (M.1 i).2.2 ∧ ∃ sh, sh < (M.1 i).2.2 ∧ y - y / nI (M.1 i).2.2 * nI (M.1 i).2.2 + nI (M.1 i).2.2 - (y - y / nI (M.1 i).2.2 * nI (M.1 i).2.2 + nI (M.1 i).2.2) / nI (M.1 i).2.2 * nI (M.1 i).2.2 = nI sh ∧ r = nI (rotI (M.1 i).2.1 (M.1 i).2.2 sh 0) ∧ M' = mR (thM M 0) i (rotI (M.1 i).1 (M.1 i).2.2 sh, rotI (M.1 i).2.1 (M.1 i).2.2 sh, (M.1 i).2.2))) (PM dC dI am) (AM am)) ([.ref (am 0), .int (nI i), .int y]).toArray s 0 0 (AM am)) (F0 m 39 ls []) := by
      intro fuel
      induction fuel with
      | zero => intro a ha H locs hf; exact absurd hf (Nat.not_lt_zero _)
      | succ fuel ih39 =>
        intro a ha H locs hf hX ls hl
        refine lv_iload hx hb dX6_wheel_39 (lv_at hl 5 rfl) ?_
        refine lv_iload hx hb dX6_wheel_41 (lv_at hl 4 rfl) ?_
        refine kn_icmp_ge (tgt := 79) hx hb (by omega) (by omega) dX6_wheel_43 (by decide) (fun k_3 => ?_) (fun k_3 => ?_)
        · skip
          refine lv_aload_n hx hb dX6_wheel_79 rfl (lv_at hl 0 rfl) ?_
          refine km_gmarks hx hb hts hin6 hown hX (hts (.fieldLink RX6 14 "OrderlatticeModel" "marks" "[[I") (tm 711 (by decide +kernel) rfl)) dX6_wheel_80 ?_
          refine lv_iload_n hx hb dX6_wheel_83 rfl (lv_at hl 1 rfl) ?_
          refine km_am hx hb hX (by omega) dX6_wheel_84 ?_
          refine lv_iconst (v := nI 0) hx hb dX6_wheel_85 (by decide) ?_
          refine km_lm (v := (rotI (M.1 i).2.1 (M.1 i).2.2 a) 0) hx hb hX (by omega) (by omega) (by rw [mR_row] <;> rfl) dX6_wheel_86 ?_
          exact W.iret (v := nI ((rotI (M.1 i).2.1 (M.1 i).2.2 a) 0)) hx hb hr (fun t9 ht9 hW9 => ⟨⟨_, (mR (mN M (0, M.2.2.2.1, M.2.2.2.2.1, M.2.2.2.2.2)) i (rotI (M.1 i).1 (M.1 i).2.2 a, rotI (M.1 i).2.1 (M.1 i).2.2 a, (M.1 i).2.2)), rfl, (Or.inr ⟨by omega, sh, hs1, hs2, by rw [show a = sh by omega], by rw [show a = sh by omega]⟩), hX.P ht9 hW9⟩, hX.2.2.2.F ht9⟩) hX.2.2.2.2.2 dX6_wheel_87
        · skip
          refine lv_iload_n hx hb dX6_wheel_46 rfl (lv_at hl 3 rfl) ?_
          refine lv_iconst (v := nI 1) hx hb dX6_wheel_47 (by decide) ?_
          refine kn_isub hx hb (by omega) dX6_wheel_48 ?_
          refine lv_istore (lv' := [(6, .int (nI (((M.1 i).2.2) - 1))), (0, .ref (am 0)), (1, .int (nI i)), (2, .int y), (3, .int (nI ((M.1 i).2.2))), (4, .int (nI sh)), (5, .int (nI a))]) hx hb dX6_wheel_49 hl (by decide) rfl (fun ls hl => ?_)
          have loop51 : ∀ (fuel : Nat) (k : Nat) (hk : k < (M.1 i).2.2) (H : Heap) (locs : List Loc), k < fuel → WM dC dI am (mR (mN M (0, M.2.2.2.1, M.2.2.2.2.1, M.2.2.2.2.2)) i (car (rotI (M.1 i).1 (M.1 i).2.2 a) (M.1 i).2.2 k, car (rotI (M.1 i).2.1 (M.1 i).2.2 a) (M.1 i).2.2 k, (M.1 i).2.2)) [] (AM am) s H locs → ∀ ls : Array Slot, lv_has ls 7 [(0, .ref (am 0)), (1, .int (nI i)), (2, .int y), (3, .int (nI ((M.1 i).2.2))), (4, .int (nI sh)), (5, .int (nI a)), (6, .int (nI k))] → W p l e ({ frames := 2, cells := 0, slots := 0, locals := 44 } : Room) s m ([.ref (am 0), .int (nI i), .int y]).toArray below meth c H locs 0 0 (MQ below (va_Qi (fun r M' => ((M.1 i).2.2 = 0 ∧ r = -1 ∧ M' = thM M 0) ∨ (0 < (M.1 i).2.2 ∧ ∃ sh, sh < (M.1 i).2.2 ∧ y - y / nI (M.1 i).2.2 * nI (M.1 i).2.2 + nI (M.1 i).2.2 - (y - y / nI (M.1 i).2.2 * nI (M.1 i).2.2 + nI (M.1 i).2.2) / nI (M.1 i).2.2 * nI (M.1 i).2.2 = nI sh ∧ r = nI (rotI (M.1 i).2.1 (M.1 i).2.2 sh 0) ∧ M' = mR (thM M 0) i (rotI (M.1 i).1 (M.1 i).2.2 sh, rotI (M.1 i).2.1 (M.1 i).2.2 sh, (M.1 i).2.2))) (PM dC dI am) (AM am)) ([.ref (am 0), .int (nI i), .int y]).toArray s 0 0 (AM am)) (F0 m 51 ls []) := by
            intro fuel
            induction fuel with
            | zero => intro k hk H locs hf; exact absurd hf (Nat.not_lt_zero _)
            | succ fuel ih51 =>
              intro k hk H locs hf hX ls hl
              refine lv_iload hx hb dX6_wheel_51 (lv_at hl 6 rfl) ?_
              refine kn_if_le (tgt := 73) hx hb (by omega) dX6_wheel_53 (by decide) (fun k_4 => ?_) (fun k_4 => ?_)
              · skip
                refine lv_iinc (v := nI (a + 1)) (lv' := [(5, .int (nI (a + 1))), (0, .ref (am 0)), (1, .int (nI i)), (2, .int y), (3, .int (nI ((M.1 i).2.2))), (4, .int (nI sh)), (6, .int (nI k))]) hx hb dX6_wheel_73 hl (k := 5) rfl (nI_1 a) (by decide) rfl (fun ls hl => ?_)
                refine lv_goto (tgt := 39) hx hb dX6_wheel_76 (by decide) ?_
                exact ih39  (a + 1) (by omega) _ _ (by omega) (WM.eqS (by rw [show k = 0 by omega]; rfl) hX) _ (lv_sub hl [1, 2, 3, 4, 5, 0] rfl)
              · skip
                refine lv_aload_n hx hb dX6_wheel_56 rfl (lv_at hl 0 rfl) ?_
                refine lv_iload_n hx hb dX6_wheel_57 rfl (lv_at hl 1 rfl) ?_
                refine lv_iload hx hb dX6_wheel_58 (lv_at hl 6 rfl) ?_
                refine lv_iload hx hb dX6_wheel_60 (lv_at hl 6 rfl) ?_
                refine lv_iconst (v := nI 1) hx hb dX6_wheel_62 (by decide) ?_
                refine kn_isub hx hb (by omega) dX6_wheel_63 ?_
                refine km_cv (va_runV (As := [.int (nI i), .int (nI k), .int (nI (k - 1))]) (rest := []) ⟨hx, hb, hml, hown, hts⟩ (m_X6_change l dC dI am (mR (mN M (0, M.2.2.2.1, M.2.2.2.2.1, M.2.2.2.2.2)) i (car (rotI (M.1 i).1 (M.1 i).2.2 a) (M.1 i).2.2 k, car (rotI (M.1 i).2.1 (M.1 i).2.2 a) (M.1 i).2.2 k, (M.1 i).2.2)) i k (k - 1) (by omega) (by omega) (by omega)) (cwV 3 hts gX6_wheel_X6_change rfl rfl rfl hdX6_change_3 ⟨Nat.le_of_ble_eq_true rfl, Nat.le_of_ble_eq_true rfl⟩) (hX.preObj) rfl rfl hl.1 rfl (lv_room (Nat.le_of_ble_eq_true rfl)) dX6_wheel_64 ⟨Nat.le_of_ble_eq_true rfl, Nat.le_of_ble_eq_true rfl⟩) hX (fun _ h => h) (fun S_ H locs hw hX => ?_)
                rw [mR_row, mR_mR] at hw
                subst hw
                refine lv_iinc (v := nI (k - 1)) (lv' := [(6, .int (nI (k - 1))), (0, .ref (am 0)), (1, .int (nI i)), (2, .int y), (3, .int (nI ((M.1 i).2.2))), (4, .int (nI sh)), (5, .int (nI a))]) hx hb dX6_wheel_67 hl (k := 6) rfl (kn_dec (by omega)) (by decide) rfl (fun ls hl => ?_)
                refine lv_goto (tgt := 51) hx hb dX6_wheel_70 (by decide) ?_
                exact ih51  (k - 1) (by omega) _ _ (by omega) (WM.eqS (by rw [car_up (by omega) (by omega), car_up (by omega) (by omega)]) hX) _ (lv_sub hl [1, 2, 3, 4, 5, 6, 0] rfl)
          exact loop51 ((M.1 i).2.2 + 1) (((M.1 i).2.2) - 1) (by omega) _ _ (by omega) (WM.eqS (by rw [car_top (by omega), car_top (by omega)]) hX) _ (lv_sub hl [1, 2, 3, 4, 5, 6, 0] rfl)
    exact loop39 (sh + 1) 0 (by omega) _ _ (by omega) (WM.eqS (mR_self _ i).symm hX) _ (lv_sub hl [3, 4, 5, 2, 1, 0] rfl)
  · skip
    have h0 := k_2
    refine lv_iconst (v := (-1)) hx hb dX6_wheel_25 (by decide) ?_
    exact W.iret (v := (-1)) hx hb hr (fun t9 ht9 hW9 => ⟨⟨_, (mN M (0, M.2.2.2.1, M.2.2.2.2.1, M.2.2.2.2.2)), rfl, (Or.inl ⟨by omega, rfl, rfl⟩), hX.P ht9 hW9⟩, hX.2.2.2.F ht9⟩) hX.2.2.2.2.2 dX6_wheel_26
set_option maxHeartbeats 4000000 in
set_option maxRecDepth 100000 in
theorem m_X6_swap (l : Launch) (dC : Nat → ClassId) (dI : Nat → Nat → Nat) (am : Nat → Nat) (M : MS) (i : Nat) (q : Nat) (q2 : Nat) (hi : i < 3) (hq : q < (M.1 i).2.2) (hq2 : q2 < (M.1 i).2.2) (hI : InvM M) : Met l yX6_swap wsX6_swap ({ frames := 2, cells := 0, slots := 0, locals := 44 } : Room) (va_Pc [.ref (am 0), .int (nI i), .int (nI q), .int (nI q2)] (PM dC dI am M)) (va_Qi (fun r M' => r = (if xch (M.1 i).1 q q2 q = xch (M.1 i).1 q q2 q2 then 0 else 1) ∧ M' = mR (thM M 0) i (xch (M.1 i).1 q q2, xch (M.1 i).2.1 q q2, (M.1 i).2.2)) (PM dC dI am) (AM am)) 0 0 (AM am) := by
  refine Met.ofW (cc := cX6_swap) (maxL := 4) (ret := (some .int)) pl_X6 rfl ?_
  intro p e s m args below meth c s₁ B hml hv
  obtain ⟨rfl, hPX⟩ := hv
  have hx := B.exec
  have hb := B.bytes
  have hr := B.returns
  have hts := atoms_spec (ws := wsX6_swap) B.pre
  have hown : s.vm.findClass RX6 = some m.cls := findClass_of_methodNamed B.named
  have hlocks := B.notSynchronized
  have hin6 : ∀ w ∈ u_ws RX6 TX6 10, w ∈ wsX6_swap := tu 1331 (by decide +kernel) rfl
  have hX := WM.of hPX
  have hl := lv_entry ([.ref (am 0), .int (nI i), .int (nI q), .int (nI q2)]) (n := 4) (Nat.le_of_ble_eq_true rfl)
  rw [lg_entry_eq]
  generalize (lg_sl ([.ref (am 0), .int (nI i), .int (nI q), .int (nI q2)]) ++ List.replicate (4 - (lg_sl ([.ref (am 0), .int (nI i), .int (nI q), .int (nI q2)])).length) Slot.unset).toArray = ls at hl ⊢
  have hl : lv_has ls 4 [(0, .ref (am 0)), (1, .int (nI i)), (2, .int (nI q)), (3, .int (nI q2))] := hl
  show W p l e ({ frames := 2, cells := 0, slots := 0, locals := 44 } : Room) s m ([.ref (am 0), .int (nI i), .int (nI q), .int (nI q2)]).toArray below meth c s.heap [] 0 0 (MQ below (va_Qi (fun r M' => r = (if xch (M.1 i).1 q q2 q = xch (M.1 i).1 q q2 q2 then 0 else 1) ∧ M' = mR (thM M 0) i (xch (M.1 i).1 q q2, xch (M.1 i).2.1 q q2, (M.1 i).2.2)) (PM dC dI am) (AM am)) ([.ref (am 0), .int (nI i), .int (nI q), .int (nI q2)]).toArray s 0 0 (AM am)) (F0 m 0 ls [])
  have hn := (hI.1 i (by omega)).1
  refine lv_aload_n hx hb dX6_swap_0 rfl (lv_at hl 0 rfl) ?_
  refine lv_iload_n hx hb dX6_swap_1 rfl (lv_at hl 1 rfl) ?_
  refine kx_cr (v := bI false) (va_runS (As := [.int (nI i)]) (rest := [.ref (am 0)]) ⟨hx, hb, hml, hown, hts⟩ (m_X6_isNoRow l dC dI am M (nI i)) (va_cwS 1 hts gX6_swap_X6_isNoRow rfl rfl rfl hdX6_isNoRow_1.2 ⟨Nat.le_of_ble_eq_true rfl, Nat.le_of_ble_eq_true rfl⟩) hX.preS rfl rfl hl.1 rfl (lv_room (Nat.le_of_ble_eq_true rfl)) dX6_swap_2 ⟨Nat.le_of_ble_eq_true rfl, Nat.le_of_ble_eq_true rfl⟩) (fun _ h => h.trans (isNo_ok (by omega) (by omega))) ?_
  refine lv_iconst (v := nI 1) hx hb dX6_swap_5 (by decide) ?_
  refine km_ci (va_runV (As := [.int (bI false), .int (nI 1)]) (rest := []) ⟨hx, hb, hml, hown, hts⟩ (m_X6_start l dC dI am M false 1 (by omega)) (cwV 2 hts gX6_swap_X6_start rfl rfl rfl hdX6_start_2 ⟨Nat.le_of_ble_eq_true rfl, Nat.le_of_ble_eq_true rfl⟩) (hX.preObj) rfl rfl hl.1 rfl (lv_room (Nat.le_of_ble_eq_true rfl)) dX6_swap_6 ⟨Nat.le_of_ble_eq_true rfl, Nat.le_of_ble_eq_true rfl⟩) hX (fun _ h => h) (fun r_ S_ H locs hw hX => ?_)
  obtain ⟨rfl, rfl⟩ := hw
  refine kb_if_ne (tgt := 55) hx hb dX6_swap_9 (by decide) (fun k_1 => absurd k_1 (by decide)) (fun k_1 => ?_)
  refine lv_aload_n hx hb dX6_swap_12 rfl (lv_at hl 0 rfl) ?_
  refine lv_iload_n hx hb dX6_swap_13 rfl (lv_at hl 2 rfl) ?_
  refine lv_aload_n hx hb dX6_swap_14 rfl (lv_at hl 0 rfl) ?_
  refine km_gsizes hx hb hts hin6 hown hX (hts (.fieldLink RX6 17 "OrderlatticeModel" "sizes" "[I") (tm 681 (by decide +kernel) rfl)) dX6_swap_15 ?_
  refine lv_iload_n hx hb dX6_swap_18 rfl (lv_at hl 1 rfl) ?_
  refine km_lz (v := (M.1 i).2.2) hx hb hX (by omega) rfl dX6_swap_19 ?_
  refine lv_iconst (v := nI 1) hx hb dX6_swap_20 (by decide) ?_
  refine kn_isub hx hb (by omega) dX6_swap_21 ?_
  refine kx_cr (v := bI false) (va_runS (As := [.int (nI q), .int (nI (((M.1 i).2.2) - 1))]) (rest := [.ref (am 0)]) ⟨hx, hb, hml, hown, hts⟩ (m_X6_isNo l dC dI am (mN M (0, M.2.2.2.1, M.2.2.2.2.1, M.2.2.2.2.2)) (nI q) (nI (((M.1 i).2.2) - 1))) (va_cwS 2 hts gX6_swap_X6_isNo rfl rfl rfl hdX6_isNo_2.2 ⟨Nat.le_of_ble_eq_true rfl, Nat.le_of_ble_eq_true rfl⟩) hX.preS rfl rfl hl.1 rfl (lv_room (Nat.le_of_ble_eq_true rfl)) dX6_swap_22 ⟨Nat.le_of_ble_eq_true rfl, Nat.le_of_ble_eq_true rfl⟩) (fun _ h => h.trans (isNo_ok (by omega) (by omega))) ?_
  refine kb_if_ne (tgt := 43) hx hb dX6_swap_25 (by decide) (fun k_2 => absurd k_2 (by decide)) (fun k_2 => ?_)
  refine lv_iload_n hx hb dX6_swap_28 rfl (lv_at hl 3 rfl) ?_
  refine lv_aload_n hx hb dX6_swap_29 rfl (lv_at hl 0 rfl) ?_
  refine km_gsizes hx hb hts hin6 hown hX (hts (.fieldLink RX6 17 "OrderlatticeModel" "sizes" "[I") (tm 681 (by decide +kernel) rfl)) dX6_swap_30 ?_
  refine lv_iload_n hx hb dX6_swap_33 rfl (lv_at hl 1 rfl) ?_
  refine km_lz (v := (M.1 i).2.2) hx hb hX (by omega) rfl dX6_swap_34 ?_
  refine lv_iconst (v := nI 1) hx hb dX6_swap_35 (by decide) ?_
  refine kn_isub hx hb (by omega) dX6_swap_36 ?_
  refine kx_cr (v := bI false) (va_runS (As := [.int (nI q2), .int (nI (((M.1 i).2.2) - 1))]) (rest := [.ref (am 0)]) ⟨hx, hb, hml, hown, hts⟩ (m_X6_isNo l dC dI am (mN M (0, M.2.2.2.1, M.2.2.2.2.1, M.2.2.2.2.2)) (nI q2) (nI (((M.1 i).2.2) - 1))) (va_cwS 2 hts gX6_swap_X6_isNo rfl rfl rfl hdX6_isNo_2.2 ⟨Nat.le_of_ble_eq_true rfl, Nat.le_of_ble_eq_true rfl⟩) hX.preS rfl rfl hl.1 rfl (lv_room (Nat.le_of_ble_eq_true rfl)) dX6_swap_37 ⟨Nat.le_of_ble_eq_true rfl, Nat.le_of_ble_eq_true rfl⟩) (fun _ h => h.trans (isNo_ok (by omega) (by omega))) ?_
  refine kb_if_eq (tgt := 47) hx hb dX6_swap_40 (by decide) (fun k_3 => ?_) (fun k_3 => absurd k_3 (by decide))
  refine lv_iconst (v := nI 0) hx hb dX6_swap_47 (by decide) ?_
  refine lv_iconst (v := nI 1) hx hb dX6_swap_48 (by decide) ?_
  refine km_ci (va_runV (As := [.int (nI 0), .int (nI 1)]) (rest := []) ⟨hx, hb, hml, hown, hts⟩ (m_X6_refuse l dC dI am (mN M (0, M.2.2.2.1, M.2.2.2.2.1, M.2.2.2.2.2)) false 1 (by omega) rfl) (cwV 2 hts gX6_swap_X6_refuse rfl rfl rfl hdX6_refuse_2 ⟨Nat.le_of_ble_eq_true rfl, Nat.le_of_ble_eq_true rfl⟩) (hX.preObj) rfl rfl hl.1 rfl (lv_room (Nat.le_of_ble_eq_true rfl)) dX6_swap_49 ⟨Nat.le_of_ble_eq_true rfl, Nat.le_of_ble_eq_true rfl⟩) hX (fun _ h => h) (fun r_ S_ H locs hw hX => ?_)
  obtain ⟨rfl, rfl⟩ := hw
  refine kb_if_eq (tgt := 57) hx hb dX6_swap_52 (by decide) (fun k_4 => ?_) (fun k_4 => absurd k_4 (by decide))
  refine lv_aload_n hx hb dX6_swap_57 rfl (lv_at hl 0 rfl) ?_
  refine lv_iload_n hx hb dX6_swap_58 rfl (lv_at hl 1 rfl) ?_
  refine lv_iload_n hx hb dX6_swap_59 rfl (lv_at hl 2 rfl) ?_
  refine lv_iload_n hx hb dX6_swap_60 rfl (lv_at hl 3 rfl) ?_
  refine km_cv (va_runV (As := [.int (nI i), .int (nI q), .int (nI q2)]) (rest := []) ⟨hx, hb, hml, hown, hts⟩ (m_X6_change l dC dI am (mN M (0, M.2.2.2.1, M.2.2.2.2.1, M.2.2.2.2.2)) i q q2 (by omega) (by omega) (by omega)) (cwV 3 hts gX6_swap_X6_change rfl rfl rfl hdX6_change_3 ⟨Nat.le_of_ble_eq_true rfl, Nat.le_of_ble_eq_true rfl⟩) (hX.preObj) rfl rfl hl.1 rfl (lv_room (Nat.le_of_ble_eq_true rfl)) dX6_swap_61 ⟨Nat.le_of_ble_eq_true rfl, Nat.le_of_ble_eq_true rfl⟩) hX (fun _ h => h) (fun S_ H locs hw hX => ?_)
  subst hw
  refine lv_aload_n hx hb dX6_swap_64 rfl (lv_at hl 0 rfl) ?_
  refine km_gvalues hx hb hts hin6 hown hX (hts (.fieldLink RX6 11 "OrderlatticeModel" "values" "[[I") (tm 710 (by decide +kernel) rfl)) dX6_swap_65 ?_
  refine lv_iload_n hx hb dX6_swap_68 rfl (lv_at hl 1 rfl) ?_
  refine km_av hx hb hX (by omega) dX6_swap_69 ?_
  refine lv_iload_n hx hb dX6_swap_70 rfl (lv_at hl 2 rfl) ?_
  refine km_lv (v := (xch ((M.1 i).1) q q2) q) hx hb hX (by omega) (by omega) (by rw [mR_row] <;> rfl) dX6_swap_71 ?_
  refine lv_aload_n hx hb dX6_swap_72 rfl (lv_at hl 0 rfl) ?_
  refine km_gvalues hx hb hts hin6 hown hX (hts (.fieldLink RX6 11 "OrderlatticeModel" "values" "[[I") (tm 710 (by decide +kernel) rfl)) dX6_swap_73 ?_
  refine lv_iload_n hx hb dX6_swap_76 rfl (lv_at hl 1 rfl) ?_
  refine km_av hx hb hX (by omega) dX6_swap_77 ?_
  refine lv_iload_n hx hb dX6_swap_78 rfl (lv_at hl 3 rfl) ?_
  refine km_lv (v := (xch ((M.1 i).1) q q2) q2) hx hb hX (by omega) (by omega) (by rw [mR_row] <;> rfl) dX6_swap_79 ?_
  have h1 := xchM_lt (f := (M.1 i).1) (a := q) (b := q2) (m := 16) (fun x hx => ((hI.1 i (by omega)).2 x hx).1) (by omega) (by omega) q (by omega)
  have h2 := xchM_lt (f := (M.1 i).1) (a := q) (b := q2) (m := 16) (fun x hx => ((hI.1 i (by omega)).2 x hx).1) (by omega) (by omega) q2 (by omega)
  refine kn_icmp_eq (tgt := 87) hx hb (by omega) (by omega) dX6_swap_80 (by decide) (fun k_5 => ?_) (fun k_5 => ?_)
  · skip
    have hc := k_5
    refine lv_iconst (v := nI 0) hx hb dX6_swap_87 (by decide) ?_
    exact W.iret (v := nI 0) hx hb hr (fun t9 ht9 hW9 => ⟨⟨_, (mR (mN M (0, M.2.2.2.1, M.2.2.2.2.1, M.2.2.2.2.2)) i (xch ((M.1 i).1) q q2, xch ((M.1 i).2.1) q q2, (M.1 i).2.2)), rfl, ⟨(if_pos hc).symm, rfl⟩, hX.P ht9 hW9⟩, hX.2.2.2.F ht9⟩) hX.2.2.2.2.2 dX6_swap_88
  · skip
    have hc := k_5
    refine lv_iconst (v := nI 1) hx hb dX6_swap_83 (by decide) ?_
    refine lv_goto (tgt := 88) hx hb dX6_swap_84 (by decide) ?_
    exact W.iret (v := nI 1) hx hb hr (fun t9 ht9 hW9 => ⟨⟨_, (mR (mN M (0, M.2.2.2.1, M.2.2.2.2.1, M.2.2.2.2.2)) i (xch ((M.1 i).1) q q2, xch ((M.1 i).2.1) q q2, (M.1 i).2.2)), rfl, ⟨(if_neg hc).symm, rfl⟩, hX.P ht9 hW9⟩, hX.2.2.2.F ht9⟩) hX.2.2.2.2.2 dX6_swap_88
set_option maxHeartbeats 4000000 in
set_option maxRecDepth 100000 in
theorem o_X6_put_1 (l : Launch) (dC : Nat → ClassId) (dI : Nat → Nat → Nat) (am : Nat → Nat) (M : MS) (x9 : Int32) (y1 : Int32) (hb9 : x9 < 0 ∨ nI 3 ≤ x9) (hI : InvM M) : Met l yX6_put wsX6_put ({ frames := 2, cells := 0, slots := 0, locals := 44 } : Room) (va_Pc [.ref (am 0), .int x9, .int y1] (PM dC dI am M)) (va_Qi (fun r M' => M' = thM M 1) (PM dC dI am) (AM am)) 0 0 (AM am) := by
  refine Met.ofW (cc := cX6_put) (maxL := 3) (ret := (some .int)) pl_X6 rfl ?_
  intro p e s m args below meth c s₁ B hml hv
  obtain ⟨rfl, hPX⟩ := hv
  have hx := B.exec
  have hb := B.bytes
  have hr := B.returns
  have hts := atoms_spec (ws := wsX6_put) B.pre
  have hown : s.vm.findClass RX6 = some m.cls := findClass_of_methodNamed B.named
  have hlocks := B.notSynchronized
  have hin6 : ∀ w ∈ u_ws RX6 TX6 10, w ∈ wsX6_put := tu 1331 (by decide +kernel) rfl
  have hX := WM.of hPX
  have hl := lv_entry ([.ref (am 0), .int x9, .int y1]) (n := 3) (Nat.le_of_ble_eq_true rfl)
  rw [lg_entry_eq]
  generalize (lg_sl ([.ref (am 0), .int x9, .int y1]) ++ List.replicate (3 - (lg_sl ([.ref (am 0), .int x9, .int y1])).length) Slot.unset).toArray = ls at hl ⊢
  have hl : lv_has ls 3 [(0, .ref (am 0)), (1, .int x9), (2, .int y1)] := hl
  show W p l e ({ frames := 2, cells := 0, slots := 0, locals := 44 } : Room) s m ([.ref (am 0), .int x9, .int y1]).toArray below meth c s.heap [] 0 0 (MQ below (va_Qi (fun r M' => M' = thM M 1) (PM dC dI am) (AM am)) ([.ref (am 0), .int x9, .int y1]).toArray s 0 0 (AM am)) (F0 m 0 ls [])
  refine lv_aload_n hx hb dX6_put_0 rfl (lv_at hl 0 rfl) ?_
  refine lv_iload_n hx hb dX6_put_1 rfl (lv_at hl 1 rfl) ?_
  refine kx_cr (v := bI true) (va_runS (As := [.int x9]) (rest := [.ref (am 0)]) ⟨hx, hb, hml, hown, hts⟩ (m_X6_isNoRow l dC dI am M x9) (va_cwS 1 hts gX6_put_X6_isNoRow rfl rfl rfl hdX6_isNoRow_1.2 ⟨Nat.le_of_ble_eq_true rfl, Nat.le_of_ble_eq_true rfl⟩) hX.preS rfl rfl hl.1 rfl (lv_room (Nat.le_of_ble_eq_true rfl)) dX6_put_2 ⟨Nat.le_of_ble_eq_true rfl, Nat.le_of_ble_eq_true rfl⟩) (fun _ h => h.trans (isNo_bad (isNo_r hb9))) ?_
  refine lv_iconst (v := nI 1) hx hb dX6_put_5 (by decide) ?_
  refine km_ci (va_runV (As := [.int (bI true), .int (nI 1)]) (rest := []) ⟨hx, hb, hml, hown, hts⟩ (m_X6_start l dC dI am M true 1 (by omega)) (cwV 2 hts gX6_put_X6_start rfl rfl rfl hdX6_start_2 ⟨Nat.le_of_ble_eq_true rfl, Nat.le_of_ble_eq_true rfl⟩) (hX.preObj) rfl rfl hl.1 rfl (lv_room (Nat.le_of_ble_eq_true rfl)) dX6_put_6 ⟨Nat.le_of_ble_eq_true rfl, Nat.le_of_ble_eq_true rfl⟩) hX (fun _ h => h) (fun r_ S_ H locs hw hX => ?_)
  obtain ⟨rfl, rfl⟩ := hw
  refine kb_if_ne (tgt := 24) hx hb dX6_put_9 (by decide) (fun k_1 => ?_) (fun k_1 => absurd k_1 (by decide))
  refine lv_iconst (v := nI 0) hx hb dX6_put_24 (by decide) ?_
  exact W.iret (v := nI 0) hx hb hr (fun t9 ht9 hW9 => ⟨⟨_, (mN M (1, M.2.2.2.1, M.2.2.2.2.1, M.2.2.2.2.2)), rfl, rfl, hX.P ht9 hW9⟩, hX.2.2.2.F ht9⟩) hX.2.2.2.2.2 dX6_put_25
set_option maxHeartbeats 4000000 in
set_option maxRecDepth 100000 in
theorem o_X6_put_2 (l : Launch) (dC : Nat → ClassId) (dI : Nat → Nat → Nat) (am : Nat → Nat) (M : MS) (i : Nat) (x9 : Int32) (hi : i < 3) (hb9 : x9 < 0 ∨ nI 15 < x9) (hI : InvM M) : Met l yX6_put wsX6_put ({ frames := 2, cells := 0, slots := 0, locals := 44 } : Room) (va_Pc [.ref (am 0), .int (nI i), .int x9] (PM dC dI am M)) (va_Qi (fun r M' => M' = thM M 2) (PM dC dI am) (AM am)) 0 0 (AM am) := by
  refine Met.ofW (cc := cX6_put) (maxL := 3) (ret := (some .int)) pl_X6 rfl ?_
  intro p e s m args below meth c s₁ B hml hv
  obtain ⟨rfl, hPX⟩ := hv
  have hx := B.exec
  have hb := B.bytes
  have hr := B.returns
  have hts := atoms_spec (ws := wsX6_put) B.pre
  have hown : s.vm.findClass RX6 = some m.cls := findClass_of_methodNamed B.named
  have hlocks := B.notSynchronized
  have hin6 : ∀ w ∈ u_ws RX6 TX6 10, w ∈ wsX6_put := tu 1331 (by decide +kernel) rfl
  have hX := WM.of hPX
  have hl := lv_entry ([.ref (am 0), .int (nI i), .int x9]) (n := 3) (Nat.le_of_ble_eq_true rfl)
  rw [lg_entry_eq]
  generalize (lg_sl ([.ref (am 0), .int (nI i), .int x9]) ++ List.replicate (3 - (lg_sl ([.ref (am 0), .int (nI i), .int x9])).length) Slot.unset).toArray = ls at hl ⊢
  have hl : lv_has ls 3 [(0, .ref (am 0)), (1, .int (nI i)), (2, .int x9)] := hl
  show W p l e ({ frames := 2, cells := 0, slots := 0, locals := 44 } : Room) s m ([.ref (am 0), .int (nI i), .int x9]).toArray below meth c s.heap [] 0 0 (MQ below (va_Qi (fun r M' => M' = thM M 2) (PM dC dI am) (AM am)) ([.ref (am 0), .int (nI i), .int x9]).toArray s 0 0 (AM am)) (F0 m 0 ls [])
  refine lv_aload_n hx hb dX6_put_0 rfl (lv_at hl 0 rfl) ?_
  refine lv_iload_n hx hb dX6_put_1 rfl (lv_at hl 1 rfl) ?_
  refine kx_cr (v := bI false) (va_runS (As := [.int (nI i)]) (rest := [.ref (am 0)]) ⟨hx, hb, hml, hown, hts⟩ (m_X6_isNoRow l dC dI am M (nI i)) (va_cwS 1 hts gX6_put_X6_isNoRow rfl rfl rfl hdX6_isNoRow_1.2 ⟨Nat.le_of_ble_eq_true rfl, Nat.le_of_ble_eq_true rfl⟩) hX.preS rfl rfl hl.1 rfl (lv_room (Nat.le_of_ble_eq_true rfl)) dX6_put_2 ⟨Nat.le_of_ble_eq_true rfl, Nat.le_of_ble_eq_true rfl⟩) (fun _ h => h.trans (isNo_ok (by omega) (by omega))) ?_
  refine lv_iconst (v := nI 1) hx hb dX6_put_5 (by decide) ?_
  refine km_ci (va_runV (As := [.int (bI false), .int (nI 1)]) (rest := []) ⟨hx, hb, hml, hown, hts⟩ (m_X6_start l dC dI am M false 1 (by omega)) (cwV 2 hts gX6_put_X6_start rfl rfl rfl hdX6_start_2 ⟨Nat.le_of_ble_eq_true rfl, Nat.le_of_ble_eq_true rfl⟩) (hX.preObj) rfl rfl hl.1 rfl (lv_room (Nat.le_of_ble_eq_true rfl)) dX6_put_6 ⟨Nat.le_of_ble_eq_true rfl, Nat.le_of_ble_eq_true rfl⟩) hX (fun _ h => h) (fun r_ S_ H locs hw hX => ?_)
  obtain ⟨rfl, rfl⟩ := hw
  refine kb_if_ne (tgt := 24) hx hb dX6_put_9 (by decide) (fun k_1 => absurd k_1 (by decide)) (fun k_1 => ?_)
  refine lv_aload_n hx hb dX6_put_12 rfl (lv_at hl 0 rfl) ?_
  refine lv_iload_n hx hb dX6_put_13 rfl (lv_at hl 2 rfl) ?_
  refine kx_cr (v := bI true) (va_runS (As := [.int x9]) (rest := [.ref (am 0)]) ⟨hx, hb, hml, hown, hts⟩ (m_X6_isNoValue l dC dI am (mN M (0, M.2.2.2.1, M.2.2.2.2.1, M.2.2.2.2.2)) x9) (va_cwS 1 hts gX6_put_X6_isNoValue rfl rfl rfl hdX6_isNoValue_1.2 ⟨Nat.le_of_ble_eq_true rfl, Nat.le_of_ble_eq_true rfl⟩) hX.preS rfl rfl hl.1 rfl (lv_room (Nat.le_of_ble_eq_true rfl)) dX6_put_14 ⟨Nat.le_of_ble_eq_true rfl, Nat.le_of_ble_eq_true rfl⟩) (fun _ h => h.trans (isNo_bad hb9)) ?_
  refine lv_iconst (v := nI 2) hx hb dX6_put_17 (by decide) ?_
  refine km_ci (va_runV (As := [.int (bI true), .int (nI 2)]) (rest := []) ⟨hx, hb, hml, hown, hts⟩ (m_X6_refuse l dC dI am (mN M (0, M.2.2.2.1, M.2.2.2.2.1, M.2.2.2.2.2)) true 2 (by omega) rfl) (cwV 2 hts gX6_put_X6_refuse rfl rfl rfl hdX6_refuse_2 ⟨Nat.le_of_ble_eq_true rfl, Nat.le_of_ble_eq_true rfl⟩) (hX.preObj) rfl rfl hl.1 rfl (lv_room (Nat.le_of_ble_eq_true rfl)) dX6_put_18 ⟨Nat.le_of_ble_eq_true rfl, Nat.le_of_ble_eq_true rfl⟩) hX (fun _ h => h) (fun r_ S_ H locs hw hX => ?_)
  obtain ⟨rfl, rfl⟩ := hw
  refine kb_if_eq (tgt := 26) hx hb dX6_put_21 (by decide) (fun k_2 => absurd k_2 (by decide)) (fun k_2 => ?_)
  refine lv_iconst (v := nI 0) hx hb dX6_put_24 (by decide) ?_
  exact W.iret (v := nI 0) hx hb hr (fun t9 ht9 hW9 => ⟨⟨_, (mN M (2, M.2.2.2.1, M.2.2.2.2.1, M.2.2.2.2.2)), rfl, rfl, hX.P ht9 hW9⟩, hX.2.2.2.F ht9⟩) hX.2.2.2.2.2 dX6_put_25
set_option maxHeartbeats 4000000 in
set_option maxRecDepth 100000 in
theorem o_X6_putAt_1 (l : Launch) (dC : Nat → ClassId) (dI : Nat → Nat → Nat) (am : Nat → Nat) (M : MS) (x9 : Int32) (y1 : Int32) (y2 : Int32) (hb9 : x9 < 0 ∨ nI 3 ≤ x9) (hI : InvM M) : Met l yX6_putAt wsX6_putAt ({ frames := 2, cells := 0, slots := 0, locals := 44 } : Room) (va_Pc [.ref (am 0), .int x9, .int y1, .int y2] (PM dC dI am M)) (va_Qi (fun r M' => M' = thM M 1) (PM dC dI am) (AM am)) 0 0 (AM am) := by
  refine Met.ofW (cc := cX6_putAt) (maxL := 4) (ret := (some .int)) pl_X6 rfl ?_
  intro p e s m args below meth c s₁ B hml hv
  obtain ⟨rfl, hPX⟩ := hv
  have hx := B.exec
  have hb := B.bytes
  have hr := B.returns
  have hts := atoms_spec (ws := wsX6_putAt) B.pre
  have hown : s.vm.findClass RX6 = some m.cls := findClass_of_methodNamed B.named
  have hlocks := B.notSynchronized
  have hin6 : ∀ w ∈ u_ws RX6 TX6 10, w ∈ wsX6_putAt := tu 1331 (by decide +kernel) rfl
  have hX := WM.of hPX
  have hl := lv_entry ([.ref (am 0), .int x9, .int y1, .int y2]) (n := 4) (Nat.le_of_ble_eq_true rfl)
  rw [lg_entry_eq]
  generalize (lg_sl ([.ref (am 0), .int x9, .int y1, .int y2]) ++ List.replicate (4 - (lg_sl ([.ref (am 0), .int x9, .int y1, .int y2])).length) Slot.unset).toArray = ls at hl ⊢
  have hl : lv_has ls 4 [(0, .ref (am 0)), (1, .int x9), (2, .int y1), (3, .int y2)] := hl
  show W p l e ({ frames := 2, cells := 0, slots := 0, locals := 44 } : Room) s m ([.ref (am 0), .int x9, .int y1, .int y2]).toArray below meth c s.heap [] 0 0 (MQ below (va_Qi (fun r M' => M' = thM M 1) (PM dC dI am) (AM am)) ([.ref (am 0), .int x9, .int y1, .int y2]).toArray s 0 0 (AM am)) (F0 m 0 ls [])
  refine lv_aload_n hx hb dX6_putAt_0 rfl (lv_at hl 0 rfl) ?_
  refine lv_iload_n hx hb dX6_putAt_1 rfl (lv_at hl 1 rfl) ?_
  refine kx_cr (v := bI true) (va_runS (As := [.int x9]) (rest := [.ref (am 0)]) ⟨hx, hb, hml, hown, hts⟩ (m_X6_isNoRow l dC dI am M x9) (va_cwS 1 hts gX6_putAt_X6_isNoRow rfl rfl rfl hdX6_isNoRow_1.2 ⟨Nat.le_of_ble_eq_true rfl, Nat.le_of_ble_eq_true rfl⟩) hX.preS rfl rfl hl.1 rfl (lv_room (Nat.le_of_ble_eq_true rfl)) dX6_putAt_2 ⟨Nat.le_of_ble_eq_true rfl, Nat.le_of_ble_eq_true rfl⟩) (fun _ h => h.trans (isNo_bad (isNo_r hb9))) ?_
  refine lv_iconst (v := nI 1) hx hb dX6_putAt_5 (by decide) ?_
  refine km_ci (va_runV (As := [.int (bI true), .int (nI 1)]) (rest := []) ⟨hx, hb, hml, hown, hts⟩ (m_X6_start l dC dI am M true 1 (by omega)) (cwV 2 hts gX6_putAt_X6_start rfl rfl rfl hdX6_start_2 ⟨Nat.le_of_ble_eq_true rfl, Nat.le_of_ble_eq_true rfl⟩) (hX.preObj) rfl rfl hl.1 rfl (lv_room (Nat.le_of_ble_eq_true rfl)) dX6_putAt_6 ⟨Nat.le_of_ble_eq_true rfl, Nat.le_of_ble_eq_true rfl⟩) hX (fun _ h => h) (fun r_ S_ H locs hw hX => ?_)
  obtain ⟨rfl, rfl⟩ := hw
  refine kb_if_ne (tgt := 42) hx hb dX6_putAt_9 (by decide) (fun k_1 => ?_) (fun k_1 => absurd k_1 (by decide))
  refine lv_iconst (v := nI 0) hx hb dX6_putAt_42 (by decide) ?_
  exact W.iret (v := nI 0) hx hb hr (fun t9 ht9 hW9 => ⟨⟨_, (mN M (1, M.2.2.2.1, M.2.2.2.2.1, M.2.2.2.2.2)), rfl, rfl, hX.P ht9 hW9⟩, hX.2.2.2.F ht9⟩) hX.2.2.2.2.2 dX6_putAt_43
set_option maxHeartbeats 4000000 in
set_option maxRecDepth 100000 in
theorem o_X6_putAt_2 (l : Launch) (dC : Nat → ClassId) (dI : Nat → Nat → Nat) (am : Nat → Nat) (M : MS) (i : Nat) (x9 : Int32) (y2 : Int32) (hi : i < 3) (hb9 : x9 < 0 ∨ nI (M.1 i).2.2 < x9) (hI : InvM M) : Met l yX6_putAt wsX6_putAt ({ frames := 2, cells := 0, slots := 0, locals := 44 } : Room) (va_Pc [.ref (am 0), .int (nI i), .int x9, .int y2] (PM dC dI am M)) (va_Qi (fun r M' => M' = thM M 1) (PM dC dI am) (AM am)) 0 0 (AM am) := by
  refine Met.ofW (cc := cX6_putAt) (maxL := 4) (ret := (some .int)) pl_X6 rfl ?_
  intro p e s m args below meth c s₁ B hml hv
  obtain ⟨rfl, hPX⟩ := hv
  have hx := B.exec
  have hb := B.bytes
  have hr := B.returns
  have hts := atoms_spec (ws := wsX6_putAt) B.pre
  have hown : s.vm.findClass RX6 = some m.cls := findClass_of_methodNamed B.named
  have hlocks := B.notSynchronized
  have hin6 : ∀ w ∈ u_ws RX6 TX6 10, w ∈ wsX6_putAt := tu 1331 (by decide +kernel) rfl
  have hX := WM.of hPX
  have hl := lv_entry ([.ref (am 0), .int (nI i), .int x9, .int y2]) (n := 4) (Nat.le_of_ble_eq_true rfl)
  rw [lg_entry_eq]
  generalize (lg_sl ([.ref (am 0), .int (nI i), .int x9, .int y2]) ++ List.replicate (4 - (lg_sl ([.ref (am 0), .int (nI i), .int x9, .int y2])).length) Slot.unset).toArray = ls at hl ⊢
  have hl : lv_has ls 4 [(0, .ref (am 0)), (1, .int (nI i)), (2, .int x9), (3, .int y2)] := hl
  show W p l e ({ frames := 2, cells := 0, slots := 0, locals := 44 } : Room) s m ([.ref (am 0), .int (nI i), .int x9, .int y2]).toArray below meth c s.heap [] 0 0 (MQ below (va_Qi (fun r M' => M' = thM M 1) (PM dC dI am) (AM am)) ([.ref (am 0), .int (nI i), .int x9, .int y2]).toArray s 0 0 (AM am)) (F0 m 0 ls [])
  have hn := (hI.1 i (by omega)).1
  refine lv_aload_n hx hb dX6_putAt_0 rfl (lv_at hl 0 rfl) ?_
  refine lv_iload_n hx hb dX6_putAt_1 rfl (lv_at hl 1 rfl) ?_
  refine kx_cr (v := bI false) (va_runS (As := [.int (nI i)]) (rest := [.ref (am 0)]) ⟨hx, hb, hml, hown, hts⟩ (m_X6_isNoRow l dC dI am M (nI i)) (va_cwS 1 hts gX6_putAt_X6_isNoRow rfl rfl rfl hdX6_isNoRow_1.2 ⟨Nat.le_of_ble_eq_true rfl, Nat.le_of_ble_eq_true rfl⟩) hX.preS rfl rfl hl.1 rfl (lv_room (Nat.le_of_ble_eq_true rfl)) dX6_putAt_2 ⟨Nat.le_of_ble_eq_true rfl, Nat.le_of_ble_eq_true rfl⟩) (fun _ h => h.trans (isNo_ok (by omega) (by omega))) ?_
  refine lv_iconst (v := nI 1) hx hb dX6_putAt_5 (by decide) ?_
  refine km_ci (va_runV (As := [.int (bI false), .int (nI 1)]) (rest := []) ⟨hx, hb, hml, hown, hts⟩ (m_X6_start l dC dI am M false 1 (by omega)) (cwV 2 hts gX6_putAt_X6_start rfl rfl rfl hdX6_start_2 ⟨Nat.le_of_ble_eq_true rfl, Nat.le_of_ble_eq_true rfl⟩) (hX.preObj) rfl rfl hl.1 rfl (lv_room (Nat.le_of_ble_eq_true rfl)) dX6_putAt_6 ⟨Nat.le_of_ble_eq_true rfl, Nat.le_of_ble_eq_true rfl⟩) hX (fun _ h => h) (fun r_ S_ H locs hw hX => ?_)
  obtain ⟨rfl, rfl⟩ := hw
  refine kb_if_ne (tgt := 42) hx hb dX6_putAt_9 (by decide) (fun k_1 => absurd k_1 (by decide)) (fun k_1 => ?_)
  refine lv_aload_n hx hb dX6_putAt_12 rfl (lv_at hl 0 rfl) ?_
  refine lv_iload_n hx hb dX6_putAt_13 rfl (lv_at hl 2 rfl) ?_
  refine lv_aload_n hx hb dX6_putAt_14 rfl (lv_at hl 0 rfl) ?_
  refine km_gsizes hx hb hts hin6 hown hX (hts (.fieldLink RX6 17 "OrderlatticeModel" "sizes" "[I") (tm 681 (by decide +kernel) rfl)) dX6_putAt_15 ?_
  refine lv_iload_n hx hb dX6_putAt_18 rfl (lv_at hl 1 rfl) ?_
  refine km_lz (v := (M.1 i).2.2) hx hb hX (by omega) rfl dX6_putAt_19 ?_
  refine kx_cr (v := bI true) (va_runS (As := [.int x9, .int (nI ((M.1 i).2.2))]) (rest := [.ref (am 0)]) ⟨hx, hb, hml, hown, hts⟩ (m_X6_isNo l dC dI am (mN M (0, M.2.2.2.1, M.2.2.2.2.1, M.2.2.2.2.2)) x9 (nI ((M.1 i).2.2))) (va_cwS 2 hts gX6_putAt_X6_isNo rfl rfl rfl hdX6_isNo_2.2 ⟨Nat.le_of_ble_eq_true rfl, Nat.le_of_ble_eq_true rfl⟩) hX.preS rfl rfl hl.1 rfl (lv_room (Nat.le_of_ble_eq_true rfl)) dX6_putAt_20 ⟨Nat.le_of_ble_eq_true rfl, Nat.le_of_ble_eq_true rfl⟩) (fun _ h => h.trans (isNo_bad hb9)) ?_
  refine lv_iconst (v := nI 1) hx hb dX6_putAt_23 (by decide) ?_
  refine km_ci (va_runV (As := [.int (bI true), .int (nI 1)]) (rest := []) ⟨hx, hb, hml, hown, hts⟩ (m_X6_refuse l dC dI am (mN M (0, M.2.2.2.1, M.2.2.2.2.1, M.2.2.2.2.2)) true 1 (by omega) rfl) (cwV 2 hts gX6_putAt_X6_refuse rfl rfl rfl hdX6_refuse_2 ⟨Nat.le_of_ble_eq_true rfl, Nat.le_of_ble_eq_true rfl⟩) (hX.preObj) rfl rfl hl.1 rfl (lv_room (Nat.le_of_ble_eq_true rfl)) dX6_putAt_24 ⟨Nat.le_of_ble_eq_true rfl, Nat.le_of_ble_eq_true rfl⟩) hX (fun _ h => h) (fun r_ S_ H locs hw hX => ?_)
  obtain ⟨rfl, rfl⟩ := hw
  refine kb_if_ne (tgt := 42) hx hb dX6_putAt_27 (by decide) (fun k_2 => ?_) (fun k_2 => absurd k_2 (by decide))
  refine lv_iconst (v := nI 0) hx hb dX6_putAt_42 (by decide) ?_
  exact W.iret (v := nI 0) hx hb hr (fun t9 ht9 hW9 => ⟨⟨_, (mN M (1, M.2.2.2.1, M.2.2.2.2.1, M.2.2.2.2.2)), rfl, rfl, hX.P ht9 hW9⟩, hX.2.2.2.F ht9⟩) hX.2.2.2.2.2 dX6_putAt_43
set_option maxHeartbeats 4000000 in
set_option maxRecDepth 100000 in
theorem o_X6_putAt_3 (l : Launch) (dC : Nat → ClassId) (dI : Nat → Nat → Nat) (am : Nat → Nat) (M : MS) (i : Nat) (q : Nat) (x9 : Int32) (hi : i < 3) (hq : q ≤ (M.1 i).2.2) (hb9 : x9 < 0 ∨ nI 15 < x9) (hI : InvM M) : Met l yX6_putAt wsX6_putAt ({ frames := 2, cells := 0, slots := 0, locals := 44 } : Room) (va_Pc [.ref (am 0), .int (nI i), .int (nI q), .int x9] (PM dC dI am M)) (va_Qi (fun r M' => M' = thM M 2) (PM dC dI am) (AM am)) 0 0 (AM am) := by
  refine Met.ofW (cc := cX6_putAt) (maxL := 4) (ret := (some .int)) pl_X6 rfl ?_
  intro p e s m args below meth c s₁ B hml hv
  obtain ⟨rfl, hPX⟩ := hv
  have hx := B.exec
  have hb := B.bytes
  have hr := B.returns
  have hts := atoms_spec (ws := wsX6_putAt) B.pre
  have hown : s.vm.findClass RX6 = some m.cls := findClass_of_methodNamed B.named
  have hlocks := B.notSynchronized
  have hin6 : ∀ w ∈ u_ws RX6 TX6 10, w ∈ wsX6_putAt := tu 1331 (by decide +kernel) rfl
  have hX := WM.of hPX
  have hl := lv_entry ([.ref (am 0), .int (nI i), .int (nI q), .int x9]) (n := 4) (Nat.le_of_ble_eq_true rfl)
  rw [lg_entry_eq]
  generalize (lg_sl ([.ref (am 0), .int (nI i), .int (nI q), .int x9]) ++ List.replicate (4 - (lg_sl ([.ref (am 0), .int (nI i), .int (nI q), .int x9])).length) Slot.unset).toArray = ls at hl ⊢
  have hl : lv_has ls 4 [(0, .ref (am 0)), (1, .int (nI i)), (2, .int (nI q)), (3, .int x9)] := hl
  show W p l e ({ frames := 2, cells := 0, slots := 0, locals := 44 } : Room) s m ([.ref (am 0), .int (nI i), .int (nI q), .int x9]).toArray below meth c s.heap [] 0 0 (MQ below (va_Qi (fun r M' => M' = thM M 2) (PM dC dI am) (AM am)) ([.ref (am 0), .int (nI i), .int (nI q), .int x9]).toArray s 0 0 (AM am)) (F0 m 0 ls [])
  have hn := (hI.1 i (by omega)).1
  refine lv_aload_n hx hb dX6_putAt_0 rfl (lv_at hl 0 rfl) ?_
  refine lv_iload_n hx hb dX6_putAt_1 rfl (lv_at hl 1 rfl) ?_
  refine kx_cr (v := bI false) (va_runS (As := [.int (nI i)]) (rest := [.ref (am 0)]) ⟨hx, hb, hml, hown, hts⟩ (m_X6_isNoRow l dC dI am M (nI i)) (va_cwS 1 hts gX6_putAt_X6_isNoRow rfl rfl rfl hdX6_isNoRow_1.2 ⟨Nat.le_of_ble_eq_true rfl, Nat.le_of_ble_eq_true rfl⟩) hX.preS rfl rfl hl.1 rfl (lv_room (Nat.le_of_ble_eq_true rfl)) dX6_putAt_2 ⟨Nat.le_of_ble_eq_true rfl, Nat.le_of_ble_eq_true rfl⟩) (fun _ h => h.trans (isNo_ok (by omega) (by omega))) ?_
  refine lv_iconst (v := nI 1) hx hb dX6_putAt_5 (by decide) ?_
  refine km_ci (va_runV (As := [.int (bI false), .int (nI 1)]) (rest := []) ⟨hx, hb, hml, hown, hts⟩ (m_X6_start l dC dI am M false 1 (by omega)) (cwV 2 hts gX6_putAt_X6_start rfl rfl rfl hdX6_start_2 ⟨Nat.le_of_ble_eq_true rfl, Nat.le_of_ble_eq_true rfl⟩) (hX.preObj) rfl rfl hl.1 rfl (lv_room (Nat.le_of_ble_eq_true rfl)) dX6_putAt_6 ⟨Nat.le_of_ble_eq_true rfl, Nat.le_of_ble_eq_true rfl⟩) hX (fun _ h => h) (fun r_ S_ H locs hw hX => ?_)
  obtain ⟨rfl, rfl⟩ := hw
  refine kb_if_ne (tgt := 42) hx hb dX6_putAt_9 (by decide) (fun k_1 => absurd k_1 (by decide)) (fun k_1 => ?_)
  refine lv_aload_n hx hb dX6_putAt_12 rfl (lv_at hl 0 rfl) ?_
  refine lv_iload_n hx hb dX6_putAt_13 rfl (lv_at hl 2 rfl) ?_
  refine lv_aload_n hx hb dX6_putAt_14 rfl (lv_at hl 0 rfl) ?_
  refine km_gsizes hx hb hts hin6 hown hX (hts (.fieldLink RX6 17 "OrderlatticeModel" "sizes" "[I") (tm 681 (by decide +kernel) rfl)) dX6_putAt_15 ?_
  refine lv_iload_n hx hb dX6_putAt_18 rfl (lv_at hl 1 rfl) ?_
  refine km_lz (v := (M.1 i).2.2) hx hb hX (by omega) rfl dX6_putAt_19 ?_
  refine kx_cr (v := bI false) (va_runS (As := [.int (nI q), .int (nI ((M.1 i).2.2))]) (rest := [.ref (am 0)]) ⟨hx, hb, hml, hown, hts⟩ (m_X6_isNo l dC dI am (mN M (0, M.2.2.2.1, M.2.2.2.2.1, M.2.2.2.2.2)) (nI q) (nI ((M.1 i).2.2))) (va_cwS 2 hts gX6_putAt_X6_isNo rfl rfl rfl hdX6_isNo_2.2 ⟨Nat.le_of_ble_eq_true rfl, Nat.le_of_ble_eq_true rfl⟩) hX.preS rfl rfl hl.1 rfl (lv_room (Nat.le_of_ble_eq_true rfl)) dX6_putAt_20 ⟨Nat.le_of_ble_eq_true rfl, Nat.le_of_ble_eq_true rfl⟩) (fun _ h => h.trans (isNo_ok (by omega) (by omega))) ?_
  refine lv_iconst (v := nI 1) hx hb dX6_putAt_23 (by decide) ?_
  refine km_ci (va_runV (As := [.int (bI false), .int (nI 1)]) (rest := []) ⟨hx, hb, hml, hown, hts⟩ (m_X6_refuse l dC dI am (mN M (0, M.2.2.2.1, M.2.2.2.2.1, M.2.2.2.2.2)) false 1 (by omega) rfl) (cwV 2 hts gX6_putAt_X6_refuse rfl rfl rfl hdX6_refuse_2 ⟨Nat.le_of_ble_eq_true rfl, Nat.le_of_ble_eq_true rfl⟩) (hX.preObj) rfl rfl hl.1 rfl (lv_room (Nat.le_of_ble_eq_true rfl)) dX6_putAt_24 ⟨Nat.le_of_ble_eq_true rfl, Nat.le_of_ble_eq_true rfl⟩) hX (fun _ h => h) (fun r_ S_ H locs hw hX => ?_)
  obtain ⟨rfl, rfl⟩ := hw
  refine kb_if_ne (tgt := 42) hx hb dX6_putAt_27 (by decide) (fun k_2 => absurd k_2 (by decide)) (fun k_2 => ?_)
  refine lv_aload_n hx hb dX6_putAt_30 rfl (lv_at hl 0 rfl) ?_
  refine lv_iload_n hx hb dX6_putAt_31 rfl (lv_at hl 3 rfl) ?_
  refine kx_cr (v := bI true) (va_runS (As := [.int x9]) (rest := [.ref (am 0)]) ⟨hx, hb, hml, hown, hts⟩ (m_X6_isNoValue l dC dI am (mN M (0, M.2.2.2.1, M.2.2.2.2.1, M.2.2.2.2.2)) x9) (va_cwS 1 hts gX6_putAt_X6_isNoValue rfl rfl rfl hdX6_isNoValue_1.2 ⟨Nat.le_of_ble_eq_true rfl, Nat.le_of_ble_eq_true rfl⟩) hX.preS rfl rfl hl.1 rfl (lv_room (Nat.le_of_ble_eq_true rfl)) dX6_putAt_32 ⟨Nat.le_of_ble_eq_true rfl, Nat.le_of_ble_eq_true rfl⟩) (fun _ h => h.trans (isNo_bad hb9)) ?_
  refine lv_iconst (v := nI 2) hx hb dX6_putAt_35 (by decide) ?_
  refine km_ci (va_runV (As := [.int (bI true), .int (nI 2)]) (rest := []) ⟨hx, hb, hml, hown, hts⟩ (m_X6_refuse l dC dI am (mN M (0, M.2.2.2.1, M.2.2.2.2.1, M.2.2.2.2.2)) true 2 (by omega) rfl) (cwV 2 hts gX6_putAt_X6_refuse rfl rfl rfl hdX6_refuse_2 ⟨Nat.le_of_ble_eq_true rfl, Nat.le_of_ble_eq_true rfl⟩) (hX.preObj) rfl rfl hl.1 rfl (lv_room (Nat.le_of_ble_eq_true rfl)) dX6_putAt_36 ⟨Nat.le_of_ble_eq_true rfl, Nat.le_of_ble_eq_true rfl⟩) hX (fun _ h => h) (fun r_ S_ H locs hw hX => ?_)
  obtain ⟨rfl, rfl⟩ := hw
  refine kb_if_eq (tgt := 44) hx hb dX6_putAt_39 (by decide) (fun k_3 => absurd k_3 (by decide)) (fun k_3 => ?_)
  refine lv_iconst (v := nI 0) hx hb dX6_putAt_42 (by decide) ?_
  exact W.iret (v := nI 0) hx hb hr (fun t9 ht9 hW9 => ⟨⟨_, (mN M (2, M.2.2.2.1, M.2.2.2.2.1, M.2.2.2.2.2)), rfl, rfl, hX.P ht9 hW9⟩, hX.2.2.2.F ht9⟩) hX.2.2.2.2.2 dX6_putAt_43
set_option maxHeartbeats 4000000 in
set_option maxRecDepth 100000 in
theorem o_X6_fill_1 (l : Launch) (dC : Nat → ClassId) (dI : Nat → Nat → Nat) (am : Nat → Nat) (M : MS) (x9 : Int32) (y1 : Int32) (y2 : Int32) (y3 : Int32) (hb9 : x9 < 0 ∨ nI 3 ≤ x9) (hI : InvM M) : Met l yX6_fill wsX6_fill ({ frames := 2, cells := 0, slots := 0, locals := 44 } : Room) (va_Pc [.ref (am 0), .int x9, .int y1, .int y2, .int y3] (PM dC dI am M)) (va_Qi (fun r M' => M' = thM M 1) (PM dC dI am) (AM am)) 0 0 (AM am) := by
  refine Met.ofW (cc := cX6_fill) (maxL := 6) (ret := (some .int)) pl_X6 rfl ?_
  intro p e s m args below meth c s₁ B hml hv
  obtain ⟨rfl, hPX⟩ := hv
  have hx := B.exec
  have hb := B.bytes
  have hr := B.returns
  have hts := atoms_spec (ws := wsX6_fill) B.pre
  have hown : s.vm.findClass RX6 = some m.cls := findClass_of_methodNamed B.named
  have hlocks := B.notSynchronized
  have hin6 : ∀ w ∈ u_ws RX6 TX6 10, w ∈ wsX6_fill := tu 1331 (by decide +kernel) rfl
  have hX := WM.of hPX
  have hl := lv_entry ([.ref (am 0), .int x9, .int y1, .int y2, .int y3]) (n := 6) (Nat.le_of_ble_eq_true rfl)
  rw [lg_entry_eq]
  generalize (lg_sl ([.ref (am 0), .int x9, .int y1, .int y2, .int y3]) ++ List.replicate (6 - (lg_sl ([.ref (am 0), .int x9, .int y1, .int y2, .int y3])).length) Slot.unset).toArray = ls at hl ⊢
  have hl : lv_has ls 6 [(0, .ref (am 0)), (1, .int x9), (2, .int y1), (3, .int y2), (4, .int y3)] := hl
  show W p l e ({ frames := 2, cells := 0, slots := 0, locals := 44 } : Room) s m ([.ref (am 0), .int x9, .int y1, .int y2, .int y3]).toArray below meth c s.heap [] 0 0 (MQ below (va_Qi (fun r M' => M' = thM M 1) (PM dC dI am) (AM am)) ([.ref (am 0), .int x9, .int y1, .int y2, .int y3]).toArray s 0 0 (AM am)) (F0 m 0 ls [])
  refine lv_aload_n hx hb dX6_fill_0 rfl (lv_at hl 0 rfl) ?_
  refine lv_iload_n hx hb dX6_fill_1 rfl (lv_at hl 1 rfl) ?_
  refine kx_cr (v := bI true) (va_runS (As := [.int x9]) (rest := [.ref (am 0)]) ⟨hx, hb, hml, hown, hts⟩ (m_X6_isNoRow l dC dI am M x9) (va_cwS 1 hts gX6_fill_X6_isNoRow rfl rfl rfl hdX6_isNoRow_1.2 ⟨Nat.le_of_ble_eq_true rfl, Nat.le_of_ble_eq_true rfl⟩) hX.preS rfl rfl hl.1 rfl (lv_room (Nat.le_of_ble_eq_true rfl)) dX6_fill_2 ⟨Nat.le_of_ble_eq_true rfl, Nat.le_of_ble_eq_true rfl⟩) (fun _ h => h.trans (isNo_bad (isNo_r hb9))) ?_
  refine lv_iconst (v := nI 1) hx hb dX6_fill_5 (by decide) ?_
  refine km_ci (va_runV (As := [.int (bI true), .int (nI 1)]) (rest := []) ⟨hx, hb, hml, hown, hts⟩ (m_X6_start l dC dI am M true 1 (by omega)) (cwV 2 hts gX6_fill_X6_start rfl rfl rfl hdX6_start_2 ⟨Nat.le_of_ble_eq_true rfl, Nat.le_of_ble_eq_true rfl⟩) (hX.preObj) rfl rfl hl.1 rfl (lv_room (Nat.le_of_ble_eq_true rfl)) dX6_fill_6 ⟨Nat.le_of_ble_eq_true rfl, Nat.le_of_ble_eq_true rfl⟩) hX (fun _ h => h) (fun r_ S_ H locs hw hX => ?_)
  obtain ⟨rfl, rfl⟩ := hw
  refine kb_if_ne (tgt := 53) hx hb dX6_fill_9 (by decide) (fun k_1 => ?_) (fun k_1 => absurd k_1 (by decide))
  refine lv_iconst (v := nI 0) hx hb dX6_fill_53 (by decide) ?_
  exact W.iret (v := nI 0) hx hb hr (fun t9 ht9 hW9 => ⟨⟨_, (mN M (1, M.2.2.2.1, M.2.2.2.2.1, M.2.2.2.2.2)), rfl, rfl, hX.P ht9 hW9⟩, hX.2.2.2.F ht9⟩) hX.2.2.2.2.2 dX6_fill_54
set_option maxHeartbeats 4000000 in
set_option maxRecDepth 100000 in
theorem o_X6_fill_2 (l : Launch) (dC : Nat → ClassId) (dI : Nat → Nat → Nat) (am : Nat → Nat) (M : MS) (i : Nat) (x9 : Int32) (y2 : Int32) (y3 : Int32) (hi : i < 3) (hb9 : x9 < 0 ∨ nI 12 < x9) (hI : InvM M) : Met l yX6_fill wsX6_fill ({ frames := 2, cells := 0, slots := 0, locals := 44 } : Room) (va_Pc [.ref (am 0), .int (nI i), .int x9, .int y2, .int y3] (PM dC dI am M)) (va_Qi (fun r M' => M' = thM M 2) (PM dC dI am) (AM am)) 0 0 (AM am) := by
  refine Met.ofW (cc := cX6_fill) (maxL := 6) (ret := (some .int)) pl_X6 rfl ?_
  intro p e s m args below meth c s₁ B hml hv
  obtain ⟨rfl, hPX⟩ := hv
  have hx := B.exec
  have hb := B.bytes
  have hr := B.returns
  have hts := atoms_spec (ws := wsX6_fill) B.pre
  have hown : s.vm.findClass RX6 = some m.cls := findClass_of_methodNamed B.named
  have hlocks := B.notSynchronized
  have hin6 : ∀ w ∈ u_ws RX6 TX6 10, w ∈ wsX6_fill := tu 1331 (by decide +kernel) rfl
  have hX := WM.of hPX
  have hl := lv_entry ([.ref (am 0), .int (nI i), .int x9, .int y2, .int y3]) (n := 6) (Nat.le_of_ble_eq_true rfl)
  rw [lg_entry_eq]
  generalize (lg_sl ([.ref (am 0), .int (nI i), .int x9, .int y2, .int y3]) ++ List.replicate (6 - (lg_sl ([.ref (am 0), .int (nI i), .int x9, .int y2, .int y3])).length) Slot.unset).toArray = ls at hl ⊢
  have hl : lv_has ls 6 [(0, .ref (am 0)), (1, .int (nI i)), (2, .int x9), (3, .int y2), (4, .int y3)] := hl
  show W p l e ({ frames := 2, cells := 0, slots := 0, locals := 44 } : Room) s m ([.ref (am 0), .int (nI i), .int x9, .int y2, .int y3]).toArray below meth c s.heap [] 0 0 (MQ below (va_Qi (fun r M' => M' = thM M 2) (PM dC dI am) (AM am)) ([.ref (am 0), .int (nI i), .int x9, .int y2, .int y3]).toArray s 0 0 (AM am)) (F0 m 0 ls [])
  refine lv_aload_n hx hb dX6_fill_0 rfl (lv_at hl 0 rfl) ?_
  refine lv_iload_n hx hb dX6_fill_1 rfl (lv_at hl 1 rfl) ?_
  refine kx_cr (v := bI false) (va_runS (As := [.int (nI i)]) (rest := [.ref (am 0)]) ⟨hx, hb, hml, hown, hts⟩ (m_X6_isNoRow l dC dI am M (nI i)) (va_cwS 1 hts gX6_fill_X6_isNoRow rfl rfl rfl hdX6_isNoRow_1.2 ⟨Nat.le_of_ble_eq_true rfl, Nat.le_of_ble_eq_true rfl⟩) hX.preS rfl rfl hl.1 rfl (lv_room (Nat.le_of_ble_eq_true rfl)) dX6_fill_2 ⟨Nat.le_of_ble_eq_true rfl, Nat.le_of_ble_eq_true rfl⟩) (fun _ h => h.trans (isNo_ok (by omega) (by omega))) ?_
  refine lv_iconst (v := nI 1) hx hb dX6_fill_5 (by decide) ?_
  refine km_ci (va_runV (As := [.int (bI false), .int (nI 1)]) (rest := []) ⟨hx, hb, hml, hown, hts⟩ (m_X6_start l dC dI am M false 1 (by omega)) (cwV 2 hts gX6_fill_X6_start rfl rfl rfl hdX6_start_2 ⟨Nat.le_of_ble_eq_true rfl, Nat.le_of_ble_eq_true rfl⟩) (hX.preObj) rfl rfl hl.1 rfl (lv_room (Nat.le_of_ble_eq_true rfl)) dX6_fill_6 ⟨Nat.le_of_ble_eq_true rfl, Nat.le_of_ble_eq_true rfl⟩) hX (fun _ h => h) (fun r_ S_ H locs hw hX => ?_)
  obtain ⟨rfl, rfl⟩ := hw
  refine kb_if_ne (tgt := 53) hx hb dX6_fill_9 (by decide) (fun k_1 => absurd k_1 (by decide)) (fun k_1 => ?_)
  refine lv_aload_n hx hb dX6_fill_12 rfl (lv_at hl 0 rfl) ?_
  refine lv_iload_n hx hb dX6_fill_13 rfl (lv_at hl 2 rfl) ?_
  refine lv_bipush (v := nI 12) hx hb dX6_fill_14 (by decide) ?_
  refine kx_cr (v := bI true) (va_runS (As := [.int x9, .int (nI 12)]) (rest := [.ref (am 0)]) ⟨hx, hb, hml, hown, hts⟩ (m_X6_isNo l dC dI am (mN M (0, M.2.2.2.1, M.2.2.2.2.1, M.2.2.2.2.2)) x9 (nI 12)) (va_cwS 2 hts gX6_fill_X6_isNo rfl rfl rfl hdX6_isNo_2.2 ⟨Nat.le_of_ble_eq_true rfl, Nat.le_of_ble_eq_true rfl⟩) hX.preS rfl rfl hl.1 rfl (lv_room (Nat.le_of_ble_eq_true rfl)) dX6_fill_16 ⟨Nat.le_of_ble_eq_true rfl, Nat.le_of_ble_eq_true rfl⟩) (fun _ h => h.trans (isNo_bad hb9)) ?_
  refine kb_if_ne (tgt := 41) hx hb dX6_fill_19 (by decide) (fun k_2 => ?_) (fun k_2 => absurd k_2 (by decide))
  refine lv_iconst (v := nI 1) hx hb dX6_fill_41 (by decide) ?_
  refine lv_goto (tgt := 46) hx hb dX6_fill_42 (by decide) ?_
  refine lv_iconst (v := nI 2) hx hb dX6_fill_46 (by decide) ?_
  refine km_ci (va_runV (As := [.int (nI 1), .int (nI 2)]) (rest := []) ⟨hx, hb, hml, hown, hts⟩ (m_X6_refuse l dC dI am (mN M (0, M.2.2.2.1, M.2.2.2.2.1, M.2.2.2.2.2)) true 2 (by omega) rfl) (cwV 2 hts gX6_fill_X6_refuse rfl rfl rfl hdX6_refuse_2 ⟨Nat.le_of_ble_eq_true rfl, Nat.le_of_ble_eq_true rfl⟩) (hX.preObj) rfl rfl hl.1 rfl (lv_room (Nat.le_of_ble_eq_true rfl)) dX6_fill_47 ⟨Nat.le_of_ble_eq_true rfl, Nat.le_of_ble_eq_true rfl⟩) hX (fun _ h => h) (fun r_ S_ H locs hw hX => ?_)
  obtain ⟨rfl, rfl⟩ := hw
  refine kb_if_eq (tgt := 55) hx hb dX6_fill_50 (by decide) (fun k_3 => absurd k_3 (by decide)) (fun k_3 => ?_)
  refine lv_iconst (v := nI 0) hx hb dX6_fill_53 (by decide) ?_
  exact W.iret (v := nI 0) hx hb hr (fun t9 ht9 hW9 => ⟨⟨_, (mN M (2, M.2.2.2.1, M.2.2.2.2.1, M.2.2.2.2.2)), rfl, rfl, hX.P ht9 hW9⟩, hX.2.2.2.F ht9⟩) hX.2.2.2.2.2 dX6_fill_54
set_option maxHeartbeats 4000000 in
set_option maxRecDepth 100000 in
theorem o_X6_fill_3 (l : Launch) (dC : Nat → ClassId) (dI : Nat → Nat → Nat) (am : Nat → Nat) (M : MS) (i : Nat) (k : Nat) (x9 : Int32) (y3 : Int32) (hi : i < 3) (hk : k ≤ 12) (hb9 : x9 < 0 ∨ nI 99 < x9) (hI : InvM M) : Met l yX6_fill wsX6_fill ({ frames := 2, cells := 0, slots := 0, locals := 44 } : Room) (va_Pc [.ref (am 0), .int (nI i), .int (nI k), .int x9, .int y3] (PM dC dI am M)) (va_Qi (fun r M' => M' = thM M 2) (PM dC dI am) (AM am)) 0 0 (AM am) := by
  refine Met.ofW (cc := cX6_fill) (maxL := 6) (ret := (some .int)) pl_X6 rfl ?_
  intro p e s m args below meth c s₁ B hml hv
  obtain ⟨rfl, hPX⟩ := hv
  have hx := B.exec
  have hb := B.bytes
  have hr := B.returns
  have hts := atoms_spec (ws := wsX6_fill) B.pre
  have hown : s.vm.findClass RX6 = some m.cls := findClass_of_methodNamed B.named
  have hlocks := B.notSynchronized
  have hin6 : ∀ w ∈ u_ws RX6 TX6 10, w ∈ wsX6_fill := tu 1331 (by decide +kernel) rfl
  have hX := WM.of hPX
  have hl := lv_entry ([.ref (am 0), .int (nI i), .int (nI k), .int x9, .int y3]) (n := 6) (Nat.le_of_ble_eq_true rfl)
  rw [lg_entry_eq]
  generalize (lg_sl ([.ref (am 0), .int (nI i), .int (nI k), .int x9, .int y3]) ++ List.replicate (6 - (lg_sl ([.ref (am 0), .int (nI i), .int (nI k), .int x9, .int y3])).length) Slot.unset).toArray = ls at hl ⊢
  have hl : lv_has ls 6 [(0, .ref (am 0)), (1, .int (nI i)), (2, .int (nI k)), (3, .int x9), (4, .int y3)] := hl
  show W p l e ({ frames := 2, cells := 0, slots := 0, locals := 44 } : Room) s m ([.ref (am 0), .int (nI i), .int (nI k), .int x9, .int y3]).toArray below meth c s.heap [] 0 0 (MQ below (va_Qi (fun r M' => M' = thM M 2) (PM dC dI am) (AM am)) ([.ref (am 0), .int (nI i), .int (nI k), .int x9, .int y3]).toArray s 0 0 (AM am)) (F0 m 0 ls [])
  refine lv_aload_n hx hb dX6_fill_0 rfl (lv_at hl 0 rfl) ?_
  refine lv_iload_n hx hb dX6_fill_1 rfl (lv_at hl 1 rfl) ?_
  refine kx_cr (v := bI false) (va_runS (As := [.int (nI i)]) (rest := [.ref (am 0)]) ⟨hx, hb, hml, hown, hts⟩ (m_X6_isNoRow l dC dI am M (nI i)) (va_cwS 1 hts gX6_fill_X6_isNoRow rfl rfl rfl hdX6_isNoRow_1.2 ⟨Nat.le_of_ble_eq_true rfl, Nat.le_of_ble_eq_true rfl⟩) hX.preS rfl rfl hl.1 rfl (lv_room (Nat.le_of_ble_eq_true rfl)) dX6_fill_2 ⟨Nat.le_of_ble_eq_true rfl, Nat.le_of_ble_eq_true rfl⟩) (fun _ h => h.trans (isNo_ok (by omega) (by omega))) ?_
  refine lv_iconst (v := nI 1) hx hb dX6_fill_5 (by decide) ?_
  refine km_ci (va_runV (As := [.int (bI false), .int (nI 1)]) (rest := []) ⟨hx, hb, hml, hown, hts⟩ (m_X6_start l dC dI am M false 1 (by omega)) (cwV 2 hts gX6_fill_X6_start rfl rfl rfl hdX6_start_2 ⟨Nat.le_of_ble_eq_true rfl, Nat.le_of_ble_eq_true rfl⟩) (hX.preObj) rfl rfl hl.1 rfl (lv_room (Nat.le_of_ble_eq_true rfl)) dX6_fill_6 ⟨Nat.le_of_ble_eq_true rfl, Nat.le_of_ble_eq_true rfl⟩) hX (fun _ h => h) (fun r_ S_ H locs hw hX => ?_)
  obtain ⟨rfl, rfl⟩ := hw
  refine kb_if_ne (tgt := 53) hx hb dX6_fill_9 (by decide) (fun k_1 => absurd k_1 (by decide)) (fun k_1 => ?_)
  refine lv_aload_n hx hb dX6_fill_12 rfl (lv_at hl 0 rfl) ?_
  refine lv_iload_n hx hb dX6_fill_13 rfl (lv_at hl 2 rfl) ?_
  refine lv_bipush (v := nI 12) hx hb dX6_fill_14 (by decide) ?_
  refine kx_cr (v := bI false) (va_runS (As := [.int (nI k), .int (nI 12)]) (rest := [.ref (am 0)]) ⟨hx, hb, hml, hown, hts⟩ (m_X6_isNo l dC dI am (mN M (0, M.2.2.2.1, M.2.2.2.2.1, M.2.2.2.2.2)) (nI k) (nI 12)) (va_cwS 2 hts gX6_fill_X6_isNo rfl rfl rfl hdX6_isNo_2.2 ⟨Nat.le_of_ble_eq_true rfl, Nat.le_of_ble_eq_true rfl⟩) hX.preS rfl rfl hl.1 rfl (lv_room (Nat.le_of_ble_eq_true rfl)) dX6_fill_16 ⟨Nat.le_of_ble_eq_true rfl, Nat.le_of_ble_eq_true rfl⟩) (fun _ h => h.trans (isNo_ok (by omega) (by omega))) ?_
  refine kb_if_ne (tgt := 41) hx hb dX6_fill_19 (by decide) (fun k_2 => absurd k_2 (by decide)) (fun k_2 => ?_)
  refine lv_iload_n hx hb dX6_fill_22 rfl (lv_at hl 3 rfl) ?_
  refine lv_bipush (v := nI 99) hx hb dX6_fill_23 (by decide) ?_
  refine kx_cr (v := bI true) (va_runS (As := [.int x9, .int (nI 99)]) (rest := [.ref (am 0)]) ⟨hx, hb, hml, hown, hts⟩ (m_X6_isNo l dC dI am (mN M (0, M.2.2.2.1, M.2.2.2.2.1, M.2.2.2.2.2)) x9 (nI 99)) (va_cwS 2 hts gX6_fill_X6_isNo rfl rfl rfl hdX6_isNo_2.2 ⟨Nat.le_of_ble_eq_true rfl, Nat.le_of_ble_eq_true rfl⟩) hX.preS rfl rfl hl.1 rfl (lv_room (Nat.le_of_ble_eq_true rfl)) dX6_fill_25 ⟨Nat.le_of_ble_eq_true rfl, Nat.le_of_ble_eq_true rfl⟩) (fun _ h => h.trans (isNo_bad hb9)) ?_
  refine kb_if_ne (tgt := 41) hx hb dX6_fill_28 (by decide) (fun k_3 => ?_) (fun k_3 => absurd k_3 (by decide))
  refine lv_iconst (v := nI 1) hx hb dX6_fill_41 (by decide) ?_
  refine lv_goto (tgt := 46) hx hb dX6_fill_42 (by decide) ?_
  refine lv_iconst (v := nI 2) hx hb dX6_fill_46 (by decide) ?_
  refine km_ci (va_runV (As := [.int (nI 1), .int (nI 2)]) (rest := []) ⟨hx, hb, hml, hown, hts⟩ (m_X6_refuse l dC dI am (mN M (0, M.2.2.2.1, M.2.2.2.2.1, M.2.2.2.2.2)) true 2 (by omega) rfl) (cwV 2 hts gX6_fill_X6_refuse rfl rfl rfl hdX6_refuse_2 ⟨Nat.le_of_ble_eq_true rfl, Nat.le_of_ble_eq_true rfl⟩) (hX.preObj) rfl rfl hl.1 rfl (lv_room (Nat.le_of_ble_eq_true rfl)) dX6_fill_47 ⟨Nat.le_of_ble_eq_true rfl, Nat.le_of_ble_eq_true rfl⟩) hX (fun _ h => h) (fun r_ S_ H locs hw hX => ?_)
  obtain ⟨rfl, rfl⟩ := hw
  refine kb_if_eq (tgt := 55) hx hb dX6_fill_50 (by decide) (fun k_4 => absurd k_4 (by decide)) (fun k_4 => ?_)
  refine lv_iconst (v := nI 0) hx hb dX6_fill_53 (by decide) ?_
  exact W.iret (v := nI 0) hx hb hr (fun t9 ht9 hW9 => ⟨⟨_, (mN M (2, M.2.2.2.1, M.2.2.2.2.1, M.2.2.2.2.2)), rfl, rfl, hX.P ht9 hW9⟩, hX.2.2.2.F ht9⟩) hX.2.2.2.2.2 dX6_fill_54
set_option maxHeartbeats 4000000 in
set_option maxRecDepth 100000 in
theorem o_X6_fill_4 (l : Launch) (dC : Nat → ClassId) (dI : Nat → Nat → Nat) (am : Nat → Nat) (M : MS) (i : Nat) (k : Nat) (k2 : Nat) (x9 : Int32) (hi : i < 3) (hk : k ≤ 12) (hk2 : k2 ≤ 99) (hb9 : x9 < 0 ∨ nI 99 < x9) (hI : InvM M) : Met l yX6_fill wsX6_fill ({ frames := 2, cells := 0, slots := 0, locals := 44 } : Room) (va_Pc [.ref (am 0), .int (nI i), .int (nI k), .int (nI k2), .int x9] (PM dC dI am M)) (va_Qi (fun r M' => M' = thM M 2) (PM dC dI am) (AM am)) 0 0 (AM am) := by
  refine Met.ofW (cc := cX6_fill) (maxL := 6) (ret := (some .int)) pl_X6 rfl ?_
  intro p e s m args below meth c s₁ B hml hv
  obtain ⟨rfl, hPX⟩ := hv
  have hx := B.exec
  have hb := B.bytes
  have hr := B.returns
  have hts := atoms_spec (ws := wsX6_fill) B.pre
  have hown : s.vm.findClass RX6 = some m.cls := findClass_of_methodNamed B.named
  have hlocks := B.notSynchronized
  have hin6 : ∀ w ∈ u_ws RX6 TX6 10, w ∈ wsX6_fill := tu 1331 (by decide +kernel) rfl
  have hX := WM.of hPX
  have hl := lv_entry ([.ref (am 0), .int (nI i), .int (nI k), .int (nI k2), .int x9]) (n := 6) (Nat.le_of_ble_eq_true rfl)
  rw [lg_entry_eq]
  generalize (lg_sl ([.ref (am 0), .int (nI i), .int (nI k), .int (nI k2), .int x9]) ++ List.replicate (6 - (lg_sl ([.ref (am 0), .int (nI i), .int (nI k), .int (nI k2), .int x9])).length) Slot.unset).toArray = ls at hl ⊢
  have hl : lv_has ls 6 [(0, .ref (am 0)), (1, .int (nI i)), (2, .int (nI k)), (3, .int (nI k2)), (4, .int x9)] := hl
  show W p l e ({ frames := 2, cells := 0, slots := 0, locals := 44 } : Room) s m ([.ref (am 0), .int (nI i), .int (nI k), .int (nI k2), .int x9]).toArray below meth c s.heap [] 0 0 (MQ below (va_Qi (fun r M' => M' = thM M 2) (PM dC dI am) (AM am)) ([.ref (am 0), .int (nI i), .int (nI k), .int (nI k2), .int x9]).toArray s 0 0 (AM am)) (F0 m 0 ls [])
  refine lv_aload_n hx hb dX6_fill_0 rfl (lv_at hl 0 rfl) ?_
  refine lv_iload_n hx hb dX6_fill_1 rfl (lv_at hl 1 rfl) ?_
  refine kx_cr (v := bI false) (va_runS (As := [.int (nI i)]) (rest := [.ref (am 0)]) ⟨hx, hb, hml, hown, hts⟩ (m_X6_isNoRow l dC dI am M (nI i)) (va_cwS 1 hts gX6_fill_X6_isNoRow rfl rfl rfl hdX6_isNoRow_1.2 ⟨Nat.le_of_ble_eq_true rfl, Nat.le_of_ble_eq_true rfl⟩) hX.preS rfl rfl hl.1 rfl (lv_room (Nat.le_of_ble_eq_true rfl)) dX6_fill_2 ⟨Nat.le_of_ble_eq_true rfl, Nat.le_of_ble_eq_true rfl⟩) (fun _ h => h.trans (isNo_ok (by omega) (by omega))) ?_
  refine lv_iconst (v := nI 1) hx hb dX6_fill_5 (by decide) ?_
  refine km_ci (va_runV (As := [.int (bI false), .int (nI 1)]) (rest := []) ⟨hx, hb, hml, hown, hts⟩ (m_X6_start l dC dI am M false 1 (by omega)) (cwV 2 hts gX6_fill_X6_start rfl rfl rfl hdX6_start_2 ⟨Nat.le_of_ble_eq_true rfl, Nat.le_of_ble_eq_true rfl⟩) (hX.preObj) rfl rfl hl.1 rfl (lv_room (Nat.le_of_ble_eq_true rfl)) dX6_fill_6 ⟨Nat.le_of_ble_eq_true rfl, Nat.le_of_ble_eq_true rfl⟩) hX (fun _ h => h) (fun r_ S_ H locs hw hX => ?_)
  obtain ⟨rfl, rfl⟩ := hw
  refine kb_if_ne (tgt := 53) hx hb dX6_fill_9 (by decide) (fun k_1 => absurd k_1 (by decide)) (fun k_1 => ?_)
  refine lv_aload_n hx hb dX6_fill_12 rfl (lv_at hl 0 rfl) ?_
  refine lv_iload_n hx hb dX6_fill_13 rfl (lv_at hl 2 rfl) ?_
  refine lv_bipush (v := nI 12) hx hb dX6_fill_14 (by decide) ?_
  refine kx_cr (v := bI false) (va_runS (As := [.int (nI k), .int (nI 12)]) (rest := [.ref (am 0)]) ⟨hx, hb, hml, hown, hts⟩ (m_X6_isNo l dC dI am (mN M (0, M.2.2.2.1, M.2.2.2.2.1, M.2.2.2.2.2)) (nI k) (nI 12)) (va_cwS 2 hts gX6_fill_X6_isNo rfl rfl rfl hdX6_isNo_2.2 ⟨Nat.le_of_ble_eq_true rfl, Nat.le_of_ble_eq_true rfl⟩) hX.preS rfl rfl hl.1 rfl (lv_room (Nat.le_of_ble_eq_true rfl)) dX6_fill_16 ⟨Nat.le_of_ble_eq_true rfl, Nat.le_of_ble_eq_true rfl⟩) (fun _ h => h.trans (isNo_ok (by omega) (by omega))) ?_
  refine kb_if_ne (tgt := 41) hx hb dX6_fill_19 (by decide) (fun k_2 => absurd k_2 (by decide)) (fun k_2 => ?_)
  refine lv_iload_n hx hb dX6_fill_22 rfl (lv_at hl 3 rfl) ?_
  refine lv_bipush (v := nI 99) hx hb dX6_fill_23 (by decide) ?_
  refine kx_cr (v := bI false) (va_runS (As := [.int (nI k2), .int (nI 99)]) (rest := [.ref (am 0)]) ⟨hx, hb, hml, hown, hts⟩ (m_X6_isNo l dC dI am (mN M (0, M.2.2.2.1, M.2.2.2.2.1, M.2.2.2.2.2)) (nI k2) (nI 99)) (va_cwS 2 hts gX6_fill_X6_isNo rfl rfl rfl hdX6_isNo_2.2 ⟨Nat.le_of_ble_eq_true rfl, Nat.le_of_ble_eq_true rfl⟩) hX.preS rfl rfl hl.1 rfl (lv_room (Nat.le_of_ble_eq_true rfl)) dX6_fill_25 ⟨Nat.le_of_ble_eq_true rfl, Nat.le_of_ble_eq_true rfl⟩) (fun _ h => h.trans (isNo_ok (by omega) (by omega))) ?_
  refine kb_if_ne (tgt := 41) hx hb dX6_fill_28 (by decide) (fun k_3 => absurd k_3 (by decide)) (fun k_3 => ?_)
  refine lv_iload hx hb dX6_fill_31 (lv_at hl 4 rfl) ?_
  refine lv_bipush (v := nI 99) hx hb dX6_fill_33 (by decide) ?_
  refine kx_cr (v := bI true) (va_runS (As := [.int x9, .int (nI 99)]) (rest := [.ref (am 0)]) ⟨hx, hb, hml, hown, hts⟩ (m_X6_isNo l dC dI am (mN M (0, M.2.2.2.1, M.2.2.2.2.1, M.2.2.2.2.2)) x9 (nI 99)) (va_cwS 2 hts gX6_fill_X6_isNo rfl rfl rfl hdX6_isNo_2.2 ⟨Nat.le_of_ble_eq_true rfl, Nat.le_of_ble_eq_true rfl⟩) hX.preS rfl rfl hl.1 rfl (lv_room (Nat.le_of_ble_eq_true rfl)) dX6_fill_35 ⟨Nat.le_of_ble_eq_true rfl, Nat.le_of_ble_eq_true rfl⟩) (fun _ h => h.trans (isNo_bad hb9)) ?_
  refine kb_if_eq (tgt := 45) hx hb dX6_fill_38 (by decide) (fun k_4 => absurd k_4 (by decide)) (fun k_4 => ?_)
  refine lv_iconst (v := nI 1) hx hb dX6_fill_41 (by decide) ?_
  refine lv_goto (tgt := 46) hx hb dX6_fill_42 (by decide) ?_
  refine lv_iconst (v := nI 2) hx hb dX6_fill_46 (by decide) ?_
  refine km_ci (va_runV (As := [.int (nI 1), .int (nI 2)]) (rest := []) ⟨hx, hb, hml, hown, hts⟩ (m_X6_refuse l dC dI am (mN M (0, M.2.2.2.1, M.2.2.2.2.1, M.2.2.2.2.2)) true 2 (by omega) rfl) (cwV 2 hts gX6_fill_X6_refuse rfl rfl rfl hdX6_refuse_2 ⟨Nat.le_of_ble_eq_true rfl, Nat.le_of_ble_eq_true rfl⟩) (hX.preObj) rfl rfl hl.1 rfl (lv_room (Nat.le_of_ble_eq_true rfl)) dX6_fill_47 ⟨Nat.le_of_ble_eq_true rfl, Nat.le_of_ble_eq_true rfl⟩) hX (fun _ h => h) (fun r_ S_ H locs hw hX => ?_)
  obtain ⟨rfl, rfl⟩ := hw
  refine kb_if_eq (tgt := 55) hx hb dX6_fill_50 (by decide) (fun k_5 => absurd k_5 (by decide)) (fun k_5 => ?_)
  refine lv_iconst (v := nI 0) hx hb dX6_fill_53 (by decide) ?_
  exact W.iret (v := nI 0) hx hb hr (fun t9 ht9 hW9 => ⟨⟨_, (mN M (2, M.2.2.2.1, M.2.2.2.2.1, M.2.2.2.2.2)), rfl, rfl, hX.P ht9 hW9⟩, hX.2.2.2.F ht9⟩) hX.2.2.2.2.2 dX6_fill_54
set_option maxHeartbeats 4000000 in
set_option maxRecDepth 100000 in
theorem o_X6_drop_1 (l : Launch) (dC : Nat → ClassId) (dI : Nat → Nat → Nat) (am : Nat → Nat) (M : MS) (x9 : Int32) (y1 : Int32) (hb9 : x9 < 0 ∨ nI 3 ≤ x9) (hI : InvM M) : Met l yX6_drop wsX6_drop ({ frames := 2, cells := 0, slots := 0, locals := 44 } : Room) (va_Pc [.ref (am 0), .int x9, .int y1] (PM dC dI am M)) (va_Qi (fun r M' => M' = thM M 1) (PM dC dI am) (AM am)) 0 0 (AM am) := by
  refine Met.ofW (cc := cX6_drop) (maxL := 5) (ret := (some .int)) pl_X6 rfl ?_
  intro p e s m args below meth c s₁ B hml hv
  obtain ⟨rfl, hPX⟩ := hv
  have hx := B.exec
  have hb := B.bytes
  have hr := B.returns
  have hts := atoms_spec (ws := wsX6_drop) B.pre
  have hown : s.vm.findClass RX6 = some m.cls := findClass_of_methodNamed B.named
  have hlocks := B.notSynchronized
  have hin6 : ∀ w ∈ u_ws RX6 TX6 10, w ∈ wsX6_drop := tu 1331 (by decide +kernel) rfl
  have hX := WM.of hPX
  have hl := lv_entry ([.ref (am 0), .int x9, .int y1]) (n := 5) (Nat.le_of_ble_eq_true rfl)
  rw [lg_entry_eq]
  generalize (lg_sl ([.ref (am 0), .int x9, .int y1]) ++ List.replicate (5 - (lg_sl ([.ref (am 0), .int x9, .int y1])).length) Slot.unset).toArray = ls at hl ⊢
  have hl : lv_has ls 5 [(0, .ref (am 0)), (1, .int x9), (2, .int y1)] := hl
  show W p l e ({ frames := 2, cells := 0, slots := 0, locals := 44 } : Room) s m ([.ref (am 0), .int x9, .int y1]).toArray below meth c s.heap [] 0 0 (MQ below (va_Qi (fun r M' => M' = thM M 1) (PM dC dI am) (AM am)) ([.ref (am 0), .int x9, .int y1]).toArray s 0 0 (AM am)) (F0 m 0 ls [])
  refine lv_aload_n hx hb dX6_drop_0 rfl (lv_at hl 0 rfl) ?_
  refine lv_iload_n hx hb dX6_drop_1 rfl (lv_at hl 1 rfl) ?_
  refine kx_cr (v := bI true) (va_runS (As := [.int x9]) (rest := [.ref (am 0)]) ⟨hx, hb, hml, hown, hts⟩ (m_X6_isNoRow l dC dI am M x9) (va_cwS 1 hts gX6_drop_X6_isNoRow rfl rfl rfl hdX6_isNoRow_1.2 ⟨Nat.le_of_ble_eq_true rfl, Nat.le_of_ble_eq_true rfl⟩) hX.preS rfl rfl hl.1 rfl (lv_room (Nat.le_of_ble_eq_true rfl)) dX6_drop_2 ⟨Nat.le_of_ble_eq_true rfl, Nat.le_of_ble_eq_true rfl⟩) (fun _ h => h.trans (isNo_bad (isNo_r hb9))) ?_
  refine lv_iconst (v := nI 1) hx hb dX6_drop_5 (by decide) ?_
  refine km_ci (va_runV (As := [.int (bI true), .int (nI 1)]) (rest := []) ⟨hx, hb, hml, hown, hts⟩ (m_X6_start l dC dI am M true 1 (by omega)) (cwV 2 hts gX6_drop_X6_start rfl rfl rfl hdX6_start_2 ⟨Nat.le_of_ble_eq_true rfl, Nat.le_of_ble_eq_true rfl⟩) (hX.preObj) rfl rfl hl.1 rfl (lv_room (Nat.le_of_ble_eq_true rfl)) dX6_drop_6 ⟨Nat.le_of_ble_eq_true rfl, Nat.le_of_ble_eq_true rfl⟩) hX (fun _ h => h) (fun r_ S_ H locs hw hX => ?_)
  obtain ⟨rfl, rfl⟩ := hw
  refine kb_if_ne (tgt := 32) hx hb dX6_drop_9 (by decide) (fun k_1 => ?_) (fun k_1 => absurd k_1 (by decide))
  refine lv_iconst (v := nI 0) hx hb dX6_drop_32 (by decide) ?_
  exact W.iret (v := nI 0) hx hb hr (fun t9 ht9 hW9 => ⟨⟨_, (mN M (1, M.2.2.2.1, M.2.2.2.2.1, M.2.2.2.2.2)), rfl, rfl, hX.P ht9 hW9⟩, hX.2.2.2.F ht9⟩) hX.2.2.2.2.2 dX6_drop_33
set_option maxHeartbeats 4000000 in
set_option maxRecDepth 100000 in
theorem o_X6_drop_2 (l : Launch) (dC : Nat → ClassId) (dI : Nat → Nat → Nat) (am : Nat → Nat) (M : MS) (i : Nat) (x9 : Int32) (hi : i < 3) (hb9 : x9 < 0 ∨ nI (M.1 i).2.2 ≤ x9) (hI : InvM M) : Met l yX6_drop wsX6_drop ({ frames := 2, cells := 0, slots := 0, locals := 44 } : Room) (va_Pc [.ref (am 0), .int (nI i), .int x9] (PM dC dI am M)) (va_Qi (fun r M' => M' = thM M 1) (PM dC dI am) (AM am)) 0 0 (AM am) := by
  refine Met.ofW (cc := cX6_drop) (maxL := 5) (ret := (some .int)) pl_X6 rfl ?_
  intro p e s m args below meth c s₁ B hml hv
  obtain ⟨rfl, hPX⟩ := hv
  have hx := B.exec
  have hb := B.bytes
  have hr := B.returns
  have hts := atoms_spec (ws := wsX6_drop) B.pre
  have hown : s.vm.findClass RX6 = some m.cls := findClass_of_methodNamed B.named
  have hlocks := B.notSynchronized
  have hin6 : ∀ w ∈ u_ws RX6 TX6 10, w ∈ wsX6_drop := tu 1331 (by decide +kernel) rfl
  have hX := WM.of hPX
  have hl := lv_entry ([.ref (am 0), .int (nI i), .int x9]) (n := 5) (Nat.le_of_ble_eq_true rfl)
  rw [lg_entry_eq]
  generalize (lg_sl ([.ref (am 0), .int (nI i), .int x9]) ++ List.replicate (5 - (lg_sl ([.ref (am 0), .int (nI i), .int x9])).length) Slot.unset).toArray = ls at hl ⊢
  have hl : lv_has ls 5 [(0, .ref (am 0)), (1, .int (nI i)), (2, .int x9)] := hl
  show W p l e ({ frames := 2, cells := 0, slots := 0, locals := 44 } : Room) s m ([.ref (am 0), .int (nI i), .int x9]).toArray below meth c s.heap [] 0 0 (MQ below (va_Qi (fun r M' => M' = thM M 1) (PM dC dI am) (AM am)) ([.ref (am 0), .int (nI i), .int x9]).toArray s 0 0 (AM am)) (F0 m 0 ls [])
  have hn := (hI.1 i (by omega)).1
  refine lv_aload_n hx hb dX6_drop_0 rfl (lv_at hl 0 rfl) ?_
  refine lv_iload_n hx hb dX6_drop_1 rfl (lv_at hl 1 rfl) ?_
  refine kx_cr (v := bI false) (va_runS (As := [.int (nI i)]) (rest := [.ref (am 0)]) ⟨hx, hb, hml, hown, hts⟩ (m_X6_isNoRow l dC dI am M (nI i)) (va_cwS 1 hts gX6_drop_X6_isNoRow rfl rfl rfl hdX6_isNoRow_1.2 ⟨Nat.le_of_ble_eq_true rfl, Nat.le_of_ble_eq_true rfl⟩) hX.preS rfl rfl hl.1 rfl (lv_room (Nat.le_of_ble_eq_true rfl)) dX6_drop_2 ⟨Nat.le_of_ble_eq_true rfl, Nat.le_of_ble_eq_true rfl⟩) (fun _ h => h.trans (isNo_ok (by omega) (by omega))) ?_
  refine lv_iconst (v := nI 1) hx hb dX6_drop_5 (by decide) ?_
  refine km_ci (va_runV (As := [.int (bI false), .int (nI 1)]) (rest := []) ⟨hx, hb, hml, hown, hts⟩ (m_X6_start l dC dI am M false 1 (by omega)) (cwV 2 hts gX6_drop_X6_start rfl rfl rfl hdX6_start_2 ⟨Nat.le_of_ble_eq_true rfl, Nat.le_of_ble_eq_true rfl⟩) (hX.preObj) rfl rfl hl.1 rfl (lv_room (Nat.le_of_ble_eq_true rfl)) dX6_drop_6 ⟨Nat.le_of_ble_eq_true rfl, Nat.le_of_ble_eq_true rfl⟩) hX (fun _ h => h) (fun r_ S_ H locs hw hX => ?_)
  obtain ⟨rfl, rfl⟩ := hw
  refine kb_if_ne (tgt := 32) hx hb dX6_drop_9 (by decide) (fun k_1 => absurd k_1 (by decide)) (fun k_1 => ?_)
  refine lv_aload_n hx hb dX6_drop_12 rfl (lv_at hl 0 rfl) ?_
  refine lv_iload_n hx hb dX6_drop_13 rfl (lv_at hl 2 rfl) ?_
  refine lv_aload_n hx hb dX6_drop_14 rfl (lv_at hl 0 rfl) ?_
  refine km_gsizes hx hb hts hin6 hown hX (hts (.fieldLink RX6 17 "OrderlatticeModel" "sizes" "[I") (tm 681 (by decide +kernel) rfl)) dX6_drop_15 ?_
  refine lv_iload_n hx hb dX6_drop_18 rfl (lv_at hl 1 rfl) ?_
  refine km_lz (v := (M.1 i).2.2) hx hb hX (by omega) rfl dX6_drop_19 ?_
  refine lv_iconst (v := nI 1) hx hb dX6_drop_20 (by decide) ?_
  refine lv_isub hx hb dX6_drop_21 ?_
  refine kx_cr (v := bI true) (va_runS (As := [.int x9, .int (nI ((M.1 i).2.2) - nI 1)]) (rest := [.ref (am 0)]) ⟨hx, hb, hml, hown, hts⟩ (m_X6_isNo l dC dI am (mN M (0, M.2.2.2.1, M.2.2.2.2.1, M.2.2.2.2.2)) x9 (nI ((M.1 i).2.2) - nI 1)) (va_cwS 2 hts gX6_drop_X6_isNo rfl rfl rfl hdX6_isNo_2.2 ⟨Nat.le_of_ble_eq_true rfl, Nat.le_of_ble_eq_true rfl⟩) hX.preS rfl rfl hl.1 rfl (lv_room (Nat.le_of_ble_eq_true rfl)) dX6_drop_22 ⟨Nat.le_of_ble_eq_true rfl, Nat.le_of_ble_eq_true rfl⟩) (fun _ h => h.trans (isNo_bad (isNo_pl (by omega) hb9))) ?_
  refine lv_iconst (v := nI 1) hx hb dX6_drop_25 (by decide) ?_
  refine km_ci (va_runV (As := [.int (bI true), .int (nI 1)]) (rest := []) ⟨hx, hb, hml, hown, hts⟩ (m_X6_refuse l dC dI am (mN M (0, M.2.2.2.1, M.2.2.2.2.1, M.2.2.2.2.2)) true 1 (by omega) rfl) (cwV 2 hts gX6_drop_X6_refuse rfl rfl rfl hdX6_refuse_2 ⟨Nat.le_of_ble_eq_true rfl, Nat.le_of_ble_eq_true rfl⟩) (hX.preObj) rfl rfl hl.1 rfl (lv_room (Nat.le_of_ble_eq_true rfl)) dX6_drop_26 ⟨Nat.le_of_ble_eq_true rfl, Nat.le_of_ble_eq_true rfl⟩) hX (fun _ h => h) (fun r_ S_ H locs hw hX => ?_)
  obtain ⟨rfl, rfl⟩ := hw
  refine kb_if_eq (tgt := 34) hx hb dX6_drop_29 (by decide) (fun k_2 => absurd k_2 (by decide)) (fun k_2 => ?_)
  refine lv_iconst (v := nI 0) hx hb dX6_drop_32 (by decide) ?_
  exact W.iret (v := nI 0) hx hb hr (fun t9 ht9 hW9 => ⟨⟨_, (mN M (1, M.2.2.2.1, M.2.2.2.2.1, M.2.2.2.2.2)), rfl, rfl, hX.P ht9 hW9⟩, hX.2.2.2.F ht9⟩) hX.2.2.2.2.2 dX6_drop_33
set_option maxHeartbeats 4000000 in
set_option maxRecDepth 100000 in
theorem o_X6_clear_1 (l : Launch) (dC : Nat → ClassId) (dI : Nat → Nat → Nat) (am : Nat → Nat) (M : MS) (x9 : Int32) (hb9 : x9 < 0 ∨ nI 3 ≤ x9) (hI : InvM M) : Met l yX6_clear wsX6_clear ({ frames := 2, cells := 0, slots := 0, locals := 44 } : Room) (va_Pc [.ref (am 0), .int x9] (PM dC dI am M)) (va_Qi (fun r M' => M' = thM M 1) (PM dC dI am) (AM am)) 0 0 (AM am) := by
  refine Met.ofW (cc := cX6_clear) (maxL := 3) (ret := (some .int)) pl_X6 rfl ?_
  intro p e s m args below meth c s₁ B hml hv
  obtain ⟨rfl, hPX⟩ := hv
  have hx := B.exec
  have hb := B.bytes
  have hr := B.returns
  have hts := atoms_spec (ws := wsX6_clear) B.pre
  have hown : s.vm.findClass RX6 = some m.cls := findClass_of_methodNamed B.named
  have hlocks := B.notSynchronized
  have hin6 : ∀ w ∈ u_ws RX6 TX6 10, w ∈ wsX6_clear := tu 1331 (by decide +kernel) rfl
  have hX := WM.of hPX
  have hl := lv_entry ([.ref (am 0), .int x9]) (n := 3) (Nat.le_of_ble_eq_true rfl)
  rw [lg_entry_eq]
  generalize (lg_sl ([.ref (am 0), .int x9]) ++ List.replicate (3 - (lg_sl ([.ref (am 0), .int x9])).length) Slot.unset).toArray = ls at hl ⊢
  have hl : lv_has ls 3 [(0, .ref (am 0)), (1, .int x9)] := hl
  show W p l e ({ frames := 2, cells := 0, slots := 0, locals := 44 } : Room) s m ([.ref (am 0), .int x9]).toArray below meth c s.heap [] 0 0 (MQ below (va_Qi (fun r M' => M' = thM M 1) (PM dC dI am) (AM am)) ([.ref (am 0), .int x9]).toArray s 0 0 (AM am)) (F0 m 0 ls [])
  refine lv_aload_n hx hb dX6_clear_0 rfl (lv_at hl 0 rfl) ?_
  refine lv_iload_n hx hb dX6_clear_1 rfl (lv_at hl 1 rfl) ?_
  refine kx_cr (v := bI true) (va_runS (As := [.int x9]) (rest := [.ref (am 0)]) ⟨hx, hb, hml, hown, hts⟩ (m_X6_isNoRow l dC dI am M x9) (va_cwS 1 hts gX6_clear_X6_isNoRow rfl rfl rfl hdX6_isNoRow_1.2 ⟨Nat.le_of_ble_eq_true rfl, Nat.le_of_ble_eq_true rfl⟩) hX.preS rfl rfl hl.1 rfl (lv_room (Nat.le_of_ble_eq_true rfl)) dX6_clear_2 ⟨Nat.le_of_ble_eq_true rfl, Nat.le_of_ble_eq_true rfl⟩) (fun _ h => h.trans (isNo_bad (isNo_r hb9))) ?_
  refine lv_iconst (v := nI 1) hx hb dX6_clear_5 (by decide) ?_
  refine km_ci (va_runV (As := [.int (bI true), .int (nI 1)]) (rest := []) ⟨hx, hb, hml, hown, hts⟩ (m_X6_start l dC dI am M true 1 (by omega)) (cwV 2 hts gX6_clear_X6_start rfl rfl rfl hdX6_start_2 ⟨Nat.le_of_ble_eq_true rfl, Nat.le_of_ble_eq_true rfl⟩) (hX.preObj) rfl rfl hl.1 rfl (lv_room (Nat.le_of_ble_eq_true rfl)) dX6_clear_6 ⟨Nat.le_of_ble_eq_true rfl, Nat.le_of_ble_eq_true rfl⟩) hX (fun _ h => h) (fun r_ S_ H locs hw hX => ?_)
  obtain ⟨rfl, rfl⟩ := hw
  refine kb_if_eq (tgt := 14) hx hb dX6_clear_9 (by decide) (fun k_1 => absurd k_1 (by decide)) (fun k_1 => ?_)
  refine lv_iconst (v := nI 0) hx hb dX6_clear_12 (by decide) ?_
  exact W.iret (v := nI 0) hx hb hr (fun t9 ht9 hW9 => ⟨⟨_, (mN M (1, M.2.2.2.1, M.2.2.2.2.1, M.2.2.2.2.2)), rfl, rfl, hX.P ht9 hW9⟩, hX.2.2.2.F ht9⟩) hX.2.2.2.2.2 dX6_clear_13
set_option maxHeartbeats 4000000 in
set_option maxRecDepth 100000 in
theorem o_X6_copyRow_1 (l : Launch) (dC : Nat → ClassId) (dI : Nat → Nat → Nat) (am : Nat → Nat) (M : MS) (x9 : Int32) (y1 : Int32) (hb9 : x9 < 0 ∨ nI 3 ≤ x9) (hI : InvM M) : Met l yX6_copyRow wsX6_copyRow ({ frames := 2, cells := 0, slots := 0, locals := 44 } : Room) (va_Pc [.ref (am 0), .int x9, .int y1] (PM dC dI am M)) (va_Qi (fun r M' => M' = thM M 1) (PM dC dI am) (AM am)) 0 0 (AM am) := by
  refine Met.ofW (cc := cX6_copyRow) (maxL := 4) (ret := (some .int)) pl_X6 rfl ?_
  intro p e s m args below meth c s₁ B hml hv
  obtain ⟨rfl, hPX⟩ := hv
  have hx := B.exec
  have hb := B.bytes
  have hr := B.returns
  have hts := atoms_spec (ws := wsX6_copyRow) B.pre
  have hown : s.vm.findClass RX6 = some m.cls := findClass_of_methodNamed B.named
  have hlocks := B.notSynchronized
  have hin6 : ∀ w ∈ u_ws RX6 TX6 10, w ∈ wsX6_copyRow := tu 1331 (by decide +kernel) rfl
  have hX := WM.of hPX
  have hl := lv_entry ([.ref (am 0), .int x9, .int y1]) (n := 4) (Nat.le_of_ble_eq_true rfl)
  rw [lg_entry_eq]
  generalize (lg_sl ([.ref (am 0), .int x9, .int y1]) ++ List.replicate (4 - (lg_sl ([.ref (am 0), .int x9, .int y1])).length) Slot.unset).toArray = ls at hl ⊢
  have hl : lv_has ls 4 [(0, .ref (am 0)), (1, .int x9), (2, .int y1)] := hl
  show W p l e ({ frames := 2, cells := 0, slots := 0, locals := 44 } : Room) s m ([.ref (am 0), .int x9, .int y1]).toArray below meth c s.heap [] 0 0 (MQ below (va_Qi (fun r M' => M' = thM M 1) (PM dC dI am) (AM am)) ([.ref (am 0), .int x9, .int y1]).toArray s 0 0 (AM am)) (F0 m 0 ls [])
  refine lv_aload_n hx hb dX6_copyRow_0 rfl (lv_at hl 0 rfl) ?_
  refine lv_iload_n hx hb dX6_copyRow_1 rfl (lv_at hl 1 rfl) ?_
  refine kx_cr (v := bI true) (va_runS (As := [.int x9]) (rest := [.ref (am 0)]) ⟨hx, hb, hml, hown, hts⟩ (m_X6_isNoRow l dC dI am M x9) (va_cwS 1 hts gX6_copyRow_X6_isNoRow rfl rfl rfl hdX6_isNoRow_1.2 ⟨Nat.le_of_ble_eq_true rfl, Nat.le_of_ble_eq_true rfl⟩) hX.preS rfl rfl hl.1 rfl (lv_room (Nat.le_of_ble_eq_true rfl)) dX6_copyRow_2 ⟨Nat.le_of_ble_eq_true rfl, Nat.le_of_ble_eq_true rfl⟩) (fun _ h => h.trans (isNo_bad (isNo_r hb9))) ?_
  refine kb_if_ne (tgt := 15) hx hb dX6_copyRow_5 (by decide) (fun k_1 => ?_) (fun k_1 => absurd k_1 (by decide))
  refine lv_iconst (v := nI 1) hx hb dX6_copyRow_15 (by decide) ?_
  refine lv_goto (tgt := 20) hx hb dX6_copyRow_16 (by decide) ?_
  refine lv_iconst (v := nI 1) hx hb dX6_copyRow_20 (by decide) ?_
  refine km_ci (va_runV (As := [.int (nI 1), .int (nI 1)]) (rest := []) ⟨hx, hb, hml, hown, hts⟩ (m_X6_start l dC dI am M true 1 (by omega)) (cwV 2 hts gX6_copyRow_X6_start rfl rfl rfl hdX6_start_2 ⟨Nat.le_of_ble_eq_true rfl, Nat.le_of_ble_eq_true rfl⟩) (hX.preObj) rfl rfl hl.1 rfl (lv_room (Nat.le_of_ble_eq_true rfl)) dX6_copyRow_21 ⟨Nat.le_of_ble_eq_true rfl, Nat.le_of_ble_eq_true rfl⟩) hX (fun _ h => h) (fun r_ S_ H locs hw hX => ?_)
  obtain ⟨rfl, rfl⟩ := hw
  refine kb_if_eq (tgt := 29) hx hb dX6_copyRow_24 (by decide) (fun k_2 => absurd k_2 (by decide)) (fun k_2 => ?_)
  refine lv_iconst (v := nI 0) hx hb dX6_copyRow_27 (by decide) ?_
  exact W.iret (v := nI 0) hx hb hr (fun t9 ht9 hW9 => ⟨⟨_, (mN M (1, M.2.2.2.1, M.2.2.2.2.1, M.2.2.2.2.2)), rfl, rfl, hX.P ht9 hW9⟩, hX.2.2.2.F ht9⟩) hX.2.2.2.2.2 dX6_copyRow_28
set_option maxHeartbeats 4000000 in
set_option maxRecDepth 100000 in
theorem o_X6_copyRow_2 (l : Launch) (dC : Nat → ClassId) (dI : Nat → Nat → Nat) (am : Nat → Nat) (M : MS) (i : Nat) (x9 : Int32) (hi : i < 3) (hb9 : x9 < 0 ∨ nI 3 ≤ x9) (hI : InvM M) : Met l yX6_copyRow wsX6_copyRow ({ frames := 2, cells := 0, slots := 0, locals := 44 } : Room) (va_Pc [.ref (am 0), .int (nI i), .int x9] (PM dC dI am M)) (va_Qi (fun r M' => M' = thM M 1) (PM dC dI am) (AM am)) 0 0 (AM am) := by
  refine Met.ofW (cc := cX6_copyRow) (maxL := 4) (ret := (some .int)) pl_X6 rfl ?_
  intro p e s m args below meth c s₁ B hml hv
  obtain ⟨rfl, hPX⟩ := hv
  have hx := B.exec
  have hb := B.bytes
  have hr := B.returns
  have hts := atoms_spec (ws := wsX6_copyRow) B.pre
  have hown : s.vm.findClass RX6 = some m.cls := findClass_of_methodNamed B.named
  have hlocks := B.notSynchronized
  have hin6 : ∀ w ∈ u_ws RX6 TX6 10, w ∈ wsX6_copyRow := tu 1331 (by decide +kernel) rfl
  have hX := WM.of hPX
  have hl := lv_entry ([.ref (am 0), .int (nI i), .int x9]) (n := 4) (Nat.le_of_ble_eq_true rfl)
  rw [lg_entry_eq]
  generalize (lg_sl ([.ref (am 0), .int (nI i), .int x9]) ++ List.replicate (4 - (lg_sl ([.ref (am 0), .int (nI i), .int x9])).length) Slot.unset).toArray = ls at hl ⊢
  have hl : lv_has ls 4 [(0, .ref (am 0)), (1, .int (nI i)), (2, .int x9)] := hl
  show W p l e ({ frames := 2, cells := 0, slots := 0, locals := 44 } : Room) s m ([.ref (am 0), .int (nI i), .int x9]).toArray below meth c s.heap [] 0 0 (MQ below (va_Qi (fun r M' => M' = thM M 1) (PM dC dI am) (AM am)) ([.ref (am 0), .int (nI i), .int x9]).toArray s 0 0 (AM am)) (F0 m 0 ls [])
  refine lv_aload_n hx hb dX6_copyRow_0 rfl (lv_at hl 0 rfl) ?_
  refine lv_iload_n hx hb dX6_copyRow_1 rfl (lv_at hl 1 rfl) ?_
  refine kx_cr (v := bI false) (va_runS (As := [.int (nI i)]) (rest := [.ref (am 0)]) ⟨hx, hb, hml, hown, hts⟩ (m_X6_isNoRow l dC dI am M (nI i)) (va_cwS 1 hts gX6_copyRow_X6_isNoRow rfl rfl rfl hdX6_isNoRow_1.2 ⟨Nat.le_of_ble_eq_true rfl, Nat.le_of_ble_eq_true rfl⟩) hX.preS rfl rfl hl.1 rfl (lv_room (Nat.le_of_ble_eq_true rfl)) dX6_copyRow_2 ⟨Nat.le_of_ble_eq_true rfl, Nat.le_of_ble_eq_true rfl⟩) (fun _ h => h.trans (isNo_ok (by omega) (by omega))) ?_
  refine kb_if_ne (tgt := 15) hx hb dX6_copyRow_5 (by decide) (fun k_1 => absurd k_1 (by decide)) (fun k_1 => ?_)
  refine lv_iload_n hx hb dX6_copyRow_8 rfl (lv_at hl 2 rfl) ?_
  refine kx_cr (v := bI true) (va_runS (As := [.int x9]) (rest := [.ref (am 0)]) ⟨hx, hb, hml, hown, hts⟩ (m_X6_isNoRow l dC dI am M x9) (va_cwS 1 hts gX6_copyRow_X6_isNoRow rfl rfl rfl hdX6_isNoRow_1.2 ⟨Nat.le_of_ble_eq_true rfl, Nat.le_of_ble_eq_true rfl⟩) hX.preS rfl rfl hl.1 rfl (lv_room (Nat.le_of_ble_eq_true rfl)) dX6_copyRow_9 ⟨Nat.le_of_ble_eq_true rfl, Nat.le_of_ble_eq_true rfl⟩) (fun _ h => h.trans (isNo_bad (isNo_r hb9))) ?_
  refine kb_if_eq (tgt := 19) hx hb dX6_copyRow_12 (by decide) (fun k_2 => absurd k_2 (by decide)) (fun k_2 => ?_)
  refine lv_iconst (v := nI 1) hx hb dX6_copyRow_15 (by decide) ?_
  refine lv_goto (tgt := 20) hx hb dX6_copyRow_16 (by decide) ?_
  refine lv_iconst (v := nI 1) hx hb dX6_copyRow_20 (by decide) ?_
  refine km_ci (va_runV (As := [.int (nI 1), .int (nI 1)]) (rest := []) ⟨hx, hb, hml, hown, hts⟩ (m_X6_start l dC dI am M true 1 (by omega)) (cwV 2 hts gX6_copyRow_X6_start rfl rfl rfl hdX6_start_2 ⟨Nat.le_of_ble_eq_true rfl, Nat.le_of_ble_eq_true rfl⟩) (hX.preObj) rfl rfl hl.1 rfl (lv_room (Nat.le_of_ble_eq_true rfl)) dX6_copyRow_21 ⟨Nat.le_of_ble_eq_true rfl, Nat.le_of_ble_eq_true rfl⟩) hX (fun _ h => h) (fun r_ S_ H locs hw hX => ?_)
  obtain ⟨rfl, rfl⟩ := hw
  refine kb_if_eq (tgt := 29) hx hb dX6_copyRow_24 (by decide) (fun k_3 => absurd k_3 (by decide)) (fun k_3 => ?_)
  refine lv_iconst (v := nI 0) hx hb dX6_copyRow_27 (by decide) ?_
  exact W.iret (v := nI 0) hx hb hr (fun t9 ht9 hW9 => ⟨⟨_, (mN M (1, M.2.2.2.1, M.2.2.2.2.1, M.2.2.2.2.2)), rfl, rfl, hX.P ht9 hW9⟩, hX.2.2.2.F ht9⟩) hX.2.2.2.2.2 dX6_copyRow_28
set_option maxHeartbeats 4000000 in
set_option maxRecDepth 100000 in
theorem o_X6_turnRow_1 (l : Launch) (dC : Nat → ClassId) (dI : Nat → Nat → Nat) (am : Nat → Nat) (M : MS) (x9 : Int32) (hb9 : x9 < 0 ∨ nI 3 ≤ x9) (hI : InvM M) : Met l yX6_turnRow wsX6_turnRow ({ frames := 2, cells := 0, slots := 0, locals := 44 } : Room) (va_Pc [.ref (am 0), .int x9] (PM dC dI am M)) (va_Qi (fun r M' => M' = thM M 1) (PM dC dI am) (AM am)) 0 0 (AM am) := by
  refine Met.ofW (cc := cX6_turnRow) (maxL := 4) (ret := (some .int)) pl_X6 rfl ?_
  intro p e s m args below meth c s₁ B hml hv
  obtain ⟨rfl, hPX⟩ := hv
  have hx := B.exec
  have hb := B.bytes
  have hr := B.returns
  have hts := atoms_spec (ws := wsX6_turnRow) B.pre
  have hown : s.vm.findClass RX6 = some m.cls := findClass_of_methodNamed B.named
  have hlocks := B.notSynchronized
  have hin6 : ∀ w ∈ u_ws RX6 TX6 10, w ∈ wsX6_turnRow := tu 1331 (by decide +kernel) rfl
  have hX := WM.of hPX
  have hl := lv_entry ([.ref (am 0), .int x9]) (n := 4) (Nat.le_of_ble_eq_true rfl)
  rw [lg_entry_eq]
  generalize (lg_sl ([.ref (am 0), .int x9]) ++ List.replicate (4 - (lg_sl ([.ref (am 0), .int x9])).length) Slot.unset).toArray = ls at hl ⊢
  have hl : lv_has ls 4 [(0, .ref (am 0)), (1, .int x9)] := hl
  show W p l e ({ frames := 2, cells := 0, slots := 0, locals := 44 } : Room) s m ([.ref (am 0), .int x9]).toArray below meth c s.heap [] 0 0 (MQ below (va_Qi (fun r M' => M' = thM M 1) (PM dC dI am) (AM am)) ([.ref (am 0), .int x9]).toArray s 0 0 (AM am)) (F0 m 0 ls [])
  refine lv_aload_n hx hb dX6_turnRow_0 rfl (lv_at hl 0 rfl) ?_
  refine lv_iload_n hx hb dX6_turnRow_1 rfl (lv_at hl 1 rfl) ?_
  refine kx_cr (v := bI true) (va_runS (As := [.int x9]) (rest := [.ref (am 0)]) ⟨hx, hb, hml, hown, hts⟩ (m_X6_isNoRow l dC dI am M x9) (va_cwS 1 hts gX6_turnRow_X6_isNoRow rfl rfl rfl hdX6_isNoRow_1.2 ⟨Nat.le_of_ble_eq_true rfl, Nat.le_of_ble_eq_true rfl⟩) hX.preS rfl rfl hl.1 rfl (lv_room (Nat.le_of_ble_eq_true rfl)) dX6_turnRow_2 ⟨Nat.le_of_ble_eq_true rfl, Nat.le_of_ble_eq_true rfl⟩) (fun _ h => h.trans (isNo_bad (isNo_r hb9))) ?_
  refine lv_iconst (v := nI 1) hx hb dX6_turnRow_5 (by decide) ?_
  refine km_ci (va_runV (As := [.int (bI true), .int (nI 1)]) (rest := []) ⟨hx, hb, hml, hown, hts⟩ (m_X6_start l dC dI am M true 1 (by omega)) (cwV 2 hts gX6_turnRow_X6_start rfl rfl rfl hdX6_start_2 ⟨Nat.le_of_ble_eq_true rfl, Nat.le_of_ble_eq_true rfl⟩) (hX.preObj) rfl rfl hl.1 rfl (lv_room (Nat.le_of_ble_eq_true rfl)) dX6_turnRow_6 ⟨Nat.le_of_ble_eq_true rfl, Nat.le_of_ble_eq_true rfl⟩) hX (fun _ h => h) (fun r_ S_ H locs hw hX => ?_)
  obtain ⟨rfl, rfl⟩ := hw
  refine kb_if_eq (tgt := 14) hx hb dX6_turnRow_9 (by decide) (fun k_1 => absurd k_1 (by decide)) (fun k_1 => ?_)
  refine lv_iconst (v := nI 0) hx hb dX6_turnRow_12 (by decide) ?_
  exact W.iret (v := nI 0) hx hb hr (fun t9 ht9 hW9 => ⟨⟨_, (mN M (1, M.2.2.2.1, M.2.2.2.2.1, M.2.2.2.2.2)), rfl, rfl, hX.P ht9 hW9⟩, hX.2.2.2.F ht9⟩) hX.2.2.2.2.2 dX6_turnRow_13
set_option maxHeartbeats 4000000 in
set_option maxRecDepth 100000 in
theorem o_X6_wheel_1 (l : Launch) (dC : Nat → ClassId) (dI : Nat → Nat → Nat) (am : Nat → Nat) (M : MS) (x9 : Int32) (y1 : Int32) (hb9 : x9 < 0 ∨ nI 3 ≤ x9) (hI : InvM M) : Met l yX6_wheel wsX6_wheel ({ frames := 2, cells := 0, slots := 0, locals := 44 } : Room) (va_Pc [.ref (am 0), .int x9, .int y1] (PM dC dI am M)) (va_Qi (fun r M' => M' = thM M 1) (PM dC dI am) (AM am)) 0 0 (AM am) := by
  refine Met.ofW (cc := cX6_wheel) (maxL := 7) (ret := (some .int)) pl_X6 rfl ?_
  intro p e s m args below meth c s₁ B hml hv
  obtain ⟨rfl, hPX⟩ := hv
  have hx := B.exec
  have hb := B.bytes
  have hr := B.returns
  have hts := atoms_spec (ws := wsX6_wheel) B.pre
  have hown : s.vm.findClass RX6 = some m.cls := findClass_of_methodNamed B.named
  have hlocks := B.notSynchronized
  have hin6 : ∀ w ∈ u_ws RX6 TX6 10, w ∈ wsX6_wheel := tu 1331 (by decide +kernel) rfl
  have hX := WM.of hPX
  have hl := lv_entry ([.ref (am 0), .int x9, .int y1]) (n := 7) (Nat.le_of_ble_eq_true rfl)
  rw [lg_entry_eq]
  generalize (lg_sl ([.ref (am 0), .int x9, .int y1]) ++ List.replicate (7 - (lg_sl ([.ref (am 0), .int x9, .int y1])).length) Slot.unset).toArray = ls at hl ⊢
  have hl : lv_has ls 7 [(0, .ref (am 0)), (1, .int x9), (2, .int y1)] := hl
  show W p l e ({ frames := 2, cells := 0, slots := 0, locals := 44 } : Room) s m ([.ref (am 0), .int x9, .int y1]).toArray below meth c s.heap [] 0 0 (MQ below (va_Qi (fun r M' => M' = thM M 1) (PM dC dI am) (AM am)) ([.ref (am 0), .int x9, .int y1]).toArray s 0 0 (AM am)) (F0 m 0 ls [])
  refine lv_aload_n hx hb dX6_wheel_0 rfl (lv_at hl 0 rfl) ?_
  refine lv_iload_n hx hb dX6_wheel_1 rfl (lv_at hl 1 rfl) ?_
  refine kx_cr (v := bI true) (va_runS (As := [.int x9]) (rest := [.ref (am 0)]) ⟨hx, hb, hml, hown, hts⟩ (m_X6_isNoRow l dC dI am M x9) (va_cwS 1 hts gX6_wheel_X6_isNoRow rfl rfl rfl hdX6_isNoRow_1.2 ⟨Nat.le_of_ble_eq_true rfl, Nat.le_of_ble_eq_true rfl⟩) hX.preS rfl rfl hl.1 rfl (lv_room (Nat.le_of_ble_eq_true rfl)) dX6_wheel_2 ⟨Nat.le_of_ble_eq_true rfl, Nat.le_of_ble_eq_true rfl⟩) (fun _ h => h.trans (isNo_bad (isNo_r hb9))) ?_
  refine lv_iconst (v := nI 1) hx hb dX6_wheel_5 (by decide) ?_
  refine km_ci (va_runV (As := [.int (bI true), .int (nI 1)]) (rest := []) ⟨hx, hb, hml, hown, hts⟩ (m_X6_start l dC dI am M true 1 (by omega)) (cwV 2 hts gX6_wheel_X6_start rfl rfl rfl hdX6_start_2 ⟨Nat.le_of_ble_eq_true rfl, Nat.le_of_ble_eq_true rfl⟩) (hX.preObj) rfl rfl hl.1 rfl (lv_room (Nat.le_of_ble_eq_true rfl)) dX6_wheel_6 ⟨Nat.le_of_ble_eq_true rfl, Nat.le_of_ble_eq_true rfl⟩) hX (fun _ h => h) (fun r_ S_ H locs hw hX => ?_)
  obtain ⟨rfl, rfl⟩ := hw
  refine kb_if_eq (tgt := 14) hx hb dX6_wheel_9 (by decide) (fun k_1 => absurd k_1 (by decide)) (fun k_1 => ?_)
  refine lv_iconst (v := nI 0) hx hb dX6_wheel_12 (by decide) ?_
  exact W.iret (v := nI 0) hx hb hr (fun t9 ht9 hW9 => ⟨⟨_, (mN M (1, M.2.2.2.1, M.2.2.2.2.1, M.2.2.2.2.2)), rfl, rfl, hX.P ht9 hW9⟩, hX.2.2.2.F ht9⟩) hX.2.2.2.2.2 dX6_wheel_13
set_option maxHeartbeats 4000000 in
set_option maxRecDepth 100000 in
theorem o_X6_swap_1 (l : Launch) (dC : Nat → ClassId) (dI : Nat → Nat → Nat) (am : Nat → Nat) (M : MS) (x9 : Int32) (y1 : Int32) (y2 : Int32) (hb9 : x9 < 0 ∨ nI 3 ≤ x9) (hI : InvM M) : Met l yX6_swap wsX6_swap ({ frames := 2, cells := 0, slots := 0, locals := 44 } : Room) (va_Pc [.ref (am 0), .int x9, .int y1, .int y2] (PM dC dI am M)) (va_Qi (fun r M' => M' = thM M 1) (PM dC dI am) (AM am)) 0 0 (AM am) := by
  refine Met.ofW (cc := cX6_swap) (maxL := 4) (ret := (some .int)) pl_X6 rfl ?_
  intro p e s m args below meth c s₁ B hml hv
  obtain ⟨rfl, hPX⟩ := hv
  have hx := B.exec
  have hb := B.bytes
  have hr := B.returns
  have hts := atoms_spec (ws := wsX6_swap) B.pre
  have hown : s.vm.findClass RX6 = some m.cls := findClass_of_methodNamed B.named
  have hlocks := B.notSynchronized
  have hin6 : ∀ w ∈ u_ws RX6 TX6 10, w ∈ wsX6_swap := tu 1331 (by decide +kernel) rfl
  have hX := WM.of hPX
  have hl := lv_entry ([.ref (am 0), .int x9, .int y1, .int y2]) (n := 4) (Nat.le_of_ble_eq_true rfl)
  rw [lg_entry_eq]
  generalize (lg_sl ([.ref (am 0), .int x9, .int y1, .int y2]) ++ List.replicate (4 - (lg_sl ([.ref (am 0), .int x9, .int y1, .int y2])).length) Slot.unset).toArray = ls at hl ⊢
  have hl : lv_has ls 4 [(0, .ref (am 0)), (1, .int x9), (2, .int y1), (3, .int y2)] := hl
  show W p l e ({ frames := 2, cells := 0, slots := 0, locals := 44 } : Room) s m ([.ref (am 0), .int x9, .int y1, .int y2]).toArray below meth c s.heap [] 0 0 (MQ below (va_Qi (fun r M' => M' = thM M 1) (PM dC dI am) (AM am)) ([.ref (am 0), .int x9, .int y1, .int y2]).toArray s 0 0 (AM am)) (F0 m 0 ls [])
  refine lv_aload_n hx hb dX6_swap_0 rfl (lv_at hl 0 rfl) ?_
  refine lv_iload_n hx hb dX6_swap_1 rfl (lv_at hl 1 rfl) ?_
  refine kx_cr (v := bI true) (va_runS (As := [.int x9]) (rest := [.ref (am 0)]) ⟨hx, hb, hml, hown, hts⟩ (m_X6_isNoRow l dC dI am M x9) (va_cwS 1 hts gX6_swap_X6_isNoRow rfl rfl rfl hdX6_isNoRow_1.2 ⟨Nat.le_of_ble_eq_true rfl, Nat.le_of_ble_eq_true rfl⟩) hX.preS rfl rfl hl.1 rfl (lv_room (Nat.le_of_ble_eq_true rfl)) dX6_swap_2 ⟨Nat.le_of_ble_eq_true rfl, Nat.le_of_ble_eq_true rfl⟩) (fun _ h => h.trans (isNo_bad (isNo_r hb9))) ?_
  refine lv_iconst (v := nI 1) hx hb dX6_swap_5 (by decide) ?_
  refine km_ci (va_runV (As := [.int (bI true), .int (nI 1)]) (rest := []) ⟨hx, hb, hml, hown, hts⟩ (m_X6_start l dC dI am M true 1 (by omega)) (cwV 2 hts gX6_swap_X6_start rfl rfl rfl hdX6_start_2 ⟨Nat.le_of_ble_eq_true rfl, Nat.le_of_ble_eq_true rfl⟩) (hX.preObj) rfl rfl hl.1 rfl (lv_room (Nat.le_of_ble_eq_true rfl)) dX6_swap_6 ⟨Nat.le_of_ble_eq_true rfl, Nat.le_of_ble_eq_true rfl⟩) hX (fun _ h => h) (fun r_ S_ H locs hw hX => ?_)
  obtain ⟨rfl, rfl⟩ := hw
  refine kb_if_ne (tgt := 55) hx hb dX6_swap_9 (by decide) (fun k_1 => ?_) (fun k_1 => absurd k_1 (by decide))
  refine lv_iconst (v := nI 0) hx hb dX6_swap_55 (by decide) ?_
  exact W.iret (v := nI 0) hx hb hr (fun t9 ht9 hW9 => ⟨⟨_, (mN M (1, M.2.2.2.1, M.2.2.2.2.1, M.2.2.2.2.2)), rfl, rfl, hX.P ht9 hW9⟩, hX.2.2.2.F ht9⟩) hX.2.2.2.2.2 dX6_swap_56
set_option maxHeartbeats 4000000 in
set_option maxRecDepth 100000 in
theorem o_X6_swap_2 (l : Launch) (dC : Nat → ClassId) (dI : Nat → Nat → Nat) (am : Nat → Nat) (M : MS) (i : Nat) (x9 : Int32) (y2 : Int32) (hi : i < 3) (hb9 : x9 < 0 ∨ nI (M.1 i).2.2 ≤ x9) (hI : InvM M) : Met l yX6_swap wsX6_swap ({ frames := 2, cells := 0, slots := 0, locals := 44 } : Room) (va_Pc [.ref (am 0), .int (nI i), .int x9, .int y2] (PM dC dI am M)) (va_Qi (fun r M' => M' = thM M 1) (PM dC dI am) (AM am)) 0 0 (AM am) := by
  refine Met.ofW (cc := cX6_swap) (maxL := 4) (ret := (some .int)) pl_X6 rfl ?_
  intro p e s m args below meth c s₁ B hml hv
  obtain ⟨rfl, hPX⟩ := hv
  have hx := B.exec
  have hb := B.bytes
  have hr := B.returns
  have hts := atoms_spec (ws := wsX6_swap) B.pre
  have hown : s.vm.findClass RX6 = some m.cls := findClass_of_methodNamed B.named
  have hlocks := B.notSynchronized
  have hin6 : ∀ w ∈ u_ws RX6 TX6 10, w ∈ wsX6_swap := tu 1331 (by decide +kernel) rfl
  have hX := WM.of hPX
  have hl := lv_entry ([.ref (am 0), .int (nI i), .int x9, .int y2]) (n := 4) (Nat.le_of_ble_eq_true rfl)
  rw [lg_entry_eq]
  generalize (lg_sl ([.ref (am 0), .int (nI i), .int x9, .int y2]) ++ List.replicate (4 - (lg_sl ([.ref (am 0), .int (nI i), .int x9, .int y2])).length) Slot.unset).toArray = ls at hl ⊢
  have hl : lv_has ls 4 [(0, .ref (am 0)), (1, .int (nI i)), (2, .int x9), (3, .int y2)] := hl
  show W p l e ({ frames := 2, cells := 0, slots := 0, locals := 44 } : Room) s m ([.ref (am 0), .int (nI i), .int x9, .int y2]).toArray below meth c s.heap [] 0 0 (MQ below (va_Qi (fun r M' => M' = thM M 1) (PM dC dI am) (AM am)) ([.ref (am 0), .int (nI i), .int x9, .int y2]).toArray s 0 0 (AM am)) (F0 m 0 ls [])
  have hn := (hI.1 i (by omega)).1
  refine lv_aload_n hx hb dX6_swap_0 rfl (lv_at hl 0 rfl) ?_
  refine lv_iload_n hx hb dX6_swap_1 rfl (lv_at hl 1 rfl) ?_
  refine kx_cr (v := bI false) (va_runS (As := [.int (nI i)]) (rest := [.ref (am 0)]) ⟨hx, hb, hml, hown, hts⟩ (m_X6_isNoRow l dC dI am M (nI i)) (va_cwS 1 hts gX6_swap_X6_isNoRow rfl rfl rfl hdX6_isNoRow_1.2 ⟨Nat.le_of_ble_eq_true rfl, Nat.le_of_ble_eq_true rfl⟩) hX.preS rfl rfl hl.1 rfl (lv_room (Nat.le_of_ble_eq_true rfl)) dX6_swap_2 ⟨Nat.le_of_ble_eq_true rfl, Nat.le_of_ble_eq_true rfl⟩) (fun _ h => h.trans (isNo_ok (by omega) (by omega))) ?_
  refine lv_iconst (v := nI 1) hx hb dX6_swap_5 (by decide) ?_
  refine km_ci (va_runV (As := [.int (bI false), .int (nI 1)]) (rest := []) ⟨hx, hb, hml, hown, hts⟩ (m_X6_start l dC dI am M false 1 (by omega)) (cwV 2 hts gX6_swap_X6_start rfl rfl rfl hdX6_start_2 ⟨Nat.le_of_ble_eq_true rfl, Nat.le_of_ble_eq_true rfl⟩) (hX.preObj) rfl rfl hl.1 rfl (lv_room (Nat.le_of_ble_eq_true rfl)) dX6_swap_6 ⟨Nat.le_of_ble_eq_true rfl, Nat.le_of_ble_eq_true rfl⟩) hX (fun _ h => h) (fun r_ S_ H locs hw hX => ?_)
  obtain ⟨rfl, rfl⟩ := hw
  refine kb_if_ne (tgt := 55) hx hb dX6_swap_9 (by decide) (fun k_1 => absurd k_1 (by decide)) (fun k_1 => ?_)
  refine lv_aload_n hx hb dX6_swap_12 rfl (lv_at hl 0 rfl) ?_
  refine lv_iload_n hx hb dX6_swap_13 rfl (lv_at hl 2 rfl) ?_
  refine lv_aload_n hx hb dX6_swap_14 rfl (lv_at hl 0 rfl) ?_
  refine km_gsizes hx hb hts hin6 hown hX (hts (.fieldLink RX6 17 "OrderlatticeModel" "sizes" "[I") (tm 681 (by decide +kernel) rfl)) dX6_swap_15 ?_
  refine lv_iload_n hx hb dX6_swap_18 rfl (lv_at hl 1 rfl) ?_
  refine km_lz (v := (M.1 i).2.2) hx hb hX (by omega) rfl dX6_swap_19 ?_
  refine lv_iconst (v := nI 1) hx hb dX6_swap_20 (by decide) ?_
  refine lv_isub hx hb dX6_swap_21 ?_
  refine kx_cr (v := bI true) (va_runS (As := [.int x9, .int (nI ((M.1 i).2.2) - nI 1)]) (rest := [.ref (am 0)]) ⟨hx, hb, hml, hown, hts⟩ (m_X6_isNo l dC dI am (mN M (0, M.2.2.2.1, M.2.2.2.2.1, M.2.2.2.2.2)) x9 (nI ((M.1 i).2.2) - nI 1)) (va_cwS 2 hts gX6_swap_X6_isNo rfl rfl rfl hdX6_isNo_2.2 ⟨Nat.le_of_ble_eq_true rfl, Nat.le_of_ble_eq_true rfl⟩) hX.preS rfl rfl hl.1 rfl (lv_room (Nat.le_of_ble_eq_true rfl)) dX6_swap_22 ⟨Nat.le_of_ble_eq_true rfl, Nat.le_of_ble_eq_true rfl⟩) (fun _ h => h.trans (isNo_bad (isNo_pl (by omega) hb9))) ?_
  refine kb_if_ne (tgt := 43) hx hb dX6_swap_25 (by decide) (fun k_2 => ?_) (fun k_2 => absurd k_2 (by decide))
  refine lv_iconst (v := nI 1) hx hb dX6_swap_43 (by decide) ?_
  refine lv_goto (tgt := 48) hx hb dX6_swap_44 (by decide) ?_
  refine lv_iconst (v := nI 1) hx hb dX6_swap_48 (by decide) ?_
  refine km_ci (va_runV (As := [.int (nI 1), .int (nI 1)]) (rest := []) ⟨hx, hb, hml, hown, hts⟩ (m_X6_refuse l dC dI am (mN M (0, M.2.2.2.1, M.2.2.2.2.1, M.2.2.2.2.2)) true 1 (by omega) rfl) (cwV 2 hts gX6_swap_X6_refuse rfl rfl rfl hdX6_refuse_2 ⟨Nat.le_of_ble_eq_true rfl, Nat.le_of_ble_eq_true rfl⟩) (hX.preObj) rfl rfl hl.1 rfl (lv_room (Nat.le_of_ble_eq_true rfl)) dX6_swap_49 ⟨Nat.le_of_ble_eq_true rfl, Nat.le_of_ble_eq_true rfl⟩) hX (fun _ h => h) (fun r_ S_ H locs hw hX => ?_)
  obtain ⟨rfl, rfl⟩ := hw
  refine kb_if_eq (tgt := 57) hx hb dX6_swap_52 (by decide) (fun k_3 => absurd k_3 (by decide)) (fun k_3 => ?_)
  refine lv_iconst (v := nI 0) hx hb dX6_swap_55 (by decide) ?_
  exact W.iret (v := nI 0) hx hb hr (fun t9 ht9 hW9 => ⟨⟨_, (mN M (1, M.2.2.2.1, M.2.2.2.2.1, M.2.2.2.2.2)), rfl, rfl, hX.P ht9 hW9⟩, hX.2.2.2.F ht9⟩) hX.2.2.2.2.2 dX6_swap_56
set_option maxHeartbeats 4000000 in
set_option maxRecDepth 100000 in
theorem o_X6_swap_3 (l : Launch) (dC : Nat → ClassId) (dI : Nat → Nat → Nat) (am : Nat → Nat) (M : MS) (i : Nat) (q : Nat) (x9 : Int32) (hi : i < 3) (hq : q < (M.1 i).2.2) (hb9 : x9 < 0 ∨ nI (M.1 i).2.2 ≤ x9) (hI : InvM M) : Met l yX6_swap wsX6_swap ({ frames := 2, cells := 0, slots := 0, locals := 44 } : Room) (va_Pc [.ref (am 0), .int (nI i), .int (nI q), .int x9] (PM dC dI am M)) (va_Qi (fun r M' => M' = thM M 1) (PM dC dI am) (AM am)) 0 0 (AM am) := by
  refine Met.ofW (cc := cX6_swap) (maxL := 4) (ret := (some .int)) pl_X6 rfl ?_
  intro p e s m args below meth c s₁ B hml hv
  obtain ⟨rfl, hPX⟩ := hv
  have hx := B.exec
  have hb := B.bytes
  have hr := B.returns
  have hts := atoms_spec (ws := wsX6_swap) B.pre
  have hown : s.vm.findClass RX6 = some m.cls := findClass_of_methodNamed B.named
  have hlocks := B.notSynchronized
  have hin6 : ∀ w ∈ u_ws RX6 TX6 10, w ∈ wsX6_swap := tu 1331 (by decide +kernel) rfl
  have hX := WM.of hPX
  have hl := lv_entry ([.ref (am 0), .int (nI i), .int (nI q), .int x9]) (n := 4) (Nat.le_of_ble_eq_true rfl)
  rw [lg_entry_eq]
  generalize (lg_sl ([.ref (am 0), .int (nI i), .int (nI q), .int x9]) ++ List.replicate (4 - (lg_sl ([.ref (am 0), .int (nI i), .int (nI q), .int x9])).length) Slot.unset).toArray = ls at hl ⊢
  have hl : lv_has ls 4 [(0, .ref (am 0)), (1, .int (nI i)), (2, .int (nI q)), (3, .int x9)] := hl
  show W p l e ({ frames := 2, cells := 0, slots := 0, locals := 44 } : Room) s m ([.ref (am 0), .int (nI i), .int (nI q), .int x9]).toArray below meth c s.heap [] 0 0 (MQ below (va_Qi (fun r M' => M' = thM M 1) (PM dC dI am) (AM am)) ([.ref (am 0), .int (nI i), .int (nI q), .int x9]).toArray s 0 0 (AM am)) (F0 m 0 ls [])
  have hn := (hI.1 i (by omega)).1
  refine lv_aload_n hx hb dX6_swap_0 rfl (lv_at hl 0 rfl) ?_
  refine lv_iload_n hx hb dX6_swap_1 rfl (lv_at hl 1 rfl) ?_
  refine kx_cr (v := bI false) (va_runS (As := [.int (nI i)]) (rest := [.ref (am 0)]) ⟨hx, hb, hml, hown, hts⟩ (m_X6_isNoRow l dC dI am M (nI i)) (va_cwS 1 hts gX6_swap_X6_isNoRow rfl rfl rfl hdX6_isNoRow_1.2 ⟨Nat.le_of_ble_eq_true rfl, Nat.le_of_ble_eq_true rfl⟩) hX.preS rfl rfl hl.1 rfl (lv_room (Nat.le_of_ble_eq_true rfl)) dX6_swap_2 ⟨Nat.le_of_ble_eq_true rfl, Nat.le_of_ble_eq_true rfl⟩) (fun _ h => h.trans (isNo_ok (by omega) (by omega))) ?_
  refine lv_iconst (v := nI 1) hx hb dX6_swap_5 (by decide) ?_
  refine km_ci (va_runV (As := [.int (bI false), .int (nI 1)]) (rest := []) ⟨hx, hb, hml, hown, hts⟩ (m_X6_start l dC dI am M false 1 (by omega)) (cwV 2 hts gX6_swap_X6_start rfl rfl rfl hdX6_start_2 ⟨Nat.le_of_ble_eq_true rfl, Nat.le_of_ble_eq_true rfl⟩) (hX.preObj) rfl rfl hl.1 rfl (lv_room (Nat.le_of_ble_eq_true rfl)) dX6_swap_6 ⟨Nat.le_of_ble_eq_true rfl, Nat.le_of_ble_eq_true rfl⟩) hX (fun _ h => h) (fun r_ S_ H locs hw hX => ?_)
  obtain ⟨rfl, rfl⟩ := hw
  refine kb_if_ne (tgt := 55) hx hb dX6_swap_9 (by decide) (fun k_1 => absurd k_1 (by decide)) (fun k_1 => ?_)
  refine lv_aload_n hx hb dX6_swap_12 rfl (lv_at hl 0 rfl) ?_
  refine lv_iload_n hx hb dX6_swap_13 rfl (lv_at hl 2 rfl) ?_
  refine lv_aload_n hx hb dX6_swap_14 rfl (lv_at hl 0 rfl) ?_
  refine km_gsizes hx hb hts hin6 hown hX (hts (.fieldLink RX6 17 "OrderlatticeModel" "sizes" "[I") (tm 681 (by decide +kernel) rfl)) dX6_swap_15 ?_
  refine lv_iload_n hx hb dX6_swap_18 rfl (lv_at hl 1 rfl) ?_
  refine km_lz (v := (M.1 i).2.2) hx hb hX (by omega) rfl dX6_swap_19 ?_
  refine lv_iconst (v := nI 1) hx hb dX6_swap_20 (by decide) ?_
  refine kn_isub hx hb (by omega) dX6_swap_21 ?_
  refine kx_cr (v := bI false) (va_runS (As := [.int (nI q), .int (nI (((M.1 i).2.2) - 1))]) (rest := [.ref (am 0)]) ⟨hx, hb, hml, hown, hts⟩ (m_X6_isNo l dC dI am (mN M (0, M.2.2.2.1, M.2.2.2.2.1, M.2.2.2.2.2)) (nI q) (nI (((M.1 i).2.2) - 1))) (va_cwS 2 hts gX6_swap_X6_isNo rfl rfl rfl hdX6_isNo_2.2 ⟨Nat.le_of_ble_eq_true rfl, Nat.le_of_ble_eq_true rfl⟩) hX.preS rfl rfl hl.1 rfl (lv_room (Nat.le_of_ble_eq_true rfl)) dX6_swap_22 ⟨Nat.le_of_ble_eq_true rfl, Nat.le_of_ble_eq_true rfl⟩) (fun _ h => h.trans (isNo_ok (by omega) (by omega))) ?_
  refine kb_if_ne (tgt := 43) hx hb dX6_swap_25 (by decide) (fun k_2 => absurd k_2 (by decide)) (fun k_2 => ?_)
  refine lv_iload_n hx hb dX6_swap_28 rfl (lv_at hl 3 rfl) ?_
  refine lv_aload_n hx hb dX6_swap_29 rfl (lv_at hl 0 rfl) ?_
  refine km_gsizes hx hb hts hin6 hown hX (hts (.fieldLink RX6 17 "OrderlatticeModel" "sizes" "[I") (tm 681 (by decide +kernel) rfl)) dX6_swap_30 ?_
  refine lv_iload_n hx hb dX6_swap_33 rfl (lv_at hl 1 rfl) ?_
  refine km_lz (v := (M.1 i).2.2) hx hb hX (by omega) rfl dX6_swap_34 ?_
  refine lv_iconst (v := nI 1) hx hb dX6_swap_35 (by decide) ?_
  refine kn_isub hx hb (by omega) dX6_swap_36 ?_
  refine kx_cr (v := bI true) (va_runS (As := [.int x9, .int (nI (((M.1 i).2.2) - 1))]) (rest := [.ref (am 0)]) ⟨hx, hb, hml, hown, hts⟩ (m_X6_isNo l dC dI am (mN M (0, M.2.2.2.1, M.2.2.2.2.1, M.2.2.2.2.2)) x9 (nI (((M.1 i).2.2) - 1))) (va_cwS 2 hts gX6_swap_X6_isNo rfl rfl rfl hdX6_isNo_2.2 ⟨Nat.le_of_ble_eq_true rfl, Nat.le_of_ble_eq_true rfl⟩) hX.preS rfl rfl hl.1 rfl (lv_room (Nat.le_of_ble_eq_true rfl)) dX6_swap_37 ⟨Nat.le_of_ble_eq_true rfl, Nat.le_of_ble_eq_true rfl⟩) (fun _ h => h.trans (isNo_bad (isNo_p2 (by omega) (by omega) hb9))) ?_
  refine kb_if_eq (tgt := 47) hx hb dX6_swap_40 (by decide) (fun k_3 => absurd k_3 (by decide)) (fun k_3 => ?_)
  refine lv_iconst (v := nI 1) hx hb dX6_swap_43 (by decide) ?_
  refine lv_goto (tgt := 48) hx hb dX6_swap_44 (by decide) ?_
  refine lv_iconst (v := nI 1) hx hb dX6_swap_48 (by decide) ?_
  refine km_ci (va_runV (As := [.int (nI 1), .int (nI 1)]) (rest := []) ⟨hx, hb, hml, hown, hts⟩ (m_X6_refuse l dC dI am (mN M (0, M.2.2.2.1, M.2.2.2.2.1, M.2.2.2.2.2)) true 1 (by omega) rfl) (cwV 2 hts gX6_swap_X6_refuse rfl rfl rfl hdX6_refuse_2 ⟨Nat.le_of_ble_eq_true rfl, Nat.le_of_ble_eq_true rfl⟩) (hX.preObj) rfl rfl hl.1 rfl (lv_room (Nat.le_of_ble_eq_true rfl)) dX6_swap_49 ⟨Nat.le_of_ble_eq_true rfl, Nat.le_of_ble_eq_true rfl⟩) hX (fun _ h => h) (fun r_ S_ H locs hw hX => ?_)
  obtain ⟨rfl, rfl⟩ := hw
  refine kb_if_eq (tgt := 57) hx hb dX6_swap_52 (by decide) (fun k_4 => absurd k_4 (by decide)) (fun k_4 => ?_)
  refine lv_iconst (v := nI 0) hx hb dX6_swap_55 (by decide) ?_
  exact W.iret (v := nI 0) hx hb hr (fun t9 ht9 hW9 => ⟨⟨_, (mN M (1, M.2.2.2.1, M.2.2.2.2.1, M.2.2.2.2.2)), rfl, rfl, hX.P ht9 hW9⟩, hX.2.2.2.F ht9⟩) hX.2.2.2.2.2 dX6_swap_56
set_option maxHeartbeats 4000000 in
set_option maxRecDepth 100000 in
theorem o_X6_sort_1 (l : Launch) (dC : Nat → ClassId) (dI : Nat → Nat → Nat) (am : Nat → Nat) (M : MS) (x9 : Int32) (y1 : Int32) (y2 : Int32) (hb9 : x9 < 0 ∨ nI 3 ≤ x9) (hI : InvM M) : Met l yX6_sort wsX6_sort ({ frames := 3, cells := 1, slots := 12, locals := 74 } : Room) (va_Pc [.ref (am 0), .int x9, .int y1, .int y2] (PM dC dI am M)) (va_Qi (fun r M' => M' = thM M 1) (PM dC dI am) (AM am)) 1 12 (AM am) := by
  refine Met.ofW (cc := cX6_sort) (maxL := 4) (ret := (some .int)) pl_X6 rfl ?_
  intro p e s m args below meth c s₁ B hml hv
  obtain ⟨rfl, hPX⟩ := hv
  have hx := B.exec
  have hb := B.bytes
  have hr := B.returns
  have hts := atoms_spec (ws := wsX6_sort) B.pre
  have hown : s.vm.findClass RX6 = some m.cls := findClass_of_methodNamed B.named
  have hlocks := B.notSynchronized
  have hin6 : ∀ w ∈ u_ws RX6 TX6 10, w ∈ wsX6_sort := tu 1331 (by decide +kernel) rfl
  have hX := WM.of hPX
  have hl := lv_entry ([.ref (am 0), .int x9, .int y1, .int y2]) (n := 4) (Nat.le_of_ble_eq_true rfl)
  rw [lg_entry_eq]
  generalize (lg_sl ([.ref (am 0), .int x9, .int y1, .int y2]) ++ List.replicate (4 - (lg_sl ([.ref (am 0), .int x9, .int y1, .int y2])).length) Slot.unset).toArray = ls at hl ⊢
  have hl : lv_has ls 4 [(0, .ref (am 0)), (1, .int x9), (2, .int y1), (3, .int y2)] := hl
  show W p l e ({ frames := 3, cells := 1, slots := 12, locals := 74 } : Room) s m ([.ref (am 0), .int x9, .int y1, .int y2]).toArray below meth c s.heap [] 0 0 (MQ below (va_Qi (fun r M' => M' = thM M 1) (PM dC dI am) (AM am)) ([.ref (am 0), .int x9, .int y1, .int y2]).toArray s 1 12 (AM am)) (F0 m 0 ls [])
  refine lv_aload_n hx hb dX6_sort_0 rfl (lv_at hl 0 rfl) ?_
  refine lv_iload_n hx hb dX6_sort_1 rfl (lv_at hl 1 rfl) ?_
  refine kx_cr (v := bI true) (va_runS (As := [.int x9]) (rest := [.ref (am 0)]) ⟨hx, hb, hml, hown, hts⟩ (m_X6_isNoRow l dC dI am M x9) (va_cwS 1 hts gX6_sort_X6_isNoRow rfl rfl rfl hdX6_isNoRow_1.2 ⟨Nat.le_of_ble_eq_true rfl, Nat.le_of_ble_eq_true rfl⟩) hX.preS rfl rfl hl.1 rfl (lv_room (Nat.le_of_ble_eq_true rfl)) dX6_sort_2 ⟨Nat.le_of_ble_eq_true rfl, Nat.le_of_ble_eq_true rfl⟩) (fun _ h => h.trans (isNo_bad (isNo_r hb9))) ?_
  refine kb_if_ne (tgt := 15) hx hb dX6_sort_5 (by decide) (fun k_1 => ?_) (fun k_1 => absurd k_1 (by decide))
  refine lv_iconst (v := nI 1) hx hb dX6_sort_15 (by decide) ?_
  refine lv_goto (tgt := 20) hx hb dX6_sort_16 (by decide) ?_
  refine lv_iconst (v := nI 1) hx hb dX6_sort_20 (by decide) ?_
  refine km_ci (va_runV (As := [.int (nI 1), .int (nI 1)]) (rest := []) ⟨hx, hb, hml, hown, hts⟩ (m_X6_start l dC dI am M true 1 (by omega)) (cwV 2 hts gX6_sort_X6_start rfl rfl rfl hdX6_start_2 ⟨Nat.le_of_ble_eq_true rfl, Nat.le_of_ble_eq_true rfl⟩) (hX.preObj) rfl rfl hl.1 rfl (lv_room (Nat.le_of_ble_eq_true rfl)) dX6_sort_21 ⟨Nat.le_of_ble_eq_true rfl, Nat.le_of_ble_eq_true rfl⟩) hX (fun _ h => h) (fun r_ S_ H locs hw hX => ?_)
  obtain ⟨rfl, rfl⟩ := hw
  refine kb_if_ne (tgt := 40) hx hb dX6_sort_24 (by decide) (fun k_2 => ?_) (fun k_2 => absurd k_2 (by decide))
  refine lv_iconst (v := nI 0) hx hb dX6_sort_40 (by decide) ?_
  exact W.widen (k := 1) (n := 12) (by simp) (by simp) (W.iret (v := nI 0) hx hb hr (fun t9 ht9 hW9 => ⟨⟨_, (mN M (1, M.2.2.2.1, M.2.2.2.2.1, M.2.2.2.2.2)), rfl, rfl, hX.P ht9 hW9⟩, hX.2.2.2.F ht9⟩) hX.2.2.2.2.2 dX6_sort_41)
set_option maxHeartbeats 4000000 in
set_option maxRecDepth 100000 in
theorem o_X6_sort_2 (l : Launch) (dC : Nat → ClassId) (dI : Nat → Nat → Nat) (am : Nat → Nat) (M : MS) (i : Nat) (x9 : Int32) (y2 : Int32) (hi : i < 3) (hb9 : x9 < 0 ∨ nI 4 ≤ x9) (hI : InvM M) : Met l yX6_sort wsX6_sort ({ frames := 3, cells := 1, slots := 12, locals := 74 } : Room) (va_Pc [.ref (am 0), .int (nI i), .int x9, .int y2] (PM dC dI am M)) (va_Qi (fun r M' => M' = thM M 1) (PM dC dI am) (AM am)) 1 12 (AM am) := by
  refine Met.ofW (cc := cX6_sort) (maxL := 4) (ret := (some .int)) pl_X6 rfl ?_
  intro p e s m args below meth c s₁ B hml hv
  obtain ⟨rfl, hPX⟩ := hv
  have hx := B.exec
  have hb := B.bytes
  have hr := B.returns
  have hts := atoms_spec (ws := wsX6_sort) B.pre
  have hown : s.vm.findClass RX6 = some m.cls := findClass_of_methodNamed B.named
  have hlocks := B.notSynchronized
  have hin6 : ∀ w ∈ u_ws RX6 TX6 10, w ∈ wsX6_sort := tu 1331 (by decide +kernel) rfl
  have hX := WM.of hPX
  have hl := lv_entry ([.ref (am 0), .int (nI i), .int x9, .int y2]) (n := 4) (Nat.le_of_ble_eq_true rfl)
  rw [lg_entry_eq]
  generalize (lg_sl ([.ref (am 0), .int (nI i), .int x9, .int y2]) ++ List.replicate (4 - (lg_sl ([.ref (am 0), .int (nI i), .int x9, .int y2])).length) Slot.unset).toArray = ls at hl ⊢
  have hl : lv_has ls 4 [(0, .ref (am 0)), (1, .int (nI i)), (2, .int x9), (3, .int y2)] := hl
  show W p l e ({ frames := 3, cells := 1, slots := 12, locals := 74 } : Room) s m ([.ref (am 0), .int (nI i), .int x9, .int y2]).toArray below meth c s.heap [] 0 0 (MQ below (va_Qi (fun r M' => M' = thM M 1) (PM dC dI am) (AM am)) ([.ref (am 0), .int (nI i), .int x9, .int y2]).toArray s 1 12 (AM am)) (F0 m 0 ls [])
  refine lv_aload_n hx hb dX6_sort_0 rfl (lv_at hl 0 rfl) ?_
  refine lv_iload_n hx hb dX6_sort_1 rfl (lv_at hl 1 rfl) ?_
  refine kx_cr (v := bI false) (va_runS (As := [.int (nI i)]) (rest := [.ref (am 0)]) ⟨hx, hb, hml, hown, hts⟩ (m_X6_isNoRow l dC dI am M (nI i)) (va_cwS 1 hts gX6_sort_X6_isNoRow rfl rfl rfl hdX6_isNoRow_1.2 ⟨Nat.le_of_ble_eq_true rfl, Nat.le_of_ble_eq_true rfl⟩) hX.preS rfl rfl hl.1 rfl (lv_room (Nat.le_of_ble_eq_true rfl)) dX6_sort_2 ⟨Nat.le_of_ble_eq_true rfl, Nat.le_of_ble_eq_true rfl⟩) (fun _ h => h.trans (isNo_ok (by omega) (by omega))) ?_
  refine kb_if_ne (tgt := 15) hx hb dX6_sort_5 (by decide) (fun k_1 => absurd k_1 (by decide)) (fun k_1 => ?_)
  refine lv_iload_n hx hb dX6_sort_8 rfl (lv_at hl 2 rfl) ?_
  refine kx_cr (v := bI true) (va_runS (As := [.int x9]) (rest := [.ref (am 0)]) ⟨hx, hb, hml, hown, hts⟩ (m_X6_isNoOrder l dC dI am M x9) (va_cwS 1 hts gX6_sort_X6_isNoOrder rfl rfl rfl hdX6_isNoOrder_1.2 ⟨Nat.le_of_ble_eq_true rfl, Nat.le_of_ble_eq_true rfl⟩) hX.preS rfl rfl hl.1 rfl (lv_room (Nat.le_of_ble_eq_true rfl)) dX6_sort_9 ⟨Nat.le_of_ble_eq_true rfl, Nat.le_of_ble_eq_true rfl⟩) (fun _ h => h.trans (isNo_bad (isNo_o hb9))) ?_
  refine kb_if_eq (tgt := 19) hx hb dX6_sort_12 (by decide) (fun k_2 => absurd k_2 (by decide)) (fun k_2 => ?_)
  refine lv_iconst (v := nI 1) hx hb dX6_sort_15 (by decide) ?_
  refine lv_goto (tgt := 20) hx hb dX6_sort_16 (by decide) ?_
  refine lv_iconst (v := nI 1) hx hb dX6_sort_20 (by decide) ?_
  refine km_ci (va_runV (As := [.int (nI 1), .int (nI 1)]) (rest := []) ⟨hx, hb, hml, hown, hts⟩ (m_X6_start l dC dI am M true 1 (by omega)) (cwV 2 hts gX6_sort_X6_start rfl rfl rfl hdX6_start_2 ⟨Nat.le_of_ble_eq_true rfl, Nat.le_of_ble_eq_true rfl⟩) (hX.preObj) rfl rfl hl.1 rfl (lv_room (Nat.le_of_ble_eq_true rfl)) dX6_sort_21 ⟨Nat.le_of_ble_eq_true rfl, Nat.le_of_ble_eq_true rfl⟩) hX (fun _ h => h) (fun r_ S_ H locs hw hX => ?_)
  obtain ⟨rfl, rfl⟩ := hw
  refine kb_if_ne (tgt := 40) hx hb dX6_sort_24 (by decide) (fun k_3 => ?_) (fun k_3 => absurd k_3 (by decide))
  refine lv_iconst (v := nI 0) hx hb dX6_sort_40 (by decide) ?_
  exact W.widen (k := 1) (n := 12) (by simp) (by simp) (W.iret (v := nI 0) hx hb hr (fun t9 ht9 hW9 => ⟨⟨_, (mN M (1, M.2.2.2.1, M.2.2.2.2.1, M.2.2.2.2.2)), rfl, rfl, hX.P ht9 hW9⟩, hX.2.2.2.F ht9⟩) hX.2.2.2.2.2 dX6_sort_41)
set_option maxHeartbeats 4000000 in
set_option maxRecDepth 100000 in
theorem o_X6_sort_3 (l : Launch) (dC : Nat → ClassId) (dI : Nat → Nat → Nat) (am : Nat → Nat) (M : MS) (i : Nat) (j : Nat) (x9 : Int32) (hi : i < 3) (hj : j < 4) (hb9 : x9 < 0 ∨ nI 2 < x9) (hI : InvM M) : Met l yX6_sort wsX6_sort ({ frames := 3, cells := 1, slots := 12, locals := 74 } : Room) (va_Pc [.ref (am 0), .int (nI i), .int (nI j), .int x9] (PM dC dI am M)) (va_Qi (fun r M' => M' = thM M 2) (PM dC dI am) (AM am)) 1 12 (AM am) := by
  refine Met.ofW (cc := cX6_sort) (maxL := 4) (ret := (some .int)) pl_X6 rfl ?_
  intro p e s m args below meth c s₁ B hml hv
  obtain ⟨rfl, hPX⟩ := hv
  have hx := B.exec
  have hb := B.bytes
  have hr := B.returns
  have hts := atoms_spec (ws := wsX6_sort) B.pre
  have hown : s.vm.findClass RX6 = some m.cls := findClass_of_methodNamed B.named
  have hlocks := B.notSynchronized
  have hin6 : ∀ w ∈ u_ws RX6 TX6 10, w ∈ wsX6_sort := tu 1331 (by decide +kernel) rfl
  have hX := WM.of hPX
  have hl := lv_entry ([.ref (am 0), .int (nI i), .int (nI j), .int x9]) (n := 4) (Nat.le_of_ble_eq_true rfl)
  rw [lg_entry_eq]
  generalize (lg_sl ([.ref (am 0), .int (nI i), .int (nI j), .int x9]) ++ List.replicate (4 - (lg_sl ([.ref (am 0), .int (nI i), .int (nI j), .int x9])).length) Slot.unset).toArray = ls at hl ⊢
  have hl : lv_has ls 4 [(0, .ref (am 0)), (1, .int (nI i)), (2, .int (nI j)), (3, .int x9)] := hl
  show W p l e ({ frames := 3, cells := 1, slots := 12, locals := 74 } : Room) s m ([.ref (am 0), .int (nI i), .int (nI j), .int x9]).toArray below meth c s.heap [] 0 0 (MQ below (va_Qi (fun r M' => M' = thM M 2) (PM dC dI am) (AM am)) ([.ref (am 0), .int (nI i), .int (nI j), .int x9]).toArray s 1 12 (AM am)) (F0 m 0 ls [])
  refine lv_aload_n hx hb dX6_sort_0 rfl (lv_at hl 0 rfl) ?_
  refine lv_iload_n hx hb dX6_sort_1 rfl (lv_at hl 1 rfl) ?_
  refine kx_cr (v := bI false) (va_runS (As := [.int (nI i)]) (rest := [.ref (am 0)]) ⟨hx, hb, hml, hown, hts⟩ (m_X6_isNoRow l dC dI am M (nI i)) (va_cwS 1 hts gX6_sort_X6_isNoRow rfl rfl rfl hdX6_isNoRow_1.2 ⟨Nat.le_of_ble_eq_true rfl, Nat.le_of_ble_eq_true rfl⟩) hX.preS rfl rfl hl.1 rfl (lv_room (Nat.le_of_ble_eq_true rfl)) dX6_sort_2 ⟨Nat.le_of_ble_eq_true rfl, Nat.le_of_ble_eq_true rfl⟩) (fun _ h => h.trans (isNo_ok (by omega) (by omega))) ?_
  refine kb_if_ne (tgt := 15) hx hb dX6_sort_5 (by decide) (fun k_1 => absurd k_1 (by decide)) (fun k_1 => ?_)
  refine lv_iload_n hx hb dX6_sort_8 rfl (lv_at hl 2 rfl) ?_
  refine kx_cr (v := bI false) (va_runS (As := [.int (nI j)]) (rest := [.ref (am 0)]) ⟨hx, hb, hml, hown, hts⟩ (m_X6_isNoOrder l dC dI am M (nI j)) (va_cwS 1 hts gX6_sort_X6_isNoOrder rfl rfl rfl hdX6_isNoOrder_1.2 ⟨Nat.le_of_ble_eq_true rfl, Nat.le_of_ble_eq_true rfl⟩) hX.preS rfl rfl hl.1 rfl (lv_room (Nat.le_of_ble_eq_true rfl)) dX6_sort_9 ⟨Nat.le_of_ble_eq_true rfl, Nat.le_of_ble_eq_true rfl⟩) (fun _ h => h.trans (isNo_ok (by omega) (by omega))) ?_
  refine kb_if_eq (tgt := 19) hx hb dX6_sort_12 (by decide) (fun k_2 => ?_) (fun k_2 => absurd k_2 (by decide))
  refine lv_iconst (v := nI 0) hx hb dX6_sort_19 (by decide) ?_
  refine lv_iconst (v := nI 1) hx hb dX6_sort_20 (by decide) ?_
  refine km_ci (va_runV (As := [.int (nI 0), .int (nI 1)]) (rest := []) ⟨hx, hb, hml, hown, hts⟩ (m_X6_start l dC dI am M false 1 (by omega)) (cwV 2 hts gX6_sort_X6_start rfl rfl rfl hdX6_start_2 ⟨Nat.le_of_ble_eq_true rfl, Nat.le_of_ble_eq_true rfl⟩) (hX.preObj) rfl rfl hl.1 rfl (lv_room (Nat.le_of_ble_eq_true rfl)) dX6_sort_21 ⟨Nat.le_of_ble_eq_true rfl, Nat.le_of_ble_eq_true rfl⟩) hX (fun _ h => h) (fun r_ S_ H locs hw hX => ?_)
  obtain ⟨rfl, rfl⟩ := hw
  refine kb_if_ne (tgt := 40) hx hb dX6_sort_24 (by decide) (fun k_3 => absurd k_3 (by decide)) (fun k_3 => ?_)
  refine lv_aload_n hx hb dX6_sort_27 rfl (lv_at hl 0 rfl) ?_
  refine lv_iload_n hx hb dX6_sort_28 rfl (lv_at hl 3 rfl) ?_
  refine lv_iconst (v := nI 2) hx hb dX6_sort_29 (by decide) ?_
  refine kx_cr (v := bI true) (va_runS (As := [.int x9, .int (nI 2)]) (rest := [.ref (am 0)]) ⟨hx, hb, hml, hown, hts⟩ (m_X6_isNo l dC dI am (mN M (0, M.2.2.2.1, M.2.2.2.2.1, M.2.2.2.2.2)) x9 (nI 2)) (va_cwS 2 hts gX6_sort_X6_isNo rfl rfl rfl hdX6_isNo_2.2 ⟨Nat.le_of_ble_eq_true rfl, Nat.le_of_ble_eq_true rfl⟩) hX.preS rfl rfl hl.1 rfl (lv_room (Nat.le_of_ble_eq_true rfl)) dX6_sort_30 ⟨Nat.le_of_ble_eq_true rfl, Nat.le_of_ble_eq_true rfl⟩) (fun _ h => h.trans (isNo_bad hb9)) ?_
  refine lv_iconst (v := nI 2) hx hb dX6_sort_33 (by decide) ?_
  refine km_ci (va_runV (As := [.int (bI true), .int (nI 2)]) (rest := []) ⟨hx, hb, hml, hown, hts⟩ (m_X6_refuse l dC dI am (mN M (0, M.2.2.2.1, M.2.2.2.2.1, M.2.2.2.2.2)) true 2 (by omega) rfl) (cwV 2 hts gX6_sort_X6_refuse rfl rfl rfl hdX6_refuse_2 ⟨Nat.le_of_ble_eq_true rfl, Nat.le_of_ble_eq_true rfl⟩) (hX.preObj) rfl rfl hl.1 rfl (lv_room (Nat.le_of_ble_eq_true rfl)) dX6_sort_34 ⟨Nat.le_of_ble_eq_true rfl, Nat.le_of_ble_eq_true rfl⟩) hX (fun _ h => h) (fun r_ S_ H locs hw hX => ?_)
  obtain ⟨rfl, rfl⟩ := hw
  refine kb_if_eq (tgt := 42) hx hb dX6_sort_37 (by decide) (fun k_4 => absurd k_4 (by decide)) (fun k_4 => ?_)
  refine lv_iconst (v := nI 0) hx hb dX6_sort_40 (by decide) ?_
  exact W.widen (k := 1) (n := 12) (by simp) (by simp) (W.iret (v := nI 0) hx hb hr (fun t9 ht9 hW9 => ⟨⟨_, (mN M (2, M.2.2.2.1, M.2.2.2.2.1, M.2.2.2.2.2)), rfl, rfl, hX.P ht9 hW9⟩, hX.2.2.2.F ht9⟩) hX.2.2.2.2.2 dX6_sort_41)
set_option maxHeartbeats 4000000 in
set_option maxRecDepth 100000 in
theorem o_X6_sortPart_1 (l : Launch) (dC : Nat → ClassId) (dI : Nat → Nat → Nat) (am : Nat → Nat) (M : MS) (x9 : Int32) (y1 : Int32) (y2 : Int32) (y3 : Int32) (hb9 : x9 < 0 ∨ nI 3 ≤ x9) (hI : InvM M) : Met l yX6_sortPart wsX6_sortPart ({ frames := 3, cells := 1, slots := 12, locals := 74 } : Room) (va_Pc [.ref (am 0), .int x9, .int y1, .int y2, .int y3] (PM dC dI am M)) (va_Qi (fun r M' => M' = thM M 1) (PM dC dI am) (AM am)) 1 12 (AM am) := by
  refine Met.ofW (cc := cX6_sortPart) (maxL := 5) (ret := (some .int)) pl_X6 rfl ?_
  intro p e s m args below meth c s₁ B hml hv
  obtain ⟨rfl, hPX⟩ := hv
  have hx := B.exec
  have hb := B.bytes
  have hr := B.returns
  have hts := atoms_spec (ws := wsX6_sortPart) B.pre
  have hown : s.vm.findClass RX6 = some m.cls := findClass_of_methodNamed B.named
  have hlocks := B.notSynchronized
  have hin6 : ∀ w ∈ u_ws RX6 TX6 10, w ∈ wsX6_sortPart := tu 1331 (by decide +kernel) rfl
  have hX := WM.of hPX
  have hl := lv_entry ([.ref (am 0), .int x9, .int y1, .int y2, .int y3]) (n := 5) (Nat.le_of_ble_eq_true rfl)
  rw [lg_entry_eq]
  generalize (lg_sl ([.ref (am 0), .int x9, .int y1, .int y2, .int y3]) ++ List.replicate (5 - (lg_sl ([.ref (am 0), .int x9, .int y1, .int y2, .int y3])).length) Slot.unset).toArray = ls at hl ⊢
  have hl : lv_has ls 5 [(0, .ref (am 0)), (1, .int x9), (2, .int y1), (3, .int y2), (4, .int y3)] := hl
  show W p l e ({ frames := 3, cells := 1, slots := 12, locals := 74 } : Room) s m ([.ref (am 0), .int x9, .int y1, .int y2, .int y3]).toArray below meth c s.heap [] 0 0 (MQ below (va_Qi (fun r M' => M' = thM M 1) (PM dC dI am) (AM am)) ([.ref (am 0), .int x9, .int y1, .int y2, .int y3]).toArray s 1 12 (AM am)) (F0 m 0 ls [])
  refine lv_aload_n hx hb dX6_sortPart_0 rfl (lv_at hl 0 rfl) ?_
  refine lv_iload_n hx hb dX6_sortPart_1 rfl (lv_at hl 1 rfl) ?_
  refine kx_cr (v := bI true) (va_runS (As := [.int x9]) (rest := [.ref (am 0)]) ⟨hx, hb, hml, hown, hts⟩ (m_X6_isNoRow l dC dI am M x9) (va_cwS 1 hts gX6_sortPart_X6_isNoRow rfl rfl rfl hdX6_isNoRow_1.2 ⟨Nat.le_of_ble_eq_true rfl, Nat.le_of_ble_eq_true rfl⟩) hX.preS rfl rfl hl.1 rfl (lv_room (Nat.le_of_ble_eq_true rfl)) dX6_sortPart_2 ⟨Nat.le_of_ble_eq_true rfl, Nat.le_of_ble_eq_true rfl⟩) (fun _ h => h.trans (isNo_bad (isNo_r hb9))) ?_
  refine kb_if_ne (tgt := 15) hx hb dX6_sortPart_5 (by decide) (fun k_1 => ?_) (fun k_1 => absurd k_1 (by decide))
  refine lv_iconst (v := nI 1) hx hb dX6_sortPart_15 (by decide) ?_
  refine lv_goto (tgt := 20) hx hb dX6_sortPart_16 (by decide) ?_
  refine lv_iconst (v := nI 1) hx hb dX6_sortPart_20 (by decide) ?_
  refine km_ci (va_runV (As := [.int (nI 1), .int (nI 1)]) (rest := []) ⟨hx, hb, hml, hown, hts⟩ (m_X6_start l dC dI am M true 1 (by omega)) (cwV 2 hts gX6_sortPart_X6_start rfl rfl rfl hdX6_start_2 ⟨Nat.le_of_ble_eq_true rfl, Nat.le_of_ble_eq_true rfl⟩) (hX.preObj) rfl rfl hl.1 rfl (lv_room (Nat.le_of_ble_eq_true rfl)) dX6_sortPart_21 ⟨Nat.le_of_ble_eq_true rfl, Nat.le_of_ble_eq_true rfl⟩) hX (fun _ h => h) (fun r_ S_ H locs hw hX => ?_)
  obtain ⟨rfl, rfl⟩ := hw
  refine kb_if_ne (tgt := 86) hx hb dX6_sortPart_24 (by decide) (fun k_2 => ?_) (fun k_2 => absurd k_2 (by decide))
  refine lv_iconst (v := nI 0) hx hb dX6_sortPart_86 (by decide) ?_
  exact W.widen (k := 1) (n := 12) (by simp) (by simp) (W.iret (v := nI 0) hx hb hr (fun t9 ht9 hW9 => ⟨⟨_, (mN M (1, M.2.2.2.1, M.2.2.2.2.1, M.2.2.2.2.2)), rfl, rfl, hX.P ht9 hW9⟩, hX.2.2.2.F ht9⟩) hX.2.2.2.2.2 dX6_sortPart_87)
set_option maxHeartbeats 4000000 in
set_option maxRecDepth 100000 in
theorem o_X6_sortPart_2 (l : Launch) (dC : Nat → ClassId) (dI : Nat → Nat → Nat) (am : Nat → Nat) (M : MS) (i : Nat) (x9 : Int32) (y2 : Int32) (y3 : Int32) (hi : i < 3) (hb9 : x9 < 0 ∨ nI 4 ≤ x9) (hI : InvM M) : Met l yX6_sortPart wsX6_sortPart ({ frames := 3, cells := 1, slots := 12, locals := 74 } : Room) (va_Pc [.ref (am 0), .int (nI i), .int x9, .int y2, .int y3] (PM dC dI am M)) (va_Qi (fun r M' => M' = thM M 1) (PM dC dI am) (AM am)) 1 12 (AM am) := by
  refine Met.ofW (cc := cX6_sortPart) (maxL := 5) (ret := (some .int)) pl_X6 rfl ?_
  intro p e s m args below meth c s₁ B hml hv
  obtain ⟨rfl, hPX⟩ := hv
  have hx := B.exec
  have hb := B.bytes
  have hr := B.returns
  have hts := atoms_spec (ws := wsX6_sortPart) B.pre
  have hown : s.vm.findClass RX6 = some m.cls := findClass_of_methodNamed B.named
  have hlocks := B.notSynchronized
  have hin6 : ∀ w ∈ u_ws RX6 TX6 10, w ∈ wsX6_sortPart := tu 1331 (by decide +kernel) rfl
  have hX := WM.of hPX
  have hl := lv_entry ([.ref (am 0), .int (nI i), .int x9, .int y2, .int y3]) (n := 5) (Nat.le_of_ble_eq_true rfl)
  rw [lg_entry_eq]
  generalize (lg_sl ([.ref (am 0), .int (nI i), .int x9, .int y2, .int y3]) ++ List.replicate (5 - (lg_sl ([.ref (am 0), .int (nI i), .int x9, .int y2, .int y3])).length) Slot.unset).toArray = ls at hl ⊢
  have hl : lv_has ls 5 [(0, .ref (am 0)), (1, .int (nI i)), (2, .int x9), (3, .int y2), (4, .int y3)] := hl
  show W p l e ({ frames := 3, cells := 1, slots := 12, locals := 74 } : Room) s m ([.ref (am 0), .int (nI i), .int x9, .int y2, .int y3]).toArray below meth c s.heap [] 0 0 (MQ below (va_Qi (fun r M' => M' = thM M 1) (PM dC dI am) (AM am)) ([.ref (am 0), .int (nI i), .int x9, .int y2, .int y3]).toArray s 1 12 (AM am)) (F0 m 0 ls [])
  refine lv_aload_n hx hb dX6_sortPart_0 rfl (lv_at hl 0 rfl) ?_
  refine lv_iload_n hx hb dX6_sortPart_1 rfl (lv_at hl 1 rfl) ?_
  refine kx_cr (v := bI false) (va_runS (As := [.int (nI i)]) (rest := [.ref (am 0)]) ⟨hx, hb, hml, hown, hts⟩ (m_X6_isNoRow l dC dI am M (nI i)) (va_cwS 1 hts gX6_sortPart_X6_isNoRow rfl rfl rfl hdX6_isNoRow_1.2 ⟨Nat.le_of_ble_eq_true rfl, Nat.le_of_ble_eq_true rfl⟩) hX.preS rfl rfl hl.1 rfl (lv_room (Nat.le_of_ble_eq_true rfl)) dX6_sortPart_2 ⟨Nat.le_of_ble_eq_true rfl, Nat.le_of_ble_eq_true rfl⟩) (fun _ h => h.trans (isNo_ok (by omega) (by omega))) ?_
  refine kb_if_ne (tgt := 15) hx hb dX6_sortPart_5 (by decide) (fun k_1 => absurd k_1 (by decide)) (fun k_1 => ?_)
  refine lv_iload_n hx hb dX6_sortPart_8 rfl (lv_at hl 2 rfl) ?_
  refine kx_cr (v := bI true) (va_runS (As := [.int x9]) (rest := [.ref (am 0)]) ⟨hx, hb, hml, hown, hts⟩ (m_X6_isNoOrder l dC dI am M x9) (va_cwS 1 hts gX6_sortPart_X6_isNoOrder rfl rfl rfl hdX6_isNoOrder_1.2 ⟨Nat.le_of_ble_eq_true rfl, Nat.le_of_ble_eq_true rfl⟩) hX.preS rfl rfl hl.1 rfl (lv_room (Nat.le_of_ble_eq_true rfl)) dX6_sortPart_9 ⟨Nat.le_of_ble_eq_true rfl, Nat.le_of_ble_eq_true rfl⟩) (fun _ h => h.trans (isNo_bad (isNo_o hb9))) ?_
  refine kb_if_eq (tgt := 19) hx hb dX6_sortPart_12 (by decide) (fun k_2 => absurd k_2 (by decide)) (fun k_2 => ?_)
  refine lv_iconst (v := nI 1) hx hb dX6_sortPart_15 (by decide) ?_
  refine lv_goto (tgt := 20) hx hb dX6_sortPart_16 (by decide) ?_
  refine lv_iconst (v := nI 1) hx hb dX6_sortPart_20 (by decide) ?_
  refine km_ci (va_runV (As := [.int (nI 1), .int (nI 1)]) (rest := []) ⟨hx, hb, hml, hown, hts⟩ (m_X6_start l dC dI am M true 1 (by omega)) (cwV 2 hts gX6_sortPart_X6_start rfl rfl rfl hdX6_start_2 ⟨Nat.le_of_ble_eq_true rfl, Nat.le_of_ble_eq_true rfl⟩) (hX.preObj) rfl rfl hl.1 rfl (lv_room (Nat.le_of_ble_eq_true rfl)) dX6_sortPart_21 ⟨Nat.le_of_ble_eq_true rfl, Nat.le_of_ble_eq_true rfl⟩) hX (fun _ h => h) (fun r_ S_ H locs hw hX => ?_)
  obtain ⟨rfl, rfl⟩ := hw
  refine kb_if_ne (tgt := 86) hx hb dX6_sortPart_24 (by decide) (fun k_3 => ?_) (fun k_3 => absurd k_3 (by decide))
  refine lv_iconst (v := nI 0) hx hb dX6_sortPart_86 (by decide) ?_
  exact W.widen (k := 1) (n := 12) (by simp) (by simp) (W.iret (v := nI 0) hx hb hr (fun t9 ht9 hW9 => ⟨⟨_, (mN M (1, M.2.2.2.1, M.2.2.2.2.1, M.2.2.2.2.2)), rfl, rfl, hX.P ht9 hW9⟩, hX.2.2.2.F ht9⟩) hX.2.2.2.2.2 dX6_sortPart_87)
set_option maxHeartbeats 4000000 in
set_option maxRecDepth 100000 in
theorem o_X6_sortPart_3 (l : Launch) (dC : Nat → ClassId) (dI : Nat → Nat → Nat) (am : Nat → Nat) (M : MS) (i : Nat) (j : Nat) (x9 : Int32) (y3 : Int32) (hi : i < 3) (hj : j < 4) (hb9 : x9 < 0 ∨ nI (M.1 i).2.2 < x9) (hI : InvM M) : Met l yX6_sortPart wsX6_sortPart ({ frames := 3, cells := 1, slots := 12, locals := 74 } : Room) (va_Pc [.ref (am 0), .int (nI i), .int (nI j), .int x9, .int y3] (PM dC dI am M)) (va_Qi (fun r M' => M' = thM M 1) (PM dC dI am) (AM am)) 1 12 (AM am) := by
  refine Met.ofW (cc := cX6_sortPart) (maxL := 5) (ret := (some .int)) pl_X6 rfl ?_
  intro p e s m args below meth c s₁ B hml hv
  obtain ⟨rfl, hPX⟩ := hv
  have hx := B.exec
  have hb := B.bytes
  have hr := B.returns
  have hts := atoms_spec (ws := wsX6_sortPart) B.pre
  have hown : s.vm.findClass RX6 = some m.cls := findClass_of_methodNamed B.named
  have hlocks := B.notSynchronized
  have hin6 : ∀ w ∈ u_ws RX6 TX6 10, w ∈ wsX6_sortPart := tu 1331 (by decide +kernel) rfl
  have hX := WM.of hPX
  have hl := lv_entry ([.ref (am 0), .int (nI i), .int (nI j), .int x9, .int y3]) (n := 5) (Nat.le_of_ble_eq_true rfl)
  rw [lg_entry_eq]
  generalize (lg_sl ([.ref (am 0), .int (nI i), .int (nI j), .int x9, .int y3]) ++ List.replicate (5 - (lg_sl ([.ref (am 0), .int (nI i), .int (nI j), .int x9, .int y3])).length) Slot.unset).toArray = ls at hl ⊢
  have hl : lv_has ls 5 [(0, .ref (am 0)), (1, .int (nI i)), (2, .int (nI j)), (3, .int x9), (4, .int y3)] := hl
  show W p l e ({ frames := 3, cells := 1, slots := 12, locals := 74 } : Room) s m ([.ref (am 0), .int (nI i), .int (nI j), .int x9, .int y3]).toArray below meth c s.heap [] 0 0 (MQ below (va_Qi (fun r M' => M' = thM M 1) (PM dC dI am) (AM am)) ([.ref (am 0), .int (nI i), .int (nI j), .int x9, .int y3]).toArray s 1 12 (AM am)) (F0 m 0 ls [])
  have hn := (hI.1 i (by omega)).1
  refine lv_aload_n hx hb dX6_sortPart_0 rfl (lv_at hl 0 rfl) ?_
  refine lv_iload_n hx hb dX6_sortPart_1 rfl (lv_at hl 1 rfl) ?_
  refine kx_cr (v := bI false) (va_runS (As := [.int (nI i)]) (rest := [.ref (am 0)]) ⟨hx, hb, hml, hown, hts⟩ (m_X6_isNoRow l dC dI am M (nI i)) (va_cwS 1 hts gX6_sortPart_X6_isNoRow rfl rfl rfl hdX6_isNoRow_1.2 ⟨Nat.le_of_ble_eq_true rfl, Nat.le_of_ble_eq_true rfl⟩) hX.preS rfl rfl hl.1 rfl (lv_room (Nat.le_of_ble_eq_true rfl)) dX6_sortPart_2 ⟨Nat.le_of_ble_eq_true rfl, Nat.le_of_ble_eq_true rfl⟩) (fun _ h => h.trans (isNo_ok (by omega) (by omega))) ?_
  refine kb_if_ne (tgt := 15) hx hb dX6_sortPart_5 (by decide) (fun k_1 => absurd k_1 (by decide)) (fun k_1 => ?_)
  refine lv_iload_n hx hb dX6_sortPart_8 rfl (lv_at hl 2 rfl) ?_
  refine kx_cr (v := bI false) (va_runS (As := [.int (nI j)]) (rest := [.ref (am 0)]) ⟨hx, hb, hml, hown, hts⟩ (m_X6_isNoOrder l dC dI am M (nI j)) (va_cwS 1 hts gX6_sortPart_X6_isNoOrder rfl rfl rfl hdX6_isNoOrder_1.2 ⟨Nat.le_of_ble_eq_true rfl, Nat.le_of_ble_eq_true rfl⟩) hX.preS rfl rfl hl.1 rfl (lv_room (Nat.le_of_ble_eq_true rfl)) dX6_sortPart_9 ⟨Nat.le_of_ble_eq_true rfl, Nat.le_of_ble_eq_true rfl⟩) (fun _ h => h.trans (isNo_ok (by omega) (by omega))) ?_
  refine kb_if_eq (tgt := 19) hx hb dX6_sortPart_12 (by decide) (fun k_2 => ?_) (fun k_2 => absurd k_2 (by decide))
  refine lv_iconst (v := nI 0) hx hb dX6_sortPart_19 (by decide) ?_
  refine lv_iconst (v := nI 1) hx hb dX6_sortPart_20 (by decide) ?_
  refine km_ci (va_runV (As := [.int (nI 0), .int (nI 1)]) (rest := []) ⟨hx, hb, hml, hown, hts⟩ (m_X6_start l dC dI am M false 1 (by omega)) (cwV 2 hts gX6_sortPart_X6_start rfl rfl rfl hdX6_start_2 ⟨Nat.le_of_ble_eq_true rfl, Nat.le_of_ble_eq_true rfl⟩) (hX.preObj) rfl rfl hl.1 rfl (lv_room (Nat.le_of_ble_eq_true rfl)) dX6_sortPart_21 ⟨Nat.le_of_ble_eq_true rfl, Nat.le_of_ble_eq_true rfl⟩) hX (fun _ h => h) (fun r_ S_ H locs hw hX => ?_)
  obtain ⟨rfl, rfl⟩ := hw
  refine kb_if_ne (tgt := 86) hx hb dX6_sortPart_24 (by decide) (fun k_3 => absurd k_3 (by decide)) (fun k_3 => ?_)
  refine lv_aload_n hx hb dX6_sortPart_27 rfl (lv_at hl 0 rfl) ?_
  refine lv_iload_n hx hb dX6_sortPart_28 rfl (lv_at hl 3 rfl) ?_
  refine lv_aload_n hx hb dX6_sortPart_29 rfl (lv_at hl 0 rfl) ?_
  refine km_gsizes hx hb hts hin6 hown hX (hts (.fieldLink RX6 17 "OrderlatticeModel" "sizes" "[I") (tm 681 (by decide +kernel) rfl)) dX6_sortPart_30 ?_
  refine lv_iload_n hx hb dX6_sortPart_33 rfl (lv_at hl 1 rfl) ?_
  refine km_lz (v := (M.1 i).2.2) hx hb hX (by omega) rfl dX6_sortPart_34 ?_
  refine kx_cr (v := bI true) (va_runS (As := [.int x9, .int (nI ((M.1 i).2.2))]) (rest := [.ref (am 0)]) ⟨hx, hb, hml, hown, hts⟩ (m_X6_isNo l dC dI am (mN M (0, M.2.2.2.1, M.2.2.2.2.1, M.2.2.2.2.2)) x9 (nI ((M.1 i).2.2))) (va_cwS 2 hts gX6_sortPart_X6_isNo rfl rfl rfl hdX6_isNo_2.2 ⟨Nat.le_of_ble_eq_true rfl, Nat.le_of_ble_eq_true rfl⟩) hX.preS rfl rfl hl.1 rfl (lv_room (Nat.le_of_ble_eq_true rfl)) dX6_sortPart_35 ⟨Nat.le_of_ble_eq_true rfl, Nat.le_of_ble_eq_true rfl⟩) (fun _ h => h.trans (isNo_bad hb9)) ?_
  refine kb_if_ne (tgt := 55) hx hb dX6_sortPart_38 (by decide) (fun k_4 => ?_) (fun k_4 => absurd k_4 (by decide))
  refine lv_iconst (v := nI 1) hx hb dX6_sortPart_55 (by decide) ?_
  refine lv_goto (tgt := 60) hx hb dX6_sortPart_56 (by decide) ?_
  refine lv_iconst (v := nI 1) hx hb dX6_sortPart_60 (by decide) ?_
  refine km_ci (va_runV (As := [.int (nI 1), .int (nI 1)]) (rest := []) ⟨hx, hb, hml, hown, hts⟩ (m_X6_refuse l dC dI am (mN M (0, M.2.2.2.1, M.2.2.2.2.1, M.2.2.2.2.2)) true 1 (by omega) rfl) (cwV 2 hts gX6_sortPart_X6_refuse rfl rfl rfl hdX6_refuse_2 ⟨Nat.le_of_ble_eq_true rfl, Nat.le_of_ble_eq_true rfl⟩) (hX.preObj) rfl rfl hl.1 rfl (lv_room (Nat.le_of_ble_eq_true rfl)) dX6_sortPart_61 ⟨Nat.le_of_ble_eq_true rfl, Nat.le_of_ble_eq_true rfl⟩) hX (fun _ h => h) (fun r_ S_ H locs hw hX => ?_)
  obtain ⟨rfl, rfl⟩ := hw
  refine kb_if_ne (tgt := 86) hx hb dX6_sortPart_64 (by decide) (fun k_5 => ?_) (fun k_5 => absurd k_5 (by decide))
  refine lv_iconst (v := nI 0) hx hb dX6_sortPart_86 (by decide) ?_
  exact W.widen (k := 1) (n := 12) (by simp) (by simp) (W.iret (v := nI 0) hx hb hr (fun t9 ht9 hW9 => ⟨⟨_, (mN M (1, M.2.2.2.1, M.2.2.2.2.1, M.2.2.2.2.2)), rfl, rfl, hX.P ht9 hW9⟩, hX.2.2.2.F ht9⟩) hX.2.2.2.2.2 dX6_sortPart_87)
set_option maxHeartbeats 4000000 in
set_option maxRecDepth 100000 in
theorem o_X6_sortPart_4 (l : Launch) (dC : Nat → ClassId) (dI : Nat → Nat → Nat) (am : Nat → Nat) (M : MS) (i : Nat) (j : Nat) (q : Nat) (x9 : Int32) (hi : i < 3) (hj : j < 4) (hq : q ≤ (M.1 i).2.2) (hb9 : x9 < 0 ∨ nI (M.1 i).2.2 < x9) (hI : InvM M) : Met l yX6_sortPart wsX6_sortPart ({ frames := 3, cells := 1, slots := 12, locals := 74 } : Room) (va_Pc [.ref (am 0), .int (nI i), .int (nI j), .int (nI q), .int x9] (PM dC dI am M)) (va_Qi (fun r M' => M' = thM M 1) (PM dC dI am) (AM am)) 1 12 (AM am) := by
  refine Met.ofW (cc := cX6_sortPart) (maxL := 5) (ret := (some .int)) pl_X6 rfl ?_
  intro p e s m args below meth c s₁ B hml hv
  obtain ⟨rfl, hPX⟩ := hv
  have hx := B.exec
  have hb := B.bytes
  have hr := B.returns
  have hts := atoms_spec (ws := wsX6_sortPart) B.pre
  have hown : s.vm.findClass RX6 = some m.cls := findClass_of_methodNamed B.named
  have hlocks := B.notSynchronized
  have hin6 : ∀ w ∈ u_ws RX6 TX6 10, w ∈ wsX6_sortPart := tu 1331 (by decide +kernel) rfl
  have hX := WM.of hPX
  have hl := lv_entry ([.ref (am 0), .int (nI i), .int (nI j), .int (nI q), .int x9]) (n := 5) (Nat.le_of_ble_eq_true rfl)
  rw [lg_entry_eq]
  generalize (lg_sl ([.ref (am 0), .int (nI i), .int (nI j), .int (nI q), .int x9]) ++ List.replicate (5 - (lg_sl ([.ref (am 0), .int (nI i), .int (nI j), .int (nI q), .int x9])).length) Slot.unset).toArray = ls at hl ⊢
  have hl : lv_has ls 5 [(0, .ref (am 0)), (1, .int (nI i)), (2, .int (nI j)), (3, .int (nI q)), (4, .int x9)] := hl
  show W p l e ({ frames := 3, cells := 1, slots := 12, locals := 74 } : Room) s m ([.ref (am 0), .int (nI i), .int (nI j), .int (nI q), .int x9]).toArray below meth c s.heap [] 0 0 (MQ below (va_Qi (fun r M' => M' = thM M 1) (PM dC dI am) (AM am)) ([.ref (am 0), .int (nI i), .int (nI j), .int (nI q), .int x9]).toArray s 1 12 (AM am)) (F0 m 0 ls [])
  have hn := (hI.1 i (by omega)).1
  refine lv_aload_n hx hb dX6_sortPart_0 rfl (lv_at hl 0 rfl) ?_
  refine lv_iload_n hx hb dX6_sortPart_1 rfl (lv_at hl 1 rfl) ?_
  refine kx_cr (v := bI false) (va_runS (As := [.int (nI i)]) (rest := [.ref (am 0)]) ⟨hx, hb, hml, hown, hts⟩ (m_X6_isNoRow l dC dI am M (nI i)) (va_cwS 1 hts gX6_sortPart_X6_isNoRow rfl rfl rfl hdX6_isNoRow_1.2 ⟨Nat.le_of_ble_eq_true rfl, Nat.le_of_ble_eq_true rfl⟩) hX.preS rfl rfl hl.1 rfl (lv_room (Nat.le_of_ble_eq_true rfl)) dX6_sortPart_2 ⟨Nat.le_of_ble_eq_true rfl, Nat.le_of_ble_eq_true rfl⟩) (fun _ h => h.trans (isNo_ok (by omega) (by omega))) ?_
  refine kb_if_ne (tgt := 15) hx hb dX6_sortPart_5 (by decide) (fun k_1 => absurd k_1 (by decide)) (fun k_1 => ?_)
  refine lv_iload_n hx hb dX6_sortPart_8 rfl (lv_at hl 2 rfl) ?_
  refine kx_cr (v := bI false) (va_runS (As := [.int (nI j)]) (rest := [.ref (am 0)]) ⟨hx, hb, hml, hown, hts⟩ (m_X6_isNoOrder l dC dI am M (nI j)) (va_cwS 1 hts gX6_sortPart_X6_isNoOrder rfl rfl rfl hdX6_isNoOrder_1.2 ⟨Nat.le_of_ble_eq_true rfl, Nat.le_of_ble_eq_true rfl⟩) hX.preS rfl rfl hl.1 rfl (lv_room (Nat.le_of_ble_eq_true rfl)) dX6_sortPart_9 ⟨Nat.le_of_ble_eq_true rfl, Nat.le_of_ble_eq_true rfl⟩) (fun _ h => h.trans (isNo_ok (by omega) (by omega))) ?_
  refine kb_if_eq (tgt := 19) hx hb dX6_sortPart_12 (by decide) (fun k_2 => ?_) (fun k_2 => absurd k_2 (by decide))
  refine lv_iconst (v := nI 0) hx hb dX6_sortPart_19 (by decide) ?_
  refine lv_iconst (v := nI 1) hx hb dX6_sortPart_20 (by decide) ?_
  refine km_ci (va_runV (As := [.int (nI 0), .int (nI 1)]) (rest := []) ⟨hx, hb, hml, hown, hts⟩ (m_X6_start l dC dI am M false 1 (by omega)) (cwV 2 hts gX6_sortPart_X6_start rfl rfl rfl hdX6_start_2 ⟨Nat.le_of_ble_eq_true rfl, Nat.le_of_ble_eq_true rfl⟩) (hX.preObj) rfl rfl hl.1 rfl (lv_room (Nat.le_of_ble_eq_true rfl)) dX6_sortPart_21 ⟨Nat.le_of_ble_eq_true rfl, Nat.le_of_ble_eq_true rfl⟩) hX (fun _ h => h) (fun r_ S_ H locs hw hX => ?_)
  obtain ⟨rfl, rfl⟩ := hw
  refine kb_if_ne (tgt := 86) hx hb dX6_sortPart_24 (by decide) (fun k_3 => absurd k_3 (by decide)) (fun k_3 => ?_)
  refine lv_aload_n hx hb dX6_sortPart_27 rfl (lv_at hl 0 rfl) ?_
  refine lv_iload_n hx hb dX6_sortPart_28 rfl (lv_at hl 3 rfl) ?_
  refine lv_aload_n hx hb dX6_sortPart_29 rfl (lv_at hl 0 rfl) ?_
  refine km_gsizes hx hb hts hin6 hown hX (hts (.fieldLink RX6 17 "OrderlatticeModel" "sizes" "[I") (tm 681 (by decide +kernel) rfl)) dX6_sortPart_30 ?_
  refine lv_iload_n hx hb dX6_sortPart_33 rfl (lv_at hl 1 rfl) ?_
  refine km_lz (v := (M.1 i).2.2) hx hb hX (by omega) rfl dX6_sortPart_34 ?_
  refine kx_cr (v := bI false) (va_runS (As := [.int (nI q), .int (nI ((M.1 i).2.2))]) (rest := [.ref (am 0)]) ⟨hx, hb, hml, hown, hts⟩ (m_X6_isNo l dC dI am (mN M (0, M.2.2.2.1, M.2.2.2.2.1, M.2.2.2.2.2)) (nI q) (nI ((M.1 i).2.2))) (va_cwS 2 hts gX6_sortPart_X6_isNo rfl rfl rfl hdX6_isNo_2.2 ⟨Nat.le_of_ble_eq_true rfl, Nat.le_of_ble_eq_true rfl⟩) hX.preS rfl rfl hl.1 rfl (lv_room (Nat.le_of_ble_eq_true rfl)) dX6_sortPart_35 ⟨Nat.le_of_ble_eq_true rfl, Nat.le_of_ble_eq_true rfl⟩) (fun _ h => h.trans (isNo_ok (by omega) (by omega))) ?_
  refine kb_if_ne (tgt := 55) hx hb dX6_sortPart_38 (by decide) (fun k_4 => absurd k_4 (by decide)) (fun k_4 => ?_)
  refine lv_iload hx hb dX6_sortPart_41 (lv_at hl 4 rfl) ?_
  refine lv_aload_n hx hb dX6_sortPart_43 rfl (lv_at hl 0 rfl) ?_
  refine km_gsizes hx hb hts hin6 hown hX (hts (.fieldLink RX6 17 "OrderlatticeModel" "sizes" "[I") (tm 681 (by decide +kernel) rfl)) dX6_sortPart_44 ?_
  refine lv_iload_n hx hb dX6_sortPart_47 rfl (lv_at hl 1 rfl) ?_
  refine km_lz (v := (M.1 i).2.2) hx hb hX (by omega) rfl dX6_sortPart_48 ?_
  refine kx_cr (v := bI true) (va_runS (As := [.int x9, .int (nI ((M.1 i).2.2))]) (rest := [.ref (am 0)]) ⟨hx, hb, hml, hown, hts⟩ (m_X6_isNo l dC dI am (mN M (0, M.2.2.2.1, M.2.2.2.2.1, M.2.2.2.2.2)) x9 (nI ((M.1 i).2.2))) (va_cwS 2 hts gX6_sortPart_X6_isNo rfl rfl rfl hdX6_isNo_2.2 ⟨Nat.le_of_ble_eq_true rfl, Nat.le_of_ble_eq_true rfl⟩) hX.preS rfl rfl hl.1 rfl (lv_room (Nat.le_of_ble_eq_true rfl)) dX6_sortPart_49 ⟨Nat.le_of_ble_eq_true rfl, Nat.le_of_ble_eq_true rfl⟩) (fun _ h => h.trans (isNo_bad hb9)) ?_
  refine kb_if_eq (tgt := 59) hx hb dX6_sortPart_52 (by decide) (fun k_5 => absurd k_5 (by decide)) (fun k_5 => ?_)
  refine lv_iconst (v := nI 1) hx hb dX6_sortPart_55 (by decide) ?_
  refine lv_goto (tgt := 60) hx hb dX6_sortPart_56 (by decide) ?_
  refine lv_iconst (v := nI 1) hx hb dX6_sortPart_60 (by decide) ?_
  refine km_ci (va_runV (As := [.int (nI 1), .int (nI 1)]) (rest := []) ⟨hx, hb, hml, hown, hts⟩ (m_X6_refuse l dC dI am (mN M (0, M.2.2.2.1, M.2.2.2.2.1, M.2.2.2.2.2)) true 1 (by omega) rfl) (cwV 2 hts gX6_sortPart_X6_refuse rfl rfl rfl hdX6_refuse_2 ⟨Nat.le_of_ble_eq_true rfl, Nat.le_of_ble_eq_true rfl⟩) (hX.preObj) rfl rfl hl.1 rfl (lv_room (Nat.le_of_ble_eq_true rfl)) dX6_sortPart_61 ⟨Nat.le_of_ble_eq_true rfl, Nat.le_of_ble_eq_true rfl⟩) hX (fun _ h => h) (fun r_ S_ H locs hw hX => ?_)
  obtain ⟨rfl, rfl⟩ := hw
  refine kb_if_ne (tgt := 86) hx hb dX6_sortPart_64 (by decide) (fun k_6 => ?_) (fun k_6 => absurd k_6 (by decide))
  refine lv_iconst (v := nI 0) hx hb dX6_sortPart_86 (by decide) ?_
  exact W.widen (k := 1) (n := 12) (by simp) (by simp) (W.iret (v := nI 0) hx hb hr (fun t9 ht9 hW9 => ⟨⟨_, (mN M (1, M.2.2.2.1, M.2.2.2.2.1, M.2.2.2.2.2)), rfl, rfl, hX.P ht9 hW9⟩, hX.2.2.2.F ht9⟩) hX.2.2.2.2.2 dX6_sortPart_87)
set_option maxHeartbeats 4000000 in
set_option maxRecDepth 100000 in
theorem o_X6_sortPart_5 (l : Launch) (dC : Nat → ClassId) (dI : Nat → Nat → Nat) (am : Nat → Nat) (M : MS) (i : Nat) (j : Nat) (q : Nat) (q2 : Nat) (hi : i < 3) (hj : j < 4) (hq : q ≤ (M.1 i).2.2) (hq2 : q2 ≤ (M.1 i).2.2) (hlt : q2 < q) (hI : InvM M) : Met l yX6_sortPart wsX6_sortPart ({ frames := 3, cells := 1, slots := 12, locals := 74 } : Room) (va_Pc [.ref (am 0), .int (nI i), .int (nI j), .int (nI q), .int (nI q2)] (PM dC dI am M)) (va_Qi (fun r M' => M' = thM M 2) (PM dC dI am) (AM am)) 1 12 (AM am) := by
  refine Met.ofW (cc := cX6_sortPart) (maxL := 5) (ret := (some .int)) pl_X6 rfl ?_
  intro p e s m args below meth c s₁ B hml hv
  obtain ⟨rfl, hPX⟩ := hv
  have hx := B.exec
  have hb := B.bytes
  have hr := B.returns
  have hts := atoms_spec (ws := wsX6_sortPart) B.pre
  have hown : s.vm.findClass RX6 = some m.cls := findClass_of_methodNamed B.named
  have hlocks := B.notSynchronized
  have hin6 : ∀ w ∈ u_ws RX6 TX6 10, w ∈ wsX6_sortPart := tu 1331 (by decide +kernel) rfl
  have hX := WM.of hPX
  have hl := lv_entry ([.ref (am 0), .int (nI i), .int (nI j), .int (nI q), .int (nI q2)]) (n := 5) (Nat.le_of_ble_eq_true rfl)
  rw [lg_entry_eq]
  generalize (lg_sl ([.ref (am 0), .int (nI i), .int (nI j), .int (nI q), .int (nI q2)]) ++ List.replicate (5 - (lg_sl ([.ref (am 0), .int (nI i), .int (nI j), .int (nI q), .int (nI q2)])).length) Slot.unset).toArray = ls at hl ⊢
  have hl : lv_has ls 5 [(0, .ref (am 0)), (1, .int (nI i)), (2, .int (nI j)), (3, .int (nI q)), (4, .int (nI q2))] := hl
  show W p l e ({ frames := 3, cells := 1, slots := 12, locals := 74 } : Room) s m ([.ref (am 0), .int (nI i), .int (nI j), .int (nI q), .int (nI q2)]).toArray below meth c s.heap [] 0 0 (MQ below (va_Qi (fun r M' => M' = thM M 2) (PM dC dI am) (AM am)) ([.ref (am 0), .int (nI i), .int (nI j), .int (nI q), .int (nI q2)]).toArray s 1 12 (AM am)) (F0 m 0 ls [])
  have hn := (hI.1 i (by omega)).1
  refine lv_aload_n hx hb dX6_sortPart_0 rfl (lv_at hl 0 rfl) ?_
  refine lv_iload_n hx hb dX6_sortPart_1 rfl (lv_at hl 1 rfl) ?_
  refine kx_cr (v := bI false) (va_runS (As := [.int (nI i)]) (rest := [.ref (am 0)]) ⟨hx, hb, hml, hown, hts⟩ (m_X6_isNoRow l dC dI am M (nI i)) (va_cwS 1 hts gX6_sortPart_X6_isNoRow rfl rfl rfl hdX6_isNoRow_1.2 ⟨Nat.le_of_ble_eq_true rfl, Nat.le_of_ble_eq_true rfl⟩) hX.preS rfl rfl hl.1 rfl (lv_room (Nat.le_of_ble_eq_true rfl)) dX6_sortPart_2 ⟨Nat.le_of_ble_eq_true rfl, Nat.le_of_ble_eq_true rfl⟩) (fun _ h => h.trans (isNo_ok (by omega) (by omega))) ?_
  refine kb_if_ne (tgt := 15) hx hb dX6_sortPart_5 (by decide) (fun k_1 => absurd k_1 (by decide)) (fun k_1 => ?_)
  refine lv_iload_n hx hb dX6_sortPart_8 rfl (lv_at hl 2 rfl) ?_
  refine kx_cr (v := bI false) (va_runS (As := [.int (nI j)]) (rest := [.ref (am 0)]) ⟨hx, hb, hml, hown, hts⟩ (m_X6_isNoOrder l dC dI am M (nI j)) (va_cwS 1 hts gX6_sortPart_X6_isNoOrder rfl rfl rfl hdX6_isNoOrder_1.2 ⟨Nat.le_of_ble_eq_true rfl, Nat.le_of_ble_eq_true rfl⟩) hX.preS rfl rfl hl.1 rfl (lv_room (Nat.le_of_ble_eq_true rfl)) dX6_sortPart_9 ⟨Nat.le_of_ble_eq_true rfl, Nat.le_of_ble_eq_true rfl⟩) (fun _ h => h.trans (isNo_ok (by omega) (by omega))) ?_
  refine kb_if_eq (tgt := 19) hx hb dX6_sortPart_12 (by decide) (fun k_2 => ?_) (fun k_2 => absurd k_2 (by decide))
  refine lv_iconst (v := nI 0) hx hb dX6_sortPart_19 (by decide) ?_
  refine lv_iconst (v := nI 1) hx hb dX6_sortPart_20 (by decide) ?_
  refine km_ci (va_runV (As := [.int (nI 0), .int (nI 1)]) (rest := []) ⟨hx, hb, hml, hown, hts⟩ (m_X6_start l dC dI am M false 1 (by omega)) (cwV 2 hts gX6_sortPart_X6_start rfl rfl rfl hdX6_start_2 ⟨Nat.le_of_ble_eq_true rfl, Nat.le_of_ble_eq_true rfl⟩) (hX.preObj) rfl rfl hl.1 rfl (lv_room (Nat.le_of_ble_eq_true rfl)) dX6_sortPart_21 ⟨Nat.le_of_ble_eq_true rfl, Nat.le_of_ble_eq_true rfl⟩) hX (fun _ h => h) (fun r_ S_ H locs hw hX => ?_)
  obtain ⟨rfl, rfl⟩ := hw
  refine kb_if_ne (tgt := 86) hx hb dX6_sortPart_24 (by decide) (fun k_3 => absurd k_3 (by decide)) (fun k_3 => ?_)
  refine lv_aload_n hx hb dX6_sortPart_27 rfl (lv_at hl 0 rfl) ?_
  refine lv_iload_n hx hb dX6_sortPart_28 rfl (lv_at hl 3 rfl) ?_
  refine lv_aload_n hx hb dX6_sortPart_29 rfl (lv_at hl 0 rfl) ?_
  refine km_gsizes hx hb hts hin6 hown hX (hts (.fieldLink RX6 17 "OrderlatticeModel" "sizes" "[I") (tm 681 (by decide +kernel) rfl)) dX6_sortPart_30 ?_
  refine lv_iload_n hx hb dX6_sortPart_33 rfl (lv_at hl 1 rfl) ?_
  refine km_lz (v := (M.1 i).2.2) hx hb hX (by omega) rfl dX6_sortPart_34 ?_
  refine kx_cr (v := bI false) (va_runS (As := [.int (nI q), .int (nI ((M.1 i).2.2))]) (rest := [.ref (am 0)]) ⟨hx, hb, hml, hown, hts⟩ (m_X6_isNo l dC dI am (mN M (0, M.2.2.2.1, M.2.2.2.2.1, M.2.2.2.2.2)) (nI q) (nI ((M.1 i).2.2))) (va_cwS 2 hts gX6_sortPart_X6_isNo rfl rfl rfl hdX6_isNo_2.2 ⟨Nat.le_of_ble_eq_true rfl, Nat.le_of_ble_eq_true rfl⟩) hX.preS rfl rfl hl.1 rfl (lv_room (Nat.le_of_ble_eq_true rfl)) dX6_sortPart_35 ⟨Nat.le_of_ble_eq_true rfl, Nat.le_of_ble_eq_true rfl⟩) (fun _ h => h.trans (isNo_ok (by omega) (by omega))) ?_
  refine kb_if_ne (tgt := 55) hx hb dX6_sortPart_38 (by decide) (fun k_4 => absurd k_4 (by decide)) (fun k_4 => ?_)
  refine lv_iload hx hb dX6_sortPart_41 (lv_at hl 4 rfl) ?_
  refine lv_aload_n hx hb dX6_sortPart_43 rfl (lv_at hl 0 rfl) ?_
  refine km_gsizes hx hb hts hin6 hown hX (hts (.fieldLink RX6 17 "OrderlatticeModel" "sizes" "[I") (tm 681 (by decide +kernel) rfl)) dX6_sortPart_44 ?_
  refine lv_iload_n hx hb dX6_sortPart_47 rfl (lv_at hl 1 rfl) ?_
  refine km_lz (v := (M.1 i).2.2) hx hb hX (by omega) rfl dX6_sortPart_48 ?_
  refine kx_cr (v := bI false) (va_runS (As := [.int (nI q2), .int (nI ((M.1 i).2.2))]) (rest := [.ref (am 0)]) ⟨hx, hb, hml, hown, hts⟩ (m_X6_isNo l dC dI am (mN M (0, M.2.2.2.1, M.2.2.2.2.1, M.2.2.2.2.2)) (nI q2) (nI ((M.1 i).2.2))) (va_cwS 2 hts gX6_sortPart_X6_isNo rfl rfl rfl hdX6_isNo_2.2 ⟨Nat.le_of_ble_eq_true rfl, Nat.le_of_ble_eq_true rfl⟩) hX.preS rfl rfl hl.1 rfl (lv_room (Nat.le_of_ble_eq_true rfl)) dX6_sortPart_49 ⟨Nat.le_of_ble_eq_true rfl, Nat.le_of_ble_eq_true rfl⟩) (fun _ h => h.trans (isNo_ok (by omega) (by omega))) ?_
  refine kb_if_eq (tgt := 59) hx hb dX6_sortPart_52 (by decide) (fun k_5 => ?_) (fun k_5 => absurd k_5 (by decide))
  refine lv_iconst (v := nI 0) hx hb dX6_sortPart_59 (by decide) ?_
  refine lv_iconst (v := nI 1) hx hb dX6_sortPart_60 (by decide) ?_
  refine km_ci (va_runV (As := [.int (nI 0), .int (nI 1)]) (rest := []) ⟨hx, hb, hml, hown, hts⟩ (m_X6_refuse l dC dI am (mN M (0, M.2.2.2.1, M.2.2.2.2.1, M.2.2.2.2.2)) false 1 (by omega) rfl) (cwV 2 hts gX6_sortPart_X6_refuse rfl rfl rfl hdX6_refuse_2 ⟨Nat.le_of_ble_eq_true rfl, Nat.le_of_ble_eq_true rfl⟩) (hX.preObj) rfl rfl hl.1 rfl (lv_room (Nat.le_of_ble_eq_true rfl)) dX6_sortPart_61 ⟨Nat.le_of_ble_eq_true rfl, Nat.le_of_ble_eq_true rfl⟩) hX (fun _ h => h) (fun r_ S_ H locs hw hX => ?_)
  obtain ⟨rfl, rfl⟩ := hw
  refine kb_if_ne (tgt := 86) hx hb dX6_sortPart_64 (by decide) (fun k_6 => absurd k_6 (by decide)) (fun k_6 => ?_)
  refine lv_aload_n hx hb dX6_sortPart_67 rfl (lv_at hl 0 rfl) ?_
  refine lv_iload_n hx hb dX6_sortPart_68 rfl (lv_at hl 3 rfl) ?_
  refine lv_iload hx hb dX6_sortPart_69 (lv_at hl 4 rfl) ?_
  refine kn_icmp_le (tgt := 78) hx hb (by omega) (by omega) dX6_sortPart_71 (by decide) (fun k_7 => absurd k_7 (by omega)) (fun k_7 => ?_)
  refine lv_iconst (v := nI 1) hx hb dX6_sortPart_74 (by decide) ?_
  refine lv_goto (tgt := 79) hx hb dX6_sortPart_75 (by decide) ?_
  refine lv_iconst (v := nI 2) hx hb dX6_sortPart_79 (by decide) ?_
  refine km_ci (va_runV (As := [.int (nI 1), .int (nI 2)]) (rest := []) ⟨hx, hb, hml, hown, hts⟩ (m_X6_refuse l dC dI am (mN M (0, M.2.2.2.1, M.2.2.2.2.1, M.2.2.2.2.2)) true 2 (by omega) rfl) (cwV 2 hts gX6_sortPart_X6_refuse rfl rfl rfl hdX6_refuse_2 ⟨Nat.le_of_ble_eq_true rfl, Nat.le_of_ble_eq_true rfl⟩) (hX.preObj) rfl rfl hl.1 rfl (lv_room (Nat.le_of_ble_eq_true rfl)) dX6_sortPart_80 ⟨Nat.le_of_ble_eq_true rfl, Nat.le_of_ble_eq_true rfl⟩) hX (fun _ h => h) (fun r_ S_ H locs hw hX => ?_)
  obtain ⟨rfl, rfl⟩ := hw
  refine kb_if_eq (tgt := 88) hx hb dX6_sortPart_83 (by decide) (fun k_8 => absurd k_8 (by decide)) (fun k_8 => ?_)
  refine lv_iconst (v := nI 0) hx hb dX6_sortPart_86 (by decide) ?_
  exact W.widen (k := 1) (n := 12) (by simp) (by simp) (W.iret (v := nI 0) hx hb hr (fun t9 ht9 hW9 => ⟨⟨_, (mN M (2, M.2.2.2.1, M.2.2.2.2.1, M.2.2.2.2.2)), rfl, rfl, hX.P ht9 hW9⟩, hX.2.2.2.F ht9⟩) hX.2.2.2.2.2 dX6_sortPart_87)
end
