/-! the reference: its invariant, its orders' codes -/
def rowM (r : RowS) : Prop := r.2.2 ≤ 12 ∧ ∀ k, k < 12 → r.1 k < 16 ∧ r.2.1 k < 1000000
def ordM (o : OrdM) : Prop := o.2.2 ≤ 5 ∧ ∀ k, k < 5 → o.1 k < 8
def InvM (M : MS) : Prop := (∀ i, i < 3 → rowM (M.1 i)) ∧ ∀ j, j < 4 → ordM (M.2.1 j)
abbrev cM (M : MS) (j : Nat) : Nat → Nat := codeOf (M.2.1 j).1 (M.2.1 j).2.1 (M.2.1 j).2.2
theorem isNo_ok {k g : Nat} (h : k ≤ g) (hg : g < 2 ^ 31) : bI (decide (nI k < 0 ∨ nI g < nI k)) = bI false := by
  have hk : k < 2 ^ 31 := by omega
  rw [decide_eq_false (fun q => q.elim (fun q => absurd q (nI_pos hk)) (fun q => by rw [nI_ltI hg hk] at q; omega))]
theorem isNo_bad {x g : Int32} (h : x < 0 ∨ g < x) : bI (decide (x < 0 ∨ g < x)) = bI true := by rw [decide_eq_true h]
theorem bI_inj {a b : Bool} (h : bI a = bI b) : a = b := by
  cases a <;> cases b <;> first | rfl | exact absurd h (by decide)
theorem mN_same {M : MS} (h : M.2.2.1 = 0) : M = mN M (0, M.2.2.2) := by
  obtain ⟨a, b, c, d⟩ := M
  cases h
  rfl
theorem code_ext {K : Nat → Nat} {D : Nat → Bool} {k a b : Nat} (ha : a < 16) (hb : b < 16) (h : codeOf K D k a < codeOf K D k b) : ∀ n, k ≤ n → codeOf K D n a < codeOf K D n b
  | 0, hk => by obtain rfl : k = 0 := by omega
                exact h
  | n + 1, hk => by
    by_cases e : k = n + 1
    · subst e; exact h
    · have h1 := code_ext ha hb h n (by omega)
      have h2 := digK_lt (k := K n) (d := D n) ha
      rw [codeOf, codeOf]
      omega
theorem cmpS {K : Nat → Nat} {D : Nat → Bool} {n k a b : Nat} (hk : k < n) (ha : a < 16) (hb : b < 16) (hq : codeOf K D k a = codeOf K D k b) (hne : numK (K k) a ≠ numK (K k) b) : cmpI (codeOf K D n a) (codeOf K D n b) = if decide (numK (K k) a < numK (K k) b) = D k then 1 else -1 := by
  have h1 := numK_lt (k := K k) ha
  have h2 := numK_lt (k := K k) hb
  have e : ∀ v, codeOf K D (k + 1) v = codeOf K D k v * 16 + digK (K k) (D k) v := fun v => rfl
  have hlt : (if D k then numK (K k) b < numK (K k) a else numK (K k) a < numK (K k) b) → codeOf K D n a < codeOf K D n b := fun h => code_ext ha hb (k := k + 1) (by
    rw [e, e, hq]
    unfold digK
    cases hd : D k with
    | false => rw [hd] at h; simp at h ⊢; omega
    | true => rw [hd] at h; simp at h ⊢; omega) n hk
  have hgt : (if D k then numK (K k) a < numK (K k) b else numK (K k) b < numK (K k) a) → codeOf K D n b < codeOf K D n a := fun h => code_ext hb ha (k := k + 1) (by
    rw [e, e, hq]
    unfold digK
    cases hd : D k with
    | false => rw [hd] at h; simp at h ⊢; omega
    | true => rw [hd] at h; simp at h ⊢; omega) n hk
  by_cases hc : numK (K k) a < numK (K k) b
  · rw [decide_eq_true hc]
    cases hd : D k with
    | false => rw [if_neg (by decide), cmpI_lt (hlt (by rw [hd]; exact hc))]
    | true => rw [if_pos rfl, cmpI_gt (hgt (by rw [hd]; exact hc))]
  · rw [decide_eq_false hc]
    have hc2 : numK (K k) b < numK (K k) a := by omega
    cases hd : D k with
    | false => rw [if_pos rfl, cmpI_gt (hgt (by rw [hd]; exact hc2))]
    | true => rw [if_neg (by decide), cmpI_lt (hlt (by rw [hd]; exact hc2))]
theorem cmpS_p {K : Nat → Nat} {D : Nat → Bool} {n k a b : Nat} (hk : k < n) (ha : a < 16) (hb : b < 16) (hq : codeOf K D k a = codeOf K D k b) (hne : numK (K k) a ≠ numK (K k) b) (hz : decide (numK (K k) a < numK (K k) b) = D k) : nI 1 = cmpI (codeOf K D n a) (codeOf K D n b) := by
  rw [cmpS hk ha hb hq hne, if_pos hz]
  rfl
theorem cmpS_n {K : Nat → Nat} {D : Nat → Bool} {n k a b : Nat} (hk : k < n) (ha : a < 16) (hb : b < 16) (hq : codeOf K D k a = codeOf K D k b) (hne : numK (K k) a ≠ numK (K k) b) (hz : ¬ decide (numK (K k) a < numK (K k) b) = D k) : (-1 : Int32) = cmpI (codeOf K D n a) (codeOf K D n b) := by
  rw [cmpS hk ha hb hq hne, if_neg hz]
theorem cmpS_0 {a b : Nat} (h : a = b) : nI 0 = cmpI a b := (cmpI_eq h).symm
theorem cmpI_three (a b : Nat) : (cmpI a b = -1 ∧ a ≠ b) ∨ (cmpI a b = 0 ∧ a = b) ∨ (cmpI a b = 1 ∧ a ≠ b) := by
  rcases Nat.lt_trichotomy a b with h | h | h
  · exact Or.inl ⟨cmpI_lt h, by omega⟩
  · exact Or.inr (Or.inl ⟨cmpI_eq h, h⟩)
  · exact Or.inr (Or.inr ⟨cmpI_gt h, by omega⟩)
theorem bothM_2 {a b c d : Nat} (h : ¬ 0 ≤ cmpI a b * cmpI c d) : nI 2 = bothI a b c d := by
  unfold bothI
  revert h
  rcases cmpI_three a b with ⟨e, f⟩ | ⟨e, f⟩ | ⟨e, f⟩ <;> rcases cmpI_three c d with ⟨g, i⟩ | ⟨g, i⟩ | ⟨g, i⟩ <;> rw [e, g] <;> intro h <;> first | exact absurd (by decide) h | exact (if_pos ⟨f, by decide⟩).symm
theorem bothM_x {a b c d : Nat} (h : 0 ≤ cmpI a b * cmpI c d) (h2 : a ≠ b) : cmpI a b = bothI a b c d := by
  unfold bothI
  rw [if_neg (fun z => ?_), if_pos h2]
  obtain ⟨-, z⟩ := z
  rcases cmpI_three a b with ⟨e, f⟩ | ⟨e, f⟩ | ⟨e, f⟩ <;> rcases cmpI_three c d with ⟨g, i⟩ | ⟨g, i⟩ | ⟨g, i⟩ <;> rw [e, g] at h z <;> first | exact absurd f (fun q => q h2) | exact absurd z (by decide) | exact absurd h (by decide) | exact h2 f
theorem bothM_y {a b c d : Nat} (h2 : a = b) : cmpI c d = bothI a b c d := by
  unfold bothI
  rw [if_neg (fun z => z.1 h2), if_neg (fun z => z h2)]
def apartF (c d : Nat → Nat) (a : Nat) : Nat := cntB (fun b => decide (bothI (c a) (c b) (d a) (d b) = nI 2)) a
def apartM (c d : Nat → Nat) : Nat := sumN (apartF c d) 16
set_option maxHeartbeats 4000000 in
set_option maxRecDepth 100000 in
theorem m_X6_isNo (l : Launch) (dC : Nat → ClassId) (dI : Nat → Nat → Nat) (am : Nat → Nat) (M : MS) (x g : Int32) : Met l yX6_isNo wsX6_isNo ({ frames := 0, cells := 0, slots := 0, locals := 0 } : Room) (va_Pc [.int x, .int g] (PM dC dI am M)) (vp_Si (fun r => r = bI (decide (x < 0 ∨ g < x)))) 0 0 (fun _ => False) := by
  refine Met.ofW (cc := cX6_isNo) (maxL := 2) (ret := (some .boolean)) pl_X6 rfl ?_
  intro p e s m args below meth c s₁ B hml hv
  obtain ⟨rfl, hPX⟩ := hv
  have hx := B.exec
  have hb := B.bytes
  have hr := B.returns
  have hts := atoms_spec (ws := wsX6_isNo) B.pre
  have hown : s.vm.findClass RX6 = some m.cls := findClass_of_methodNamed B.named
  have hlocks := B.notSynchronized
  have hX := WM.of hPX
  have hl := lv_entry ([.int x, .int g]) (n := 2) (Nat.le_of_ble_eq_true rfl)
  rw [lg_entry_eq]
  generalize (lg_sl ([.int x, .int g]) ++ List.replicate (2 - (lg_sl ([.int x, .int g])).length) Slot.unset).toArray = ls at hl ⊢
  have hl : lv_has ls 2 [(0, .int x), (1, .int g)] := hl
  show W p l e ({ frames := 0, cells := 0, slots := 0, locals := 0 } : Room) s m ([.int x, .int g]).toArray below meth c s.heap [] 0 0 (MQ below (vp_Si (fun r => r = bI (decide (x < 0 ∨ g < x)))) ([.int x, .int g]).toArray s 0 0 (fun _ => False)) (F0 m 0 ls [])
  refine lv_iload_n hx hb dX6_isNo_0 rfl (lv_at hl 0 rfl) ?_
  refine lv_if_lt (tgt := 9) hx hb dX6_isNo_1 (by decide) (fun k_1 => ?_) (fun k_1 => ?_)
  · skip
    have h1 := k_1
    refine lv_iconst (v := nI 1) hx hb dX6_isNo_9 (by decide) ?_
    refine lv_goto (tgt := 14) hx hb dX6_isNo_10 (by decide) ?_
    exact W.zret (v := bI true) hx hb hr (bI_narrow _) (fun t9 ht9 hW9 => ⟨_, rfl, (kd_t (Or.inl h1)), ht9⟩) (fun _ h => nomatch h) dX6_isNo_14
  · skip
    have h1 := k_1
    refine lv_iload_n hx hb dX6_isNo_4 rfl (lv_at hl 0 rfl) ?_
    refine lv_iload_n hx hb dX6_isNo_5 rfl (lv_at hl 1 rfl) ?_
    refine lv_icmp_le (tgt := 13) hx hb dX6_isNo_6 (by decide) (fun k_2 => ?_) (fun k_2 => ?_)
    · skip
      have h2 := k_2
      refine lv_iconst (v := nI 0) hx hb dX6_isNo_13 (by decide) ?_
      exact W.zret (v := bI false) hx hb hr (bI_narrow _) (fun t9 ht9 hW9 => ⟨_, rfl, (kd_f (fun z => z.elim h1 (fun z2 => by rw [Int32.lt_iff_toInt_lt] at z2; rw [Int32.le_iff_toInt_le] at h2; omega))), ht9⟩) (fun _ h => nomatch h) dX6_isNo_14
    · skip
      have h2 := k_2
      refine lv_iconst (v := nI 1) hx hb dX6_isNo_9 (by decide) ?_
      refine lv_goto (tgt := 14) hx hb dX6_isNo_10 (by decide) ?_
      exact W.zret (v := bI true) hx hb hr (bI_narrow _) (fun t9 ht9 hW9 => ⟨_, rfl, (kd_t (Or.inr (by rw [Int32.lt_iff_toInt_lt]; rw [Int32.le_iff_toInt_le] at h2; omega))), ht9⟩) (fun _ h => nomatch h) dX6_isNo_14
set_option maxHeartbeats 4000000 in
set_option maxRecDepth 100000 in
theorem m_X6_isNoRow (l : Launch) (dC : Nat → ClassId) (dI : Nat → Nat → Nat) (am : Nat → Nat) (M : MS) (x : Int32) : Met l yX6_isNoRow wsX6_isNoRow ({ frames := 1, cells := 0, slots := 0, locals := 21 } : Room) (va_Pc [.int x] (PM dC dI am M)) (vp_Si (fun r => r = bI (decide (x < 0 ∨ nI 2 < x)))) 0 0 (fun _ => False) := by
  refine Met.ofW (cc := cX6_isNoRow) (maxL := 1) (ret := (some .boolean)) pl_X6 rfl ?_
  intro p e s m args below meth c s₁ B hml hv
  obtain ⟨rfl, hPX⟩ := hv
  have hx := B.exec
  have hb := B.bytes
  have hr := B.returns
  have hts := atoms_spec (ws := wsX6_isNoRow) B.pre
  have hown : s.vm.findClass RX6 = some m.cls := findClass_of_methodNamed B.named
  have hlocks := B.notSynchronized
  have hX := WM.of hPX
  have hl := lv_entry ([.int x]) (n := 1) (Nat.le_of_ble_eq_true rfl)
  rw [lg_entry_eq]
  generalize (lg_sl ([.int x]) ++ List.replicate (1 - (lg_sl ([.int x])).length) Slot.unset).toArray = ls at hl ⊢
  have hl : lv_has ls 1 [(0, .int x)] := hl
  show W p l e ({ frames := 1, cells := 0, slots := 0, locals := 21 } : Room) s m ([.int x]).toArray below meth c s.heap [] 0 0 (MQ below (vp_Si (fun r => r = bI (decide (x < 0 ∨ nI 2 < x)))) ([.int x]).toArray s 0 0 (fun _ => False)) (F0 m 0 ls [])
  refine lv_iload_n hx hb dX6_isNoRow_0 rfl (lv_at hl 0 rfl) ?_
  refine lv_iconst (v := nI 2) hx hb dX6_isNoRow_1 (by decide) ?_
  refine kx_cr (v := bI (decide (x < 0 ∨ nI 2 < x))) (va_runS (As := [.int x, .int (nI 2)]) (rest := []) ⟨hx, hb, hml, hown, hts⟩ (m_X6_isNo l dC dI am M x (nI 2)) (va_cwS 2 hts gX6_isNoRow_X6_isNo rfl rfl rfl hdX6_isNo_2.2 ⟨Nat.le_of_ble_eq_true rfl, Nat.le_of_ble_eq_true rfl⟩) hX.preS rfl rfl hl.1 rfl (lv_room (Nat.le_of_ble_eq_true rfl)) dX6_isNoRow_2 ⟨Nat.le_of_ble_eq_true rfl, Nat.le_of_ble_eq_true rfl⟩) (fun _ h => h) ?_
  exact W.zret (v := bI (decide (x < 0 ∨ nI 2 < x))) hx hb hr (bI_narrow _) (fun t9 ht9 hW9 => ⟨_, rfl, rfl, ht9⟩) (fun _ h => nomatch h) dX6_isNoRow_5
set_option maxHeartbeats 4000000 in
set_option maxRecDepth 100000 in
theorem m_X6_isNoOrder (l : Launch) (dC : Nat → ClassId) (dI : Nat → Nat → Nat) (am : Nat → Nat) (M : MS) (x : Int32) : Met l yX6_isNoOrder wsX6_isNoOrder ({ frames := 1, cells := 0, slots := 0, locals := 21 } : Room) (va_Pc [.int x] (PM dC dI am M)) (vp_Si (fun r => r = bI (decide (x < 0 ∨ nI 3 < x)))) 0 0 (fun _ => False) := by
  refine Met.ofW (cc := cX6_isNoOrder) (maxL := 1) (ret := (some .boolean)) pl_X6 rfl ?_
  intro p e s m args below meth c s₁ B hml hv
  obtain ⟨rfl, hPX⟩ := hv
  have hx := B.exec
  have hb := B.bytes
  have hr := B.returns
  have hts := atoms_spec (ws := wsX6_isNoOrder) B.pre
  have hown : s.vm.findClass RX6 = some m.cls := findClass_of_methodNamed B.named
  have hlocks := B.notSynchronized
  have hX := WM.of hPX
  have hl := lv_entry ([.int x]) (n := 1) (Nat.le_of_ble_eq_true rfl)
  rw [lg_entry_eq]
  generalize (lg_sl ([.int x]) ++ List.replicate (1 - (lg_sl ([.int x])).length) Slot.unset).toArray = ls at hl ⊢
  have hl : lv_has ls 1 [(0, .int x)] := hl
  show W p l e ({ frames := 1, cells := 0, slots := 0, locals := 21 } : Room) s m ([.int x]).toArray below meth c s.heap [] 0 0 (MQ below (vp_Si (fun r => r = bI (decide (x < 0 ∨ nI 3 < x)))) ([.int x]).toArray s 0 0 (fun _ => False)) (F0 m 0 ls [])
  refine lv_iload_n hx hb dX6_isNoOrder_0 rfl (lv_at hl 0 rfl) ?_
  refine lv_iconst (v := nI 3) hx hb dX6_isNoOrder_1 (by decide) ?_
  refine kx_cr (v := bI (decide (x < 0 ∨ nI 3 < x))) (va_runS (As := [.int x, .int (nI 3)]) (rest := []) ⟨hx, hb, hml, hown, hts⟩ (m_X6_isNo l dC dI am M x (nI 3)) (va_cwS 2 hts gX6_isNoOrder_X6_isNo rfl rfl rfl hdX6_isNo_2.2 ⟨Nat.le_of_ble_eq_true rfl, Nat.le_of_ble_eq_true rfl⟩) hX.preS rfl rfl hl.1 rfl (lv_room (Nat.le_of_ble_eq_true rfl)) dX6_isNoOrder_2 ⟨Nat.le_of_ble_eq_true rfl, Nat.le_of_ble_eq_true rfl⟩) (fun _ h => h) ?_
  exact W.zret (v := bI (decide (x < 0 ∨ nI 3 < x))) hx hb hr (bI_narrow _) (fun t9 ht9 hW9 => ⟨_, rfl, rfl, ht9⟩) (fun _ h => nomatch h) dX6_isNoOrder_5
set_option maxHeartbeats 4000000 in
set_option maxRecDepth 100000 in
theorem m_X6_isNoValue (l : Launch) (dC : Nat → ClassId) (dI : Nat → Nat → Nat) (am : Nat → Nat) (M : MS) (x : Int32) : Met l yX6_isNoValue wsX6_isNoValue ({ frames := 1, cells := 0, slots := 0, locals := 21 } : Room) (va_Pc [.int x] (PM dC dI am M)) (vp_Si (fun r => r = bI (decide (x < 0 ∨ nI 15 < x)))) 0 0 (fun _ => False) := by
  refine Met.ofW (cc := cX6_isNoValue) (maxL := 1) (ret := (some .boolean)) pl_X6 rfl ?_
  intro p e s m args below meth c s₁ B hml hv
  obtain ⟨rfl, hPX⟩ := hv
  have hx := B.exec
  have hb := B.bytes
  have hr := B.returns
  have hts := atoms_spec (ws := wsX6_isNoValue) B.pre
  have hown : s.vm.findClass RX6 = some m.cls := findClass_of_methodNamed B.named
  have hlocks := B.notSynchronized
  have hX := WM.of hPX
  have hl := lv_entry ([.int x]) (n := 1) (Nat.le_of_ble_eq_true rfl)
  rw [lg_entry_eq]
  generalize (lg_sl ([.int x]) ++ List.replicate (1 - (lg_sl ([.int x])).length) Slot.unset).toArray = ls at hl ⊢
  have hl : lv_has ls 1 [(0, .int x)] := hl
  show W p l e ({ frames := 1, cells := 0, slots := 0, locals := 21 } : Room) s m ([.int x]).toArray below meth c s.heap [] 0 0 (MQ below (vp_Si (fun r => r = bI (decide (x < 0 ∨ nI 15 < x)))) ([.int x]).toArray s 0 0 (fun _ => False)) (F0 m 0 ls [])
  refine lv_iload_n hx hb dX6_isNoValue_0 rfl (lv_at hl 0 rfl) ?_
  refine lv_bipush (v := nI 15) hx hb dX6_isNoValue_1 (by decide) ?_
  refine kx_cr (v := bI (decide (x < 0 ∨ nI 15 < x))) (va_runS (As := [.int x, .int (nI 15)]) (rest := []) ⟨hx, hb, hml, hown, hts⟩ (m_X6_isNo l dC dI am M x (nI 15)) (va_cwS 2 hts gX6_isNoValue_X6_isNo rfl rfl rfl hdX6_isNo_2.2 ⟨Nat.le_of_ble_eq_true rfl, Nat.le_of_ble_eq_true rfl⟩) hX.preS rfl rfl hl.1 rfl (lv_room (Nat.le_of_ble_eq_true rfl)) dX6_isNoValue_3 ⟨Nat.le_of_ble_eq_true rfl, Nat.le_of_ble_eq_true rfl⟩) (fun _ h => h) ?_
  exact W.zret (v := bI (decide (x < 0 ∨ nI 15 < x))) hx hb hr (bI_narrow _) (fun t9 ht9 hW9 => ⟨_, rfl, rfl, ht9⟩) (fun _ h => nomatch h) dX6_isNoValue_6
set_option maxHeartbeats 4000000 in
set_option maxRecDepth 100000 in
theorem m_X6_refuse (l : Launch) (dC : Nat → ClassId) (dI : Nat → Nat → Nat) (am : Nat → Nat) (M : MS) (z : Bool) (u : Nat) (hu : 0 < u ∧ u < 100) (ht : M.2.2.1 = 0) : Met l yX6_refuse wsX6_refuse ({ frames := 0, cells := 0, slots := 0, locals := 0 } : Room) (va_Pc [.ref (am 0), .int (bI z), .int (nI u)] (PM dC dI am M)) (va_Qi (fun r M' => r = bI z ∧ M' = mN M (cond z u 0, M.2.2.2)) (PM dC dI am) (AM am)) 0 0 (AM am) := by
  refine Met.ofW (cc := cX6_refuse) (maxL := 3) (ret := (some .boolean)) pl_X6 rfl ?_
  intro p e s m args below meth c s₁ B hml hv
  obtain ⟨rfl, hPX⟩ := hv
  have hx := B.exec
  have hb := B.bytes
  have hr := B.returns
  have hts := atoms_spec (ws := wsX6_refuse) B.pre
  have hown : s.vm.findClass RX6 = some m.cls := findClass_of_methodNamed B.named
  have hlocks := B.notSynchronized
  have hin6 : ∀ w ∈ u_ws RX6 TX6 10, w ∈ wsX6_refuse := tu 1331 (by decide +kernel) rfl
  have hX := WM.of hPX
  have hl := lv_entry ([.ref (am 0), .int (bI z), .int (nI u)]) (n := 3) (Nat.le_of_ble_eq_true rfl)
  rw [lg_entry_eq]
  generalize (lg_sl ([.ref (am 0), .int (bI z), .int (nI u)]) ++ List.replicate (3 - (lg_sl ([.ref (am 0), .int (bI z), .int (nI u)])).length) Slot.unset).toArray = ls at hl ⊢
  have hl : lv_has ls 3 [(0, .ref (am 0)), (1, .int (bI z)), (2, .int (nI u))] := hl
  show W p l e ({ frames := 0, cells := 0, slots := 0, locals := 0 } : Room) s m ([.ref (am 0), .int (bI z), .int (nI u)]).toArray below meth c s.heap [] 0 0 (MQ below (va_Qi (fun r M' => r = bI z ∧ M' = mN M (cond z u 0, M.2.2.2)) (PM dC dI am) (AM am)) ([.ref (am 0), .int (bI z), .int (nI u)]).toArray s 0 0 (AM am)) (F0 m 0 ls [])
  refine lv_iload_n hx hb dX6_refuse_0 rfl (lv_at hl 1 rfl) ?_
  refine kb_if_eq (tgt := 16) hx hb dX6_refuse_1 (by decide) (fun k_1 => ?_) (fun k_1 => ?_)
  · skip
    have hz := k_1
    refine lv_aload_n hx hb dX6_refuse_16 rfl (lv_at hl 0 rfl) ?_
    refine km_gthrown (n := M.2.2.1) hx hb hts hin6 hown hX rfl (hts (.fieldLink RX6 32 "OrderlatticeModel" "thrown" "I") (tm 693 (by decide +kernel) rfl)) dX6_refuse_17 ?_
    refine kn_if_le (tgt := 27) hx hb (by omega) dX6_refuse_20 (by decide) (fun k_2 => ?_) (fun k_2 => absurd k_2 (by omega))
    refine lv_iconst (v := nI 0) hx hb dX6_refuse_27 (by decide) ?_
    exact W.zret (v := bI false) hx hb hr (bI_narrow _) (fun t9 ht9 hW9 => ⟨⟨_, M, rfl, ⟨by rw [hz], by rw [hz]; exact mN_same ht⟩, hX.P ht9 hW9⟩, hX.2.2.2.F ht9⟩) hX.2.2.2.2.2 dX6_refuse_28
  · skip
    have hz := k_1
    refine lv_aload_n hx hb dX6_refuse_4 rfl (lv_at hl 0 rfl) ?_
    refine km_gthrown (n := M.2.2.1) hx hb hts hin6 hown hX rfl (hts (.fieldLink RX6 32 "OrderlatticeModel" "thrown" "I") (tm 693 (by decide +kernel) rfl)) dX6_refuse_5 ?_
    refine kn_if_ne (tgt := 16) hx hb (by omega) dX6_refuse_8 (by decide) (fun k_3 => absurd k_3 (by omega)) (fun k_3 => ?_)
    refine lv_aload_n hx hb dX6_refuse_11 rfl (lv_at hl 0 rfl) ?_
    refine lv_iload_n hx hb dX6_refuse_12 rfl (lv_at hl 2 rfl) ?_
    refine km_pthrown (M' := (mN M (u, M.2.2.2.1, M.2.2.2.2.1, M.2.2.2.2.2))) hx hb hts hin6 hown hX rfl (hts (.fieldLink RX6 32 "OrderlatticeModel" "thrown" "I") (tm 693 (by decide +kernel) rfl)) dX6_refuse_13 (fun H locs hX => ?_)
    refine lv_aload_n hx hb dX6_refuse_16 rfl (lv_at hl 0 rfl) ?_
    refine km_gthrown (n := u) hx hb hts hin6 hown hX rfl (hts (.fieldLink RX6 32 "OrderlatticeModel" "thrown" "I") (tm 693 (by decide +kernel) rfl)) dX6_refuse_17 ?_
    refine kn_if_le (tgt := 27) hx hb (by omega) dX6_refuse_20 (by decide) (fun k_4 => absurd k_4 (by omega)) (fun k_4 => ?_)
    refine lv_iconst (v := nI 1) hx hb dX6_refuse_23 (by decide) ?_
    refine lv_goto (tgt := 28) hx hb dX6_refuse_24 (by decide) ?_
    exact W.zret (v := bI true) hx hb hr (bI_narrow _) (fun t9 ht9 hW9 => ⟨⟨_, (mN M (u, M.2.2.2.1, M.2.2.2.2.1, M.2.2.2.2.2)), rfl, ⟨by rw [hz], by rw [hz]; rfl⟩, hX.P ht9 hW9⟩, hX.2.2.2.F ht9⟩) hX.2.2.2.2.2 dX6_refuse_28
set_option maxHeartbeats 4000000 in
set_option maxRecDepth 100000 in
theorem m_X6_start (l : Launch) (dC : Nat → ClassId) (dI : Nat → Nat → Nat) (am : Nat → Nat) (M : MS) (z : Bool) (u : Nat) (hu : 0 < u ∧ u < 100) : Met l yX6_start wsX6_start ({ frames := 1, cells := 0, slots := 0, locals := 22 } : Room) (va_Pc [.ref (am 0), .int (bI z), .int (nI u)] (PM dC dI am M)) (va_Qi (fun r M' => r = bI z ∧ M' = mN M (cond z u 0, M.2.2.2)) (PM dC dI am) (AM am)) 0 0 (AM am) := by
  refine Met.ofW (cc := cX6_start) (maxL := 3) (ret := (some .boolean)) pl_X6 rfl ?_
  intro p e s m args below meth c s₁ B hml hv
  obtain ⟨rfl, hPX⟩ := hv
  have hx := B.exec
  have hb := B.bytes
  have hr := B.returns
  have hts := atoms_spec (ws := wsX6_start) B.pre
  have hown : s.vm.findClass RX6 = some m.cls := findClass_of_methodNamed B.named
  have hlocks := B.notSynchronized
  have hin6 : ∀ w ∈ u_ws RX6 TX6 10, w ∈ wsX6_start := tu 1331 (by decide +kernel) rfl
  have hX := WM.of hPX
  have hl := lv_entry ([.ref (am 0), .int (bI z), .int (nI u)]) (n := 3) (Nat.le_of_ble_eq_true rfl)
  rw [lg_entry_eq]
  generalize (lg_sl ([.ref (am 0), .int (bI z), .int (nI u)]) ++ List.replicate (3 - (lg_sl ([.ref (am 0), .int (bI z), .int (nI u)])).length) Slot.unset).toArray = ls at hl ⊢
  have hl : lv_has ls 3 [(0, .ref (am 0)), (1, .int (bI z)), (2, .int (nI u))] := hl
  show W p l e ({ frames := 1, cells := 0, slots := 0, locals := 22 } : Room) s m ([.ref (am 0), .int (bI z), .int (nI u)]).toArray below meth c s.heap [] 0 0 (MQ below (va_Qi (fun r M' => r = bI z ∧ M' = mN M (cond z u 0, M.2.2.2)) (PM dC dI am) (AM am)) ([.ref (am 0), .int (bI z), .int (nI u)]).toArray s 0 0 (AM am)) (F0 m 0 ls [])
  refine lv_aload_n hx hb dX6_start_0 rfl (lv_at hl 0 rfl) ?_
  refine lv_iconst (v := nI 0) hx hb dX6_start_1 (by decide) ?_
  refine km_pthrown (M' := (mN M (0, M.2.2.2.1, M.2.2.2.2.1, M.2.2.2.2.2))) hx hb hts hin6 hown hX rfl (hts (.fieldLink RX6 32 "OrderlatticeModel" "thrown" "I") (tm 693 (by decide +kernel) rfl)) dX6_start_2 (fun H locs hX => ?_)
  refine lv_aload_n hx hb dX6_start_5 rfl (lv_at hl 0 rfl) ?_
  refine lv_iload_n hx hb dX6_start_6 rfl (lv_at hl 1 rfl) ?_
  refine lv_iload_n hx hb dX6_start_7 rfl (lv_at hl 2 rfl) ?_
  refine km_ci (va_runV (As := [.int (bI z), .int (nI u)]) (rest := []) ⟨hx, hb, hml, hown, hts⟩ (m_X6_refuse l dC dI am (mN M (0, M.2.2.2.1, M.2.2.2.2.1, M.2.2.2.2.2)) z u hu rfl) (cwV 2 hts gX6_start_X6_refuse rfl rfl rfl hdX6_refuse_2 ⟨Nat.le_of_ble_eq_true rfl, Nat.le_of_ble_eq_true rfl⟩) (hX.preObj) rfl rfl hl.1 rfl (lv_room (Nat.le_of_ble_eq_true rfl)) dX6_start_8 ⟨Nat.le_of_ble_eq_true rfl, Nat.le_of_ble_eq_true rfl⟩) hX (fun _ h => h) (fun r_ S_ H locs hw hX => ?_)
  obtain ⟨rfl, rfl⟩ := hw
  exact W.zret (v := bI z) hx hb hr (bI_narrow _) (fun t9 ht9 hW9 => ⟨⟨_, (mN M (cond z u 0, M.2.2.2.1, M.2.2.2.2.1, M.2.2.2.2.2)), rfl, ⟨rfl, rfl⟩, hX.P ht9 hW9⟩, hX.2.2.2.F ht9⟩) hX.2.2.2.2.2 dX6_start_11
set_option maxHeartbeats 4000000 in
set_option maxRecDepth 100000 in
theorem m_X6_no (l : Launch) (dC : Nat → ClassId) (dI : Nat → Nat → Nat) (am : Nat → Nat) (M : MS) : Met l yX6_no wsX6_no ({ frames := 0, cells := 0, slots := 0, locals := 0 } : Room) (va_Pc [.ref (am 0)] (PM dC dI am M)) (va_Qi (fun r M' => r = -9 ∧ M' = mN M (M.2.2.1, M.2.2.2.1, M.2.2.2.2.1 + 1, M.2.2.2.2.2)) (PM dC dI am) (AM am)) 0 0 (AM am) := by
  refine Met.ofW (cc := cX6_no) (maxL := 1) (ret := (some .int)) pl_X6 rfl ?_
  intro p e s m args below meth c s₁ B hml hv
  obtain ⟨rfl, hPX⟩ := hv
  have hx := B.exec
  have hb := B.bytes
  have hr := B.returns
  have hts := atoms_spec (ws := wsX6_no) B.pre
  have hown : s.vm.findClass RX6 = some m.cls := findClass_of_methodNamed B.named
  have hlocks := B.notSynchronized
  have hin6 : ∀ w ∈ u_ws RX6 TX6 10, w ∈ wsX6_no := tu 1331 (by decide +kernel) rfl
  have hX := WM.of hPX
  have hl := lv_entry ([.ref (am 0)]) (n := 1) (Nat.le_of_ble_eq_true rfl)
  rw [lg_entry_eq]
  generalize (lg_sl ([.ref (am 0)]) ++ List.replicate (1 - (lg_sl ([.ref (am 0)])).length) Slot.unset).toArray = ls at hl ⊢
  have hl : lv_has ls 1 [(0, .ref (am 0))] := hl
  show W p l e ({ frames := 0, cells := 0, slots := 0, locals := 0 } : Room) s m ([.ref (am 0)]).toArray below meth c s.heap [] 0 0 (MQ below (va_Qi (fun r M' => r = -9 ∧ M' = mN M (M.2.2.1, M.2.2.2.1, M.2.2.2.2.1 + 1, M.2.2.2.2.2)) (PM dC dI am) (AM am)) ([.ref (am 0)]).toArray s 0 0 (AM am)) (F0 m 0 ls [])
  refine lv_aload_n hx hb dX6_no_0 rfl (lv_at hl 0 rfl) ?_
  refine lv_dup hx hb dX6_no_1 rfl ?_
  refine km_grefused (n := M.2.2.2.2.1) hx hb hts hin6 hown hX rfl (hts (.fieldLink RX6 44 "OrderlatticeModel" "refused" "I") (tm 705 (by decide +kernel) rfl)) dX6_no_2 ?_
  refine lv_iconst (v := nI 1) hx hb dX6_no_5 (by decide) ?_
  refine kn_iadd hx hb dX6_no_6 ?_
  refine km_prefused (M' := (mN M (M.2.2.1, M.2.2.2.1, M.2.2.2.2.1 + 1, M.2.2.2.2.2))) hx hb hts hin6 hown hX rfl (hts (.fieldLink RX6 44 "OrderlatticeModel" "refused" "I") (tm 705 (by decide +kernel) rfl)) dX6_no_7 (fun H locs hX => ?_)
  refine lv_bipush (v := (-9)) hx hb dX6_no_10 (by decide) ?_
  exact W.iret (v := (-9)) hx hb hr (fun t9 ht9 hW9 => ⟨⟨_, (mN M (M.2.2.1, M.2.2.2.1, M.2.2.2.2.1 + 1, M.2.2.2.2.2)), rfl, ⟨rfl, rfl⟩, hX.P ht9 hW9⟩, hX.2.2.2.F ht9⟩) hX.2.2.2.2.2 dX6_no_12
set_option maxHeartbeats 4000000 in
set_option maxRecDepth 100000 in
theorem m_X6_keyNow (l : Launch) (dC : Nat → ClassId) (dI : Nat → Nat → Nat) (am : Nat → Nat) (M : MS) (k v : Nat) (hk : k < 8) (hv : v < 16) : Met l yX6_keyNow wsX6_keyNow ({ frames := 0, cells := 0, slots := 0, locals := 0 } : Room) (va_Pc [.int (nI k), .int (nI v)] (PM dC dI am M)) (vp_Si (fun r => r = nI (numK k v))) 0 0 (fun _ => False) := by
  refine Met.ofW (cc := cX6_keyNow) (maxL := 2) (ret := (some .int)) pl_X6 rfl ?_
  intro p e s m args below meth c s₁ B hml hv
  obtain ⟨rfl, hPX⟩ := hv
  have hx := B.exec
  have hb := B.bytes
  have hr := B.returns
  have hts := atoms_spec (ws := wsX6_keyNow) B.pre
  have hown : s.vm.findClass RX6 = some m.cls := findClass_of_methodNamed B.named
  have hlocks := B.notSynchronized
  have hX := WM.of hPX
  have hl := lv_entry ([.int (nI k), .int (nI v)]) (n := 2) (Nat.le_of_ble_eq_true rfl)
  rw [lg_entry_eq]
  generalize (lg_sl ([.int (nI k), .int (nI v)]) ++ List.replicate (2 - (lg_sl ([.int (nI k), .int (nI v)])).length) Slot.unset).toArray = ls at hl ⊢
  have hl : lv_has ls 2 [(0, .int (nI k)), (1, .int (nI v))] := hl
  show W p l e ({ frames := 0, cells := 0, slots := 0, locals := 0 } : Room) s m ([.int (nI k), .int (nI v)]).toArray below meth c s.heap [] 0 0 (MQ below (vp_Si (fun r => r = nI (numK k v))) ([.int (nI k), .int (nI v)]).toArray s 0 0 (fun _ => False)) (F0 m 0 ls [])
  rcases (show k = 0 ∨ k = 1 ∨ k = 2 ∨ k = 3 ∨ k = 4 ∨ k = 5 ∨ k = 6 ∨ k = 7 by omega) with rfl | rfl | rfl | rfl | rfl | rfl | rfl | rfl
  · skip
    have hl : lv_has ls 2 [(0, .int (nI 0)), (1, .int (nI v))] := hl
    refine lv_iload_n hx hb dX6_keyNow_0 rfl (lv_at hl 0 rfl) ?_
    refine lv_tableIn (x := nI 0) (off := 43) (tgt := 44) hx hb dX6_keyNow_1 (by decide) (by decide) (by decide) (by decide) ?_
    refine lv_iload_n hx hb dX6_keyNow_44 rfl (lv_at hl 1 rfl) ?_
    exact W.iret (v := nI v) hx hb hr (fun t9 ht9 hW9 => ⟨_, rfl, rfl, ht9⟩) (fun _ h => nomatch h) dX6_keyNow_45
  · skip
    have hl : lv_has ls 2 [(0, .int (nI 1)), (1, .int (nI v))] := hl
    refine lv_iload_n hx hb dX6_keyNow_0 rfl (lv_at hl 0 rfl) ?_
    refine lv_tableIn (x := nI 1) (off := 45) (tgt := 46) hx hb dX6_keyNow_1 (by decide) (by decide) (by decide) (by decide) ?_
    refine lv_iload_n hx hb dX6_keyNow_46 rfl (lv_at hl 1 rfl) ?_
    refine lv_iconst (v := nI 4) hx hb dX6_keyNow_47 (by decide) ?_
    refine kn_idiv hx hb (by omega) (by omega) (by omega) dX6_keyNow_48 ?_
    exact W.iret (v := nI (v / 4)) hx hb hr (fun t9 ht9 hW9 => ⟨_, rfl, rfl, ht9⟩) (fun _ h => nomatch h) dX6_keyNow_49
  · skip
    have hl : lv_has ls 2 [(0, .int (nI 2)), (1, .int (nI v))] := hl
    refine lv_iload_n hx hb dX6_keyNow_0 rfl (lv_at hl 0 rfl) ?_
    refine lv_tableIn (x := nI 2) (off := 49) (tgt := 50) hx hb dX6_keyNow_1 (by decide) (by decide) (by decide) (by decide) ?_
    refine lv_iload_n hx hb dX6_keyNow_50 rfl (lv_at hl 1 rfl) ?_
    refine lv_iconst (v := nI 4) hx hb dX6_keyNow_51 (by decide) ?_
    refine kn_irem hx hb (by omega) (by omega) (by omega) dX6_keyNow_52 ?_
    exact W.iret (v := nI (v % 4)) hx hb hr (fun t9 ht9 hW9 => ⟨_, rfl, rfl, ht9⟩) (fun _ h => nomatch h) dX6_keyNow_53
  · skip
    have hl : lv_has ls 2 [(0, .int (nI 3)), (1, .int (nI v))] := hl
    refine lv_iload_n hx hb dX6_keyNow_0 rfl (lv_at hl 0 rfl) ?_
    refine lv_tableIn (x := nI 3) (off := 53) (tgt := 54) hx hb dX6_keyNow_1 (by decide) (by decide) (by decide) (by decide) ?_
    refine lv_iload_n hx hb dX6_keyNow_54 rfl (lv_at hl 1 rfl) ?_
    refine lv_iconst (v := nI 2) hx hb dX6_keyNow_55 (by decide) ?_
    refine kn_irem hx hb (by omega) (by omega) (by omega) dX6_keyNow_56 ?_
    exact W.iret (v := nI (v % 2)) hx hb hr (fun t9 ht9 hW9 => ⟨_, rfl, rfl, ht9⟩) (fun _ h => nomatch h) dX6_keyNow_57
  · skip
    have hl : lv_has ls 2 [(0, .int (nI 4)), (1, .int (nI v))] := hl
    refine lv_iload_n hx hb dX6_keyNow_0 rfl (lv_at hl 0 rfl) ?_
    refine lv_tableIn (x := nI 4) (off := 57) (tgt := 58) hx hb dX6_keyNow_1 (by decide) (by decide) (by decide) (by decide) ?_
    refine lv_iload_n hx hb dX6_keyNow_58 rfl (lv_at hl 1 rfl) ?_
    refine lv_iconst (v := nI 3) hx hb dX6_keyNow_59 (by decide) ?_
    refine kn_irem hx hb (by omega) (by omega) (by omega) dX6_keyNow_60 ?_
    exact W.iret (v := nI (v % 3)) hx hb hr (fun t9 ht9 hW9 => ⟨_, rfl, rfl, ht9⟩) (fun _ h => nomatch h) dX6_keyNow_61
  · skip
    have hl : lv_has ls 2 [(0, .int (nI 5)), (1, .int (nI v))] := hl
    refine lv_iload_n hx hb dX6_keyNow_0 rfl (lv_at hl 0 rfl) ?_
    refine lv_tableIn (x := nI 5) (off := 61) (tgt := 62) hx hb dX6_keyNow_1 (by decide) (by decide) (by decide) (by decide) ?_
    refine lv_iload_n hx hb dX6_keyNow_62 rfl (lv_at hl 1 rfl) ?_
    refine lv_bipush (v := nI 8) hx hb dX6_keyNow_63 (by decide) ?_
    refine kn_icmp_ge (tgt := 75) hx hb (by omega) (by omega) dX6_keyNow_65 (by decide) (fun k_1 => ?_) (fun k_1 => ?_)
    · skip
      refine lv_iload_n hx hb dX6_keyNow_75 rfl (lv_at hl 1 rfl) ?_
      refine lv_bipush (v := nI 8) hx hb dX6_keyNow_76 (by decide) ?_
      refine kn_isub hx hb (by omega) dX6_keyNow_78 ?_
      exact W.iret (v := nI (v - 8)) hx hb hr (fun t9 ht9 hW9 => ⟨_, rfl, (by show _ = nI (if v < 8 then 7 - v else v - 8); rw [if_neg (by omega)]), ht9⟩) (fun _ h => nomatch h) dX6_keyNow_79
    · skip
      refine lv_bipush (v := nI 7) hx hb dX6_keyNow_68 (by decide) ?_
      refine lv_iload_n hx hb dX6_keyNow_70 rfl (lv_at hl 1 rfl) ?_
      refine kn_isub hx hb (by omega) dX6_keyNow_71 ?_
      refine lv_goto (tgt := 79) hx hb dX6_keyNow_72 (by decide) ?_
      exact W.iret (v := nI (7 - v)) hx hb hr (fun t9 ht9 hW9 => ⟨_, rfl, (by show _ = nI (if v < 8 then 7 - v else v - 8); rw [if_pos (by omega)]), ht9⟩) (fun _ h => nomatch h) dX6_keyNow_79
  · skip
    have hl : lv_has ls 2 [(0, .int (nI 6)), (1, .int (nI v))] := hl
    refine lv_iload_n hx hb dX6_keyNow_0 rfl (lv_at hl 0 rfl) ?_
    refine lv_tableIn (x := nI 6) (off := 79) (tgt := 80) hx hb dX6_keyNow_1 (by decide) (by decide) (by decide) (by decide) ?_
    refine lv_iload_n hx hb dX6_keyNow_80 rfl (lv_at hl 1 rfl) ?_
    refine lv_bipush (v := nI 8) hx hb dX6_keyNow_81 (by decide) ?_
    refine kn_idiv hx hb (by omega) (by omega) (by omega) dX6_keyNow_83 ?_
    refine lv_iload_n hx hb dX6_keyNow_84 rfl (lv_at hl 1 rfl) ?_
    refine lv_iconst (v := nI 4) hx hb dX6_keyNow_85 (by decide) ?_
    refine kn_idiv hx hb (by omega) (by omega) (by omega) dX6_keyNow_86 ?_
    refine lv_iconst (v := nI 2) hx hb dX6_keyNow_87 (by decide) ?_
    refine kn_irem hx hb (by omega) (by omega) (by omega) dX6_keyNow_88 ?_
    refine kn_iadd hx hb dX6_keyNow_89 ?_
    refine lv_iload_n hx hb dX6_keyNow_90 rfl (lv_at hl 1 rfl) ?_
    refine lv_iconst (v := nI 2) hx hb dX6_keyNow_91 (by decide) ?_
    refine kn_idiv hx hb (by omega) (by omega) (by omega) dX6_keyNow_92 ?_
    refine lv_iconst (v := nI 2) hx hb dX6_keyNow_93 (by decide) ?_
    refine kn_irem hx hb (by omega) (by omega) (by omega) dX6_keyNow_94 ?_
    refine kn_iadd hx hb dX6_keyNow_95 ?_
    refine lv_iload_n hx hb dX6_keyNow_96 rfl (lv_at hl 1 rfl) ?_
    refine lv_iconst (v := nI 2) hx hb dX6_keyNow_97 (by decide) ?_
    refine kn_irem hx hb (by omega) (by omega) (by omega) dX6_keyNow_98 ?_
    refine kn_iadd hx hb dX6_keyNow_99 ?_
    exact W.iret (v := nI (v / 8 + ((v / 4) % 2) + ((v / 2) % 2) + (v % 2))) hx hb hr (fun t9 ht9 hW9 => ⟨_, rfl, rfl, ht9⟩) (fun _ h => nomatch h) dX6_keyNow_100
  · skip
    have hl : lv_has ls 2 [(0, .int (nI 7)), (1, .int (nI v))] := hl
    refine lv_iload_n hx hb dX6_keyNow_0 rfl (lv_at hl 0 rfl) ?_
    refine lv_tableOut (x := nI 7) (tgt := 101) hx hb dX6_keyNow_1 (by decide) (by decide) ?_
    refine lv_iconst (v := nI 0) hx hb dX6_keyNow_101 (by decide) ?_
    exact W.iret (v := nI 0) hx hb hr (fun t9 ht9 hW9 => ⟨_, rfl, rfl, ht9⟩) (fun _ h => nomatch h) dX6_keyNow_102
set_option maxHeartbeats 4000000 in
set_option maxRecDepth 100000 in
theorem m_X6_compareNow (l : Launch) (dC : Nat → ClassId) (dI : Nat → Nat → Nat) (am : Nat → Nat) (M : MS) (j a b : Nat) (hj : j < 4) (ho : ordM (M.2.1 j)) (ha : a < 16) (hb9 : b < 16) : Met l yX6_compareNow wsX6_compareNow ({ frames := 1, cells := 0, slots := 0, locals := 21 } : Room) (va_Pc [.ref (am 0), .int (nI j), .int (nI a), .int (nI b)] (PM dC dI am M)) (vp_Si (fun r => r = cmpI (cM M j a) (cM M j b))) 0 0 (fun _ => False) := by
  refine Met.ofW (cc := cX6_compareNow) (maxL := 7) (ret := (some .int)) pl_X6 rfl ?_
  intro p e s m args below meth c s₁ B hml hv
  obtain ⟨rfl, hPX⟩ := hv
  have hx := B.exec
  have hb := B.bytes
  have hr := B.returns
  have hts := atoms_spec (ws := wsX6_compareNow) B.pre
  have hown : s.vm.findClass RX6 = some m.cls := findClass_of_methodNamed B.named
  have hlocks := B.notSynchronized
  have hin6 : ∀ w ∈ u_ws RX6 TX6 10, w ∈ wsX6_compareNow := tu 1331 (by decide +kernel) rfl
  have hX := WM.of hPX
  have hl := lv_entry ([.ref (am 0), .int (nI j), .int (nI a), .int (nI b)]) (n := 7) (Nat.le_of_ble_eq_true rfl)
  rw [lg_entry_eq]
  generalize (lg_sl ([.ref (am 0), .int (nI j), .int (nI a), .int (nI b)]) ++ List.replicate (7 - (lg_sl ([.ref (am 0), .int (nI j), .int (nI a), .int (nI b)])).length) Slot.unset).toArray = ls at hl ⊢
  have hl : lv_has ls 7 [(0, .ref (am 0)), (1, .int (nI j)), (2, .int (nI a)), (3, .int (nI b))] := hl
  show W p l e ({ frames := 1, cells := 0, slots := 0, locals := 21 } : Room) s m ([.ref (am 0), .int (nI j), .int (nI a), .int (nI b)]).toArray below meth c s.heap [] 0 0 (MQ below (vp_Si (fun r => r = cmpI (cM M j a) (cM M j b))) ([.ref (am 0), .int (nI j), .int (nI a), .int (nI b)]).toArray s 0 0 (fun _ => False)) (F0 m 0 ls [])
  have hn := ho.1
  refine lv_iconst (v := nI 0) hx hb dX6_compareNow_0 (by decide) ?_
  refine lv_istore (lv' := [(4, .int (nI 0)), (0, .ref (am 0)), (1, .int (nI j)), (2, .int (nI a)), (3, .int (nI b))]) hx hb dX6_compareNow_1 hl (by decide) rfl (fun ls hl => ?_)
  have loop3 : ∀ (fuel : Nat) (k : Nat) (hk : k ≤ (M.2.1 j).2.2) (hq : codeOf (M.2.1 j).1 (M.2.1 j).2.1 k a = codeOf (M.2.1 j).1 (M.2.1 j).2.1 k b), (M.2.1 j).2.2 - k < fuel → ∀ ls : Array Slot, lv_has ls 7 [(0, .ref (am 0)), (1, .int (nI j)), (2, .int (nI a)), (3, .int (nI b)), (4, .int (nI k))] → W p l e ({ frames := 1, cells := 0, slots := 0, locals := 21 } : Room) s m ([.ref (am 0), .int (nI j), .int (nI a), .int (nI b)]).toArray below meth c s.heap [] 0 0 (MQ below (vp_Si (fun r => r = cmpI (cM M j a) (cM M j b))) ([.ref (am 0), .int (nI j), .int (nI a), .int (nI b)]).toArray s 0 0 (fun _ => False)) (F0 m 3 ls []) := by
    intro fuel
    induction fuel with
    | zero => intro k hk hq hf; exact absurd hf (Nat.not_lt_zero _)
    | succ fuel ih3 =>
      intro k hk hq hf ls hl
      refine lv_iload hx hb dX6_compareNow_3 (lv_at hl 4 rfl) ?_
      refine lv_aload_n hx hb dX6_compareNow_5 rfl (lv_at hl 0 rfl) ?_
      refine km_gsteps hx hb hts hin6 hown hX (hts (.fieldLink RX6 29 "OrderlatticeModel" "steps" "[I") (tm 724 (by decide +kernel) rfl)) dX6_compareNow_6 ?_
      refine lv_iload_n hx hb dX6_compareNow_9 rfl (lv_at hl 1 rfl) ?_
      refine km_lt (v := (M.2.1 j).2.2) hx hb hX (by omega) rfl dX6_compareNow_10 ?_
      refine kn_icmp_ge (tgt := 87) hx hb (by omega) (by omega) dX6_compareNow_11 (by decide) (fun k_1 => ?_) (fun k_1 => ?_)
      · skip
        refine lv_iconst (v := nI 0) hx hb dX6_compareNow_87 (by decide) ?_
        exact W.iret (v := nI 0) hx hb hr (fun t9 ht9 hW9 => ⟨_, rfl, (cmpS_0 (by unfold cM; rw [show (M.2.1 j).2.2 = k by omega]; exact hq)), ht9⟩) (fun _ h => nomatch h) dX6_compareNow_88
      · skip
        have hk8 := ho.2 k (by omega)
        have hn1 := numK_lt (k := (M.2.1 j).1 k) ha
        have hn2 := numK_lt (k := (M.2.1 j).1 k) hb9
        refine lv_aload_n hx hb dX6_compareNow_14 rfl (lv_at hl 0 rfl) ?_
        refine km_gkeys hx hb hts hin6 hown hX (hts (.fieldLink RX6 21 "OrderlatticeModel" "keys" "[[I") (tm 725 (by decide +kernel) rfl)) dX6_compareNow_15 ?_
        refine lv_iload_n hx hb dX6_compareNow_18 rfl (lv_at hl 1 rfl) ?_
        refine km_ak hx hb hX (by omega) dX6_compareNow_19 ?_
        refine lv_iload hx hb dX6_compareNow_20 (lv_at hl 4 rfl) ?_
        refine km_lk (v := ((M.2.1 j).1) k) hx hb hX (by omega) (by omega) rfl dX6_compareNow_22 ?_
        refine lv_iload_n hx hb dX6_compareNow_23 rfl (lv_at hl 2 rfl) ?_
        refine kx_cr (v := nI (numK (((M.2.1 j).1) k) a)) (va_runS (As := [.int (nI (((M.2.1 j).1) k)), .int (nI a)]) (rest := []) ⟨hx, hb, hml, hown, hts⟩ (m_X6_keyNow l dC dI am M (((M.2.1 j).1) k) a (by omega) (by omega)) (va_cwS 2 hts gX6_compareNow_X6_keyNow rfl rfl rfl hdX6_keyNow_2.2 ⟨Nat.le_of_ble_eq_true rfl, Nat.le_of_ble_eq_true rfl⟩) hX.preS rfl rfl hl.1 rfl (lv_room (Nat.le_of_ble_eq_true rfl)) dX6_compareNow_24 ⟨Nat.le_of_ble_eq_true rfl, Nat.le_of_ble_eq_true rfl⟩) (fun _ h => h) ?_
        refine lv_istore (lv' := [(5, .int (nI (numK (((M.2.1 j).1) k) a))), (0, .ref (am 0)), (1, .int (nI j)), (2, .int (nI a)), (3, .int (nI b)), (4, .int (nI k))]) hx hb dX6_compareNow_27 hl (by decide) rfl (fun ls hl => ?_)
        refine lv_aload_n hx hb dX6_compareNow_29 rfl (lv_at hl 1 rfl) ?_
        refine km_gkeys hx hb hts hin6 hown hX (hts (.fieldLink RX6 21 "OrderlatticeModel" "keys" "[[I") (tm 725 (by decide +kernel) rfl)) dX6_compareNow_30 ?_
        refine lv_iload_n hx hb dX6_compareNow_33 rfl (lv_at hl 2 rfl) ?_
        refine km_ak hx hb hX (by omega) dX6_compareNow_34 ?_
        refine lv_iload hx hb dX6_compareNow_35 (lv_at hl 5 rfl) ?_
        refine km_lk (v := ((M.2.1 j).1) k) hx hb hX (by omega) (by omega) rfl dX6_compareNow_37 ?_
        refine lv_iload_n hx hb dX6_compareNow_38 rfl (lv_at hl 4 rfl) ?_
        refine kx_cr (v := nI (numK (((M.2.1 j).1) k) b)) (va_runS (As := [.int (nI (((M.2.1 j).1) k)), .int (nI b)]) (rest := []) ⟨hx, hb, hml, hown, hts⟩ (m_X6_keyNow l dC dI am M (((M.2.1 j).1) k) b (by omega) (by omega)) (va_cwS 2 hts gX6_compareNow_X6_keyNow rfl rfl rfl hdX6_keyNow_2.2 ⟨Nat.le_of_ble_eq_true rfl, Nat.le_of_ble_eq_true rfl⟩) hX.preS rfl rfl hl.1 rfl (lv_room (Nat.le_of_ble_eq_true rfl)) dX6_compareNow_39 ⟨Nat.le_of_ble_eq_true rfl, Nat.le_of_ble_eq_true rfl⟩) (fun _ h => h) ?_
        refine lv_istore (lv' := [(6, .int (nI (numK (((M.2.1 j).1) k) b))), (5, .int (nI (numK (((M.2.1 j).1) k) a))), (0, .ref (am 0)), (1, .int (nI j)), (2, .int (nI a)), (3, .int (nI b)), (4, .int (nI k))]) hx hb dX6_compareNow_42 hl (by decide) rfl (fun ls hl => ?_)
        refine lv_iload hx hb dX6_compareNow_44 (lv_at hl 1 rfl) ?_
        refine lv_iload hx hb dX6_compareNow_46 (lv_at hl 0 rfl) ?_
        refine kn_icmp_eq (tgt := 81) hx hb (by omega) (by omega) dX6_compareNow_48 (by decide) (fun k_2 => ?_) (fun k_2 => ?_)
        · skip
          have h48 := k_2
          refine lv_iinc (v := nI (k + 1)) (lv' := [(4, .int (nI (k + 1))), (6, .int (nI (numK (((M.2.1 j).1) k) b))), (5, .int (nI (numK (((M.2.1 j).1) k) a))), (0, .ref (am 0)), (1, .int (nI j)), (2, .int (nI a)), (3, .int (nI b))]) hx hb dX6_compareNow_81 hl (k := 6) rfl (nI_1 k) (by decide) rfl (fun ls hl => ?_)
          refine lv_goto (tgt := 3) hx hb dX6_compareNow_84 (by decide) ?_
          exact ih3  (k + 1) (by omega) (by rw [codeOf, codeOf, hq]; unfold digK; rw [h48]) (by omega) _ (lv_sub hl [3, 4, 5, 6, 0] rfl)
        · skip
          have h48 := k_2
          refine lv_iload hx hb dX6_compareNow_51 (lv_at hl 1 rfl) ?_
          refine lv_iload hx hb dX6_compareNow_53 (lv_at hl 0 rfl) ?_
          refine kn_icmp_ge (tgt := 62) hx hb (by omega) (by omega) dX6_compareNow_55 (by decide) (fun k_3 => ?_) (fun k_3 => ?_)
          · skip
            have h55 := k_3
            refine lv_iconst (v := bI false) hx hb dX6_compareNow_62 (by decide) ?_
            refine lv_aload_n hx hb dX6_compareNow_63 rfl (lv_at hl 2 rfl) ?_
            refine km_gdowns hx hb hts hin6 hown hX (hts (.fieldLink RX6 26 "OrderlatticeModel" "downs" "[[Z") (tm 726 (by decide +kernel) rfl)) dX6_compareNow_64 ?_
            refine lv_iload_n hx hb dX6_compareNow_67 rfl (lv_at hl 3 rfl) ?_
            refine km_ad hx hb hX (by omega) dX6_compareNow_68 ?_
            refine lv_iload hx hb dX6_compareNow_69 (lv_at hl 6 rfl) ?_
            refine km_ld (z := ((M.2.1 j).2.1) k) hx hb hX (by omega) (by omega) rfl dX6_compareNow_71 ?_
            refine lv_icmp_ne (tgt := 79) hx hb dX6_compareNow_72 (by decide) (fun k_4 => ?_) (fun k_4 => ?_)
            · skip
              have h72 := k_4
              refine lv_iconst (v := (-1)) hx hb dX6_compareNow_79 (by decide) ?_
              exact W.iret (v := (-1)) hx hb hr (fun t9 ht9 hW9 => ⟨_, rfl, (cmpS_n (by omega) ha hb9 hq h48 (fun z => h72 (congrArg bI ((decide_eq_false (by omega)).symm.trans z)))), ht9⟩) (fun _ h => nomatch h) dX6_compareNow_80
            · skip
              have h72 := k_4
              refine lv_iconst (v := nI 1) hx hb dX6_compareNow_75 (by decide) ?_
              refine lv_goto (tgt := 80) hx hb dX6_compareNow_76 (by decide) ?_
              exact W.iret (v := nI 1) hx hb hr (fun t9 ht9 hW9 => ⟨_, rfl, (cmpS_p (by omega) ha hb9 hq h48 ((decide_eq_false (by omega)).trans (bI_inj h72))), ht9⟩) (fun _ h => nomatch h) dX6_compareNow_80
          · skip
            have h55 := k_3
            refine lv_iconst (v := bI true) hx hb dX6_compareNow_58 (by decide) ?_
            refine lv_goto (tgt := 63) hx hb dX6_compareNow_59 (by decide) ?_
            refine lv_aload_n hx hb dX6_compareNow_63 rfl (lv_at hl 2 rfl) ?_
            refine km_gdowns hx hb hts hin6 hown hX (hts (.fieldLink RX6 26 "OrderlatticeModel" "downs" "[[Z") (tm 726 (by decide +kernel) rfl)) dX6_compareNow_64 ?_
            refine lv_iload_n hx hb dX6_compareNow_67 rfl (lv_at hl 3 rfl) ?_
            refine km_ad hx hb hX (by omega) dX6_compareNow_68 ?_
            refine lv_iload hx hb dX6_compareNow_69 (lv_at hl 6 rfl) ?_
            refine km_ld (z := ((M.2.1 j).2.1) k) hx hb hX (by omega) (by omega) rfl dX6_compareNow_71 ?_
            refine lv_icmp_ne (tgt := 79) hx hb dX6_compareNow_72 (by decide) (fun k_5 => ?_) (fun k_5 => ?_)
            · skip
              have h72 := k_5
              refine lv_iconst (v := (-1)) hx hb dX6_compareNow_79 (by decide) ?_
              exact W.iret (v := (-1)) hx hb hr (fun t9 ht9 hW9 => ⟨_, rfl, (cmpS_n (by omega) ha hb9 hq h48 (fun z => h72 (congrArg bI ((decide_eq_true h55).symm.trans z)))), ht9⟩) (fun _ h => nomatch h) dX6_compareNow_80
            · skip
              have h72 := k_5
              refine lv_iconst (v := nI 1) hx hb dX6_compareNow_75 (by decide) ?_
              refine lv_goto (tgt := 80) hx hb dX6_compareNow_76 (by decide) ?_
              exact W.iret (v := nI 1) hx hb hr (fun t9 ht9 hW9 => ⟨_, rfl, (cmpS_p (by omega) ha hb9 hq h48 ((decide_eq_true h55).trans (bI_inj h72))), ht9⟩) (fun _ h => nomatch h) dX6_compareNow_80
  exact loop3 ((M.2.1 j).2.2 - 0 + 1) 0 (by omega) rfl (by omega) _ (lv_sub hl [1, 2, 3, 4, 0] rfl)
set_option maxHeartbeats 4000000 in
set_option maxRecDepth 100000 in
theorem m_X6_isFirst (l : Launch) (dC : Nat → ClassId) (dI : Nat → Nat → Nat) (am : Nat → Nat) (M : MS) (j v : Nat) (hj : j < 4) (ho : ordM (M.2.1 j)) (hv : v < 16) : Met l yX6_isFirst wsX6_isFirst ({ frames := 2, cells := 0, slots := 0, locals := 47 } : Room) (va_Pc [.ref (am 0), .int (nI j), .int (nI v)] (PM dC dI am M)) (vp_Si (fun r => r = bI (headB (cM M j) v))) 0 0 (fun _ => False) := by
  refine Met.ofW (cc := cX6_isFirst) (maxL := 4) (ret := (some .boolean)) pl_X6 rfl ?_
  intro p e s m args below meth c s₁ B hml hv
  obtain ⟨rfl, hPX⟩ := hv
  have hx := B.exec
  have hb := B.bytes
  have hr := B.returns
  have hts := atoms_spec (ws := wsX6_isFirst) B.pre
  have hown : s.vm.findClass RX6 = some m.cls := findClass_of_methodNamed B.named
  have hlocks := B.notSynchronized
  have hX := WM.of hPX
  have hl := lv_entry ([.ref (am 0), .int (nI j), .int (nI v)]) (n := 4) (Nat.le_of_ble_eq_true rfl)
  rw [lg_entry_eq]
  generalize (lg_sl ([.ref (am 0), .int (nI j), .int (nI v)]) ++ List.replicate (4 - (lg_sl ([.ref (am 0), .int (nI j), .int (nI v)])).length) Slot.unset).toArray = ls at hl ⊢
  have hl : lv_has ls 4 [(0, .ref (am 0)), (1, .int (nI j)), (2, .int (nI v))] := hl
  show W p l e ({ frames := 2, cells := 0, slots := 0, locals := 47 } : Room) s m ([.ref (am 0), .int (nI j), .int (nI v)]).toArray below meth c s.heap [] 0 0 (MQ below (vp_Si (fun r => r = bI (headB (cM M j) v))) ([.ref (am 0), .int (nI j), .int (nI v)]).toArray s 0 0 (fun _ => False)) (F0 m 0 ls [])
  refine lv_iconst (v := nI 0) hx hb dX6_isFirst_0 (by decide) ?_
  refine lv_istore_n (lv' := [(3, .int (nI 0)), (0, .ref (am 0)), (1, .int (nI j)), (2, .int (nI v))]) hx hb dX6_isFirst_1 rfl hl (by decide) rfl (fun ls hl => ?_)
  have loop2 : ∀ (fuel : Nat) (k : Nat) (hk : k ≤ v) (hq : ∀ q, q < k → cM M j q ≠ cM M j v), v - k < fuel → ∀ ls : Array Slot, lv_has ls 4 [(0, .ref (am 0)), (1, .int (nI j)), (2, .int (nI v)), (3, .int (nI k))] → W p l e ({ frames := 2, cells := 0, slots := 0, locals := 47 } : Room) s m ([.ref (am 0), .int (nI j), .int (nI v)]).toArray below meth c s.heap [] 0 0 (MQ below (vp_Si (fun r => r = bI (headB (cM M j) v))) ([.ref (am 0), .int (nI j), .int (nI v)]).toArray s 0 0 (fun _ => False)) (F0 m 2 ls []) := by
    intro fuel
    induction fuel with
    | zero => intro k hk hq hf; exact absurd hf (Nat.not_lt_zero _)
    | succ fuel ih2 =>
      intro k hk hq hf ls hl
      refine lv_iload_n hx hb dX6_isFirst_2 rfl (lv_at hl 3 rfl) ?_
      refine lv_iload_n hx hb dX6_isFirst_3 rfl (lv_at hl 2 rfl) ?_
      refine kn_icmp_ge (tgt := 25) hx hb (by omega) (by omega) dX6_isFirst_4 (by decide) (fun k_1 => ?_) (fun k_1 => ?_)
      · skip
        refine lv_iconst (v := nI 1) hx hb dX6_isFirst_25 (by decide) ?_
        exact W.zret (v := bI true) hx hb hr (bI_narrow _) (fun t9 ht9 hW9 => ⟨_, rfl, (kd_t (fun q h => hq q (by omega))), ht9⟩) (fun _ h => nomatch h) dX6_isFirst_26
      · skip
        refine lv_aload_n hx hb dX6_isFirst_7 rfl (lv_at hl 0 rfl) ?_
        refine lv_iload_n hx hb dX6_isFirst_8 rfl (lv_at hl 1 rfl) ?_
        refine lv_iload_n hx hb dX6_isFirst_9 rfl (lv_at hl 3 rfl) ?_
        refine lv_iload_n hx hb dX6_isFirst_10 rfl (lv_at hl 2 rfl) ?_
        refine kx_cr (v := cmpI (cM M j k) (cM M j v)) (va_runV (As := [.int (nI j), .int (nI k), .int (nI v)]) (rest := []) ⟨hx, hb, hml, hown, hts⟩ (m_X6_compareNow l dC dI am M j k v (by omega) ho (by omega) (by omega)) (cwV 3 hts gX6_isFirst_X6_compareNow rfl rfl rfl hdX6_compareNow_3 ⟨Nat.le_of_ble_eq_true rfl, Nat.le_of_ble_eq_true rfl⟩) (hX.preObj) rfl rfl hl.1 rfl (lv_room (Nat.le_of_ble_eq_true rfl)) dX6_isFirst_11 ⟨Nat.le_of_ble_eq_true rfl, Nat.le_of_ble_eq_true rfl⟩) (fun _ h => h) ?_
        refine kc_if_ne (tgt := 19) hx hb dX6_isFirst_14 (by decide) (fun k_2 => ?_) (fun k_2 => ?_)
        · skip
          have hc := k_2
          refine lv_iinc (v := nI (k + 1)) (lv' := [(3, .int (nI (k + 1))), (0, .ref (am 0)), (1, .int (nI j)), (2, .int (nI v))]) hx hb dX6_isFirst_19 hl (k := 3) rfl (nI_1 k) (by decide) rfl (fun ls hl => ?_)
          refine lv_goto (tgt := 2) hx hb dX6_isFirst_22 (by decide) ?_
          exact ih2  (k + 1) (by omega) (lt_s hq hc) (by omega) _ (lv_sub hl [1, 2, 3, 0] rfl)
        · skip
          have hc := k_2
          refine lv_iconst (v := nI 0) hx hb dX6_isFirst_17 (by decide) ?_
          exact W.zret (v := bI false) hx hb hr (bI_narrow _) (fun t9 ht9 hW9 => ⟨_, rfl, (kd_f (fun z => z k (by omega) hc)), ht9⟩) (fun _ h => nomatch h) dX6_isFirst_18
  exact loop2 (v - 0 + 1) 0 (by omega) (fun q h => absurd h (Nat.not_lt_zero q)) (by omega) _ (lv_sub hl [1, 2, 3, 0] rfl)
set_option maxHeartbeats 4000000 in
set_option maxRecDepth 100000 in
theorem m_X6_classesNow (l : Launch) (dC : Nat → ClassId) (dI : Nat → Nat → Nat) (am : Nat → Nat) (M : MS) (j : Nat) (hj : j < 4) (ho : ordM (M.2.1 j)) : Met l yX6_classesNow wsX6_classesNow ({ frames := 3, cells := 0, slots := 0, locals := 70 } : Room) (va_Pc [.ref (am 0), .int (nI j)] (PM dC dI am M)) (vp_Si (fun r => r = nI (classC (cM M j)))) 0 0 (fun _ => False) := by
  refine Met.ofW (cc := cX6_classesNow) (maxL := 4) (ret := (some .int)) pl_X6 rfl ?_
  intro p e s m args below meth c s₁ B hml hv
  obtain ⟨rfl, hPX⟩ := hv
  have hx := B.exec
  have hb := B.bytes
  have hr := B.returns
  have hts := atoms_spec (ws := wsX6_classesNow) B.pre
  have hown : s.vm.findClass RX6 = some m.cls := findClass_of_methodNamed B.named
  have hlocks := B.notSynchronized
  have hX := WM.of hPX
  have hl := lv_entry ([.ref (am 0), .int (nI j)]) (n := 4) (Nat.le_of_ble_eq_true rfl)
  rw [lg_entry_eq]
  generalize (lg_sl ([.ref (am 0), .int (nI j)]) ++ List.replicate (4 - (lg_sl ([.ref (am 0), .int (nI j)])).length) Slot.unset).toArray = ls at hl ⊢
  have hl : lv_has ls 4 [(0, .ref (am 0)), (1, .int (nI j))] := hl
  show W p l e ({ frames := 3, cells := 0, slots := 0, locals := 70 } : Room) s m ([.ref (am 0), .int (nI j)]).toArray below meth c s.heap [] 0 0 (MQ below (vp_Si (fun r => r = nI (classC (cM M j)))) ([.ref (am 0), .int (nI j)]).toArray s 0 0 (fun _ => False)) (F0 m 0 ls [])
  refine lv_iconst (v := nI 0) hx hb dX6_classesNow_0 (by decide) ?_
  refine lv_istore_n (lv' := [(2, .int (nI 0)), (0, .ref (am 0)), (1, .int (nI j))]) hx hb dX6_classesNow_1 rfl hl (by decide) rfl (fun ls hl => ?_)
  refine lv_iconst (v := nI 0) hx hb dX6_classesNow_2 (by decide) ?_
  refine lv_istore_n (lv' := [(3, .int (nI 0)), (2, .int (nI 0)), (0, .ref (am 0)), (1, .int (nI j))]) hx hb dX6_classesNow_3 rfl hl (by decide) rfl (fun ls hl => ?_)
  have loop4 : ∀ (fuel : Nat) (q k : Nat) (hk : k ≤ 16) (hq : q = cntB (headB (cM M j)) k), 16 - k < fuel → ∀ ls : Array Slot, lv_has ls 4 [(0, .ref (am 0)), (1, .int (nI j)), (2, .int (nI q)), (3, .int (nI k))] → W p l e ({ frames := 3, cells := 0, slots := 0, locals := 70 } : Room) s m ([.ref (am 0), .int (nI j)]).toArray below meth c s.heap [] 0 0 (MQ below (vp_Si (fun r => r = nI (classC (cM M j)))) ([.ref (am 0), .int (nI j)]).toArray s 0 0 (fun _ => False)) (F0 m 4 ls []) := by
    intro fuel
    induction fuel with
    | zero => intro q k hk hq hf; exact absurd hf (Nat.not_lt_zero _)
    | succ fuel ih4 =>
      intro q k hk hq hf ls hl
      refine lv_iload_n hx hb dX6_classesNow_4 rfl (lv_at hl 3 rfl) ?_
      refine lv_bipush (v := nI 16) hx hb dX6_classesNow_5 (by decide) ?_
      refine kn_icmp_ge (tgt := 33) hx hb (by omega) (by omega) dX6_classesNow_7 (by decide) (fun k_1 => ?_) (fun k_1 => ?_)
      · skip
        refine lv_iload_n hx hb dX6_classesNow_33 rfl (lv_at hl 2 rfl) ?_
        exact W.iret (v := nI q) hx hb hr (fun t9 ht9 hW9 => ⟨_, rfl, (by rw [hq, show k = 16 by omega]; rfl), ht9⟩) (fun _ h => nomatch h) dX6_classesNow_34
      · skip
        refine lv_iload_n hx hb dX6_classesNow_10 rfl (lv_at hl 2 rfl) ?_
        refine lv_aload_n hx hb dX6_classesNow_11 rfl (lv_at hl 0 rfl) ?_
        refine lv_iload_n hx hb dX6_classesNow_12 rfl (lv_at hl 1 rfl) ?_
        refine lv_iload_n hx hb dX6_classesNow_13 rfl (lv_at hl 3 rfl) ?_
        refine kx_cr (v := bI (headB (cM M j) k)) (va_runV (As := [.int (nI j), .int (nI k)]) (rest := [.int (nI q)]) ⟨hx, hb, hml, hown, hts⟩ (m_X6_isFirst l dC dI am M j k (by omega) ho (by omega)) (cwV 2 hts gX6_classesNow_X6_isFirst rfl rfl rfl hdX6_isFirst_2 ⟨Nat.le_of_ble_eq_true rfl, Nat.le_of_ble_eq_true rfl⟩) (hX.preObj) rfl rfl hl.1 rfl (lv_room (Nat.le_of_ble_eq_true rfl)) dX6_classesNow_14 ⟨Nat.le_of_ble_eq_true rfl, Nat.le_of_ble_eq_true rfl⟩) (fun _ h => h) ?_
        refine kb_if_eq (tgt := 24) hx hb dX6_classesNow_17 (by decide) (fun k_2 => ?_) (fun k_2 => ?_)
        · skip
          have hc := k_2
          refine lv_iconst (v := nI 0) hx hb dX6_classesNow_24 (by decide) ?_
          refine kn_iadd hx hb dX6_classesNow_25 ?_
          refine lv_istore_n (lv' := [(2, .int (nI (q + 0))), (0, .ref (am 0)), (1, .int (nI j)), (3, .int (nI k))]) hx hb dX6_classesNow_26 rfl hl (by decide) rfl (fun ls hl => ?_)
          refine lv_iinc (v := nI (k + 1)) (lv' := [(3, .int (nI (k + 1))), (2, .int (nI (q + 0))), (0, .ref (am 0)), (1, .int (nI j))]) hx hb dX6_classesNow_27 hl (k := 3) rfl (nI_1 k) (by decide) rfl (fun ls hl => ?_)
          refine lv_goto (tgt := 4) hx hb dX6_classesNow_30 (by decide) ?_
          exact ih4  (q + 0) (k + 1) (by omega) (by rw [cntB_f hc, hq]; rfl) (by omega) _ (lv_sub hl [2, 3, 1, 0] rfl)
        · skip
          have hc := k_2
          refine lv_iconst (v := nI 1) hx hb dX6_classesNow_20 (by decide) ?_
          refine lv_goto (tgt := 25) hx hb dX6_classesNow_21 (by decide) ?_
          refine kn_iadd hx hb dX6_classesNow_25 ?_
          refine lv_istore_n (lv' := [(2, .int (nI (q + 1))), (0, .ref (am 0)), (1, .int (nI j)), (3, .int (nI k))]) hx hb dX6_classesNow_26 rfl hl (by decide) rfl (fun ls hl => ?_)
          refine lv_iinc (v := nI (k + 1)) (lv' := [(3, .int (nI (k + 1))), (2, .int (nI (q + 1))), (0, .ref (am 0)), (1, .int (nI j))]) hx hb dX6_classesNow_27 hl (k := 3) rfl (nI_1 k) (by decide) rfl (fun ls hl => ?_)
          refine lv_goto (tgt := 4) hx hb dX6_classesNow_30 (by decide) ?_
          exact ih4  (q + 1) (k + 1) (by omega) (by rw [cntB_t hc, hq]) (by omega) _ (lv_sub hl [2, 3, 1, 0] rfl)
  exact loop4 (16 + 1) 0 0 (by omega) rfl (by omega) _ (lv_sub hl [2, 3, 1, 0] rfl)
set_option maxHeartbeats 4000000 in
set_option maxRecDepth 100000 in
theorem m_X6_rankNow (l : Launch) (dC : Nat → ClassId) (dI : Nat → Nat → Nat) (am : Nat → Nat) (M : MS) (j v : Nat) (hj : j < 4) (ho : ordM (M.2.1 j)) (hv : v < 16) : Met l yX6_rankNow wsX6_rankNow ({ frames := 3, cells := 0, slots := 0, locals := 70 } : Room) (va_Pc [.ref (am 0), .int (nI j), .int (nI v)] (PM dC dI am M)) (vp_Si (fun r => r = nI (rankC (cM M j) v))) 0 0 (fun _ => False) := by
  refine Met.ofW (cc := cX6_rankNow) (maxL := 5) (ret := (some .int)) pl_X6 rfl ?_
  intro p e s m args below meth c s₁ B hml hv
  obtain ⟨rfl, hPX⟩ := hv
  have hx := B.exec
  have hb := B.bytes
  have hr := B.returns
  have hts := atoms_spec (ws := wsX6_rankNow) B.pre
  have hown : s.vm.findClass RX6 = some m.cls := findClass_of_methodNamed B.named
  have hlocks := B.notSynchronized
  have hX := WM.of hPX
  have hl := lv_entry ([.ref (am 0), .int (nI j), .int (nI v)]) (n := 5) (Nat.le_of_ble_eq_true rfl)
  rw [lg_entry_eq]
  generalize (lg_sl ([.ref (am 0), .int (nI j), .int (nI v)]) ++ List.replicate (5 - (lg_sl ([.ref (am 0), .int (nI j), .int (nI v)])).length) Slot.unset).toArray = ls at hl ⊢
  have hl : lv_has ls 5 [(0, .ref (am 0)), (1, .int (nI j)), (2, .int (nI v))] := hl
  show W p l e ({ frames := 3, cells := 0, slots := 0, locals := 70 } : Room) s m ([.ref (am 0), .int (nI j), .int (nI v)]).toArray below meth c s.heap [] 0 0 (MQ below (vp_Si (fun r => r = nI (rankC (cM M j) v))) ([.ref (am 0), .int (nI j), .int (nI v)]).toArray s 0 0 (fun _ => False)) (F0 m 0 ls [])
  refine lv_iconst (v := nI 0) hx hb dX6_rankNow_0 (by decide) ?_
  refine lv_istore_n (lv' := [(3, .int (nI 0)), (0, .ref (am 0)), (1, .int (nI j)), (2, .int (nI v))]) hx hb dX6_rankNow_1 rfl hl (by decide) rfl (fun ls hl => ?_)
  refine lv_iconst (v := nI 0) hx hb dX6_rankNow_2 (by decide) ?_
  refine lv_istore (lv' := [(4, .int (nI 0)), (3, .int (nI 0)), (0, .ref (am 0)), (1, .int (nI j)), (2, .int (nI v))]) hx hb dX6_rankNow_3 hl (by decide) rfl (fun ls hl => ?_)
  have loop5 : ∀ (fuel : Nat) (q k : Nat) (hk : k ≤ 16) (hq : q = cntB (fun h => headB (cM M j) h && decide (cM M j h < cM M j v)) k), 16 - k < fuel → ∀ ls : Array Slot, lv_has ls 5 [(0, .ref (am 0)), (1, .int (nI j)), (2, .int (nI v)), (3, .int (nI q)), (4, .int (nI k))] → W p l e ({ frames := 3, cells := 0, slots := 0, locals := 70 } : Room) s m ([.ref (am 0), .int (nI j), .int (nI v)]).toArray below meth c s.heap [] 0 0 (MQ below (vp_Si (fun r => r = nI (rankC (cM M j) v))) ([.ref (am 0), .int (nI j), .int (nI v)]).toArray s 0 0 (fun _ => False)) (F0 m 5 ls []) := by
    intro fuel
    induction fuel with
    | zero => intro q k hk hq hf; exact absurd hf (Nat.not_lt_zero _)
    | succ fuel ih5 =>
      intro q k hk hq hf ls hl
      refine lv_iload hx hb dX6_rankNow_5 (lv_at hl 4 rfl) ?_
      refine lv_bipush (v := nI 16) hx hb dX6_rankNow_7 (by decide) ?_
      refine kn_icmp_ge (tgt := 47) hx hb (by omega) (by omega) dX6_rankNow_9 (by decide) (fun k_1 => ?_) (fun k_1 => ?_)
      · skip
        refine lv_iload_n hx hb dX6_rankNow_47 rfl (lv_at hl 3 rfl) ?_
        exact W.iret (v := nI q) hx hb hr (fun t9 ht9 hW9 => ⟨_, rfl, (by rw [hq, show k = 16 by omega]; rfl), ht9⟩) (fun _ h => nomatch h) dX6_rankNow_48
      · skip
        refine lv_iload_n hx hb dX6_rankNow_12 rfl (lv_at hl 3 rfl) ?_
        refine lv_aload_n hx hb dX6_rankNow_13 rfl (lv_at hl 0 rfl) ?_
        refine lv_iload_n hx hb dX6_rankNow_14 rfl (lv_at hl 1 rfl) ?_
        refine lv_iload hx hb dX6_rankNow_15 (lv_at hl 4 rfl) ?_
        refine kx_cr (v := bI (headB (cM M j) k)) (va_runV (As := [.int (nI j), .int (nI k)]) (rest := [.int (nI q)]) ⟨hx, hb, hml, hown, hts⟩ (m_X6_isFirst l dC dI am M j k (by omega) ho (by omega)) (cwV 2 hts gX6_rankNow_X6_isFirst rfl rfl rfl hdX6_isFirst_2 ⟨Nat.le_of_ble_eq_true rfl, Nat.le_of_ble_eq_true rfl⟩) (hX.preObj) rfl rfl hl.1 rfl (lv_room (Nat.le_of_ble_eq_true rfl)) dX6_rankNow_17 ⟨Nat.le_of_ble_eq_true rfl, Nat.le_of_ble_eq_true rfl⟩) (fun _ h => h) ?_
        refine kb_if_eq (tgt := 38) hx hb dX6_rankNow_20 (by decide) (fun k_2 => ?_) (fun k_2 => ?_)
        · skip
          have hc := k_2
          refine lv_iconst (v := nI 0) hx hb dX6_rankNow_38 (by decide) ?_
          refine kn_iadd hx hb dX6_rankNow_39 ?_
          refine lv_istore_n (lv' := [(3, .int (nI (q + 0))), (0, .ref (am 0)), (1, .int (nI j)), (2, .int (nI v)), (4, .int (nI k))]) hx hb dX6_rankNow_40 rfl hl (by decide) rfl (fun ls hl => ?_)
          refine lv_iinc (v := nI (k + 1)) (lv' := [(4, .int (nI (k + 1))), (3, .int (nI (q + 0))), (0, .ref (am 0)), (1, .int (nI j)), (2, .int (nI v))]) hx hb dX6_rankNow_41 hl (k := 4) rfl (nI_1 k) (by decide) rfl (fun ls hl => ?_)
          refine lv_goto (tgt := 5) hx hb dX6_rankNow_44 (by decide) ?_
          exact ih5  (q + 0) (k + 1) (by omega) (by rw [cntB_f (by rw [hc, Bool.false_and]), hq]; rfl) (by omega) _ (lv_sub hl [2, 3, 4, 1, 0] rfl)
        · skip
          have hc := k_2
          refine lv_aload_n hx hb dX6_rankNow_23 rfl (lv_at hl 0 rfl) ?_
          refine lv_iload_n hx hb dX6_rankNow_24 rfl (lv_at hl 1 rfl) ?_
          refine lv_iload hx hb dX6_rankNow_25 (lv_at hl 4 rfl) ?_
          refine lv_iload_n hx hb dX6_rankNow_27 rfl (lv_at hl 2 rfl) ?_
          refine kx_cr (v := cmpI (cM M j k) (cM M j v)) (va_runV (As := [.int (nI j), .int (nI k), .int (nI v)]) (rest := [.int (nI q)]) ⟨hx, hb, hml, hown, hts⟩ (m_X6_compareNow l dC dI am M j k v (by omega) ho (by omega) (by omega)) (cwV 3 hts gX6_rankNow_X6_compareNow rfl rfl rfl hdX6_compareNow_3 ⟨Nat.le_of_ble_eq_true rfl, Nat.le_of_ble_eq_true rfl⟩) (hX.preObj) rfl rfl hl.1 rfl (lv_room (Nat.le_of_ble_eq_true rfl)) dX6_rankNow_28 ⟨Nat.le_of_ble_eq_true rfl, Nat.le_of_ble_eq_true rfl⟩) (fun _ h => h) ?_
          refine kc_if_ge (tgt := 38) hx hb dX6_rankNow_31 (by decide) (fun k_3 => ?_) (fun k_3 => ?_)
          · skip
            have hd := k_3
            refine lv_iconst (v := nI 0) hx hb dX6_rankNow_38 (by decide) ?_
            refine kn_iadd hx hb dX6_rankNow_39 ?_
            refine lv_istore_n (lv' := [(3, .int (nI (q + 0))), (0, .ref (am 0)), (1, .int (nI j)), (2, .int (nI v)), (4, .int (nI k))]) hx hb dX6_rankNow_40 rfl hl (by decide) rfl (fun ls hl => ?_)
            refine lv_iinc (v := nI (k + 1)) (lv' := [(4, .int (nI (k + 1))), (3, .int (nI (q + 0))), (0, .ref (am 0)), (1, .int (nI j)), (2, .int (nI v))]) hx hb dX6_rankNow_41 hl (k := 4) rfl (nI_1 k) (by decide) rfl (fun ls hl => ?_)
            refine lv_goto (tgt := 5) hx hb dX6_rankNow_44 (by decide) ?_
            exact ih5  (q + 0) (k + 1) (by omega) (by rw [cntB_f (by rw [hc, decide_eq_false (by omega)]; rfl), hq]; rfl) (by omega) _ (lv_sub hl [2, 3, 4, 1, 0] rfl)
          · skip
            have hd := k_3
            refine lv_iconst (v := nI 1) hx hb dX6_rankNow_34 (by decide) ?_
            refine lv_goto (tgt := 39) hx hb dX6_rankNow_35 (by decide) ?_
            refine kn_iadd hx hb dX6_rankNow_39 ?_
            refine lv_istore_n (lv' := [(3, .int (nI (q + 1))), (0, .ref (am 0)), (1, .int (nI j)), (2, .int (nI v)), (4, .int (nI k))]) hx hb dX6_rankNow_40 rfl hl (by decide) rfl (fun ls hl => ?_)
            refine lv_iinc (v := nI (k + 1)) (lv' := [(4, .int (nI (k + 1))), (3, .int (nI (q + 1))), (0, .ref (am 0)), (1, .int (nI j)), (2, .int (nI v))]) hx hb dX6_rankNow_41 hl (k := 4) rfl (nI_1 k) (by decide) rfl (fun ls hl => ?_)
            refine lv_goto (tgt := 5) hx hb dX6_rankNow_44 (by decide) ?_
            exact ih5  (q + 1) (k + 1) (by omega) (by rw [cntB_t (by rw [hc, decide_eq_true hd]; rfl), hq]) (by omega) _ (lv_sub hl [2, 3, 4, 1, 0] rfl)
  exact loop5 (16 + 1) 0 0 (by omega) rfl (by omega) _ (lv_sub hl [2, 3, 4, 1, 0] rfl)
set_option maxHeartbeats 4000000 in
set_option maxRecDepth 100000 in
theorem m_X6_isRefined (l : Launch) (dC : Nat → ClassId) (dI : Nat → Nat → Nat) (am : Nat → Nat) (M : MS) (j t : Nat) (hj : j < 4) (ht : t < 4) (ho : ordM (M.2.1 j)) (ho2 : ordM (M.2.1 t)) : Met l yX6_isRefined wsX6_isRefined ({ frames := 2, cells := 0, slots := 0, locals := 47 } : Room) (va_Pc [.ref (am 0), .int (nI j), .int (nI t)] (PM dC dI am M)) (vp_Si (fun r => r = bI (finerB (cM M j) (cM M t)))) 0 0 (fun _ => False) := by
  refine Met.ofW (cc := cX6_isRefined) (maxL := 5) (ret := (some .boolean)) pl_X6 rfl ?_
  intro p e s m args below meth c s₁ B hml hv
  obtain ⟨rfl, hPX⟩ := hv
  have hx := B.exec
  have hb := B.bytes
  have hr := B.returns
  have hts := atoms_spec (ws := wsX6_isRefined) B.pre
  have hown : s.vm.findClass RX6 = some m.cls := findClass_of_methodNamed B.named
  have hlocks := B.notSynchronized
  have hX := WM.of hPX
  have hl := lv_entry ([.ref (am 0), .int (nI j), .int (nI t)]) (n := 5) (Nat.le_of_ble_eq_true rfl)
  rw [lg_entry_eq]
  generalize (lg_sl ([.ref (am 0), .int (nI j), .int (nI t)]) ++ List.replicate (5 - (lg_sl ([.ref (am 0), .int (nI j), .int (nI t)])).length) Slot.unset).toArray = ls at hl ⊢
  have hl : lv_has ls 5 [(0, .ref (am 0)), (1, .int (nI j)), (2, .int (nI t))] := hl
  show W p l e ({ frames := 2, cells := 0, slots := 0, locals := 47 } : Room) s m ([.ref (am 0), .int (nI j), .int (nI t)]).toArray below meth c s.heap [] 0 0 (MQ below (vp_Si (fun r => r = bI (finerB (cM M j) (cM M t)))) ([.ref (am 0), .int (nI j), .int (nI t)]).toArray s 0 0 (fun _ => False)) (F0 m 0 ls [])
  refine lv_iconst (v := nI 0) hx hb dX6_isRefined_0 (by decide) ?_
  refine lv_istore_n (lv' := [(3, .int (nI 0)), (0, .ref (am 0)), (1, .int (nI j)), (2, .int (nI t))]) hx hb dX6_isRefined_1 rfl hl (by decide) rfl (fun ls hl => ?_)
  have loop2 : ∀ (fuel : Nat) (a : Nat) (ha : a ≤ 16) (hq : ∀ x, x < a → ∀ y, y < 16 → cM M t x < cM M t y → cM M j x < cM M j y), 16 - a < fuel → ∀ ls : Array Slot, lv_has ls 5 [(0, .ref (am 0)), (1, .int (nI j)), (2, .int (nI t)), (3, .int (nI a))] → W p l e ({ frames := 2, cells := 0, slots := 0, locals := 47 } : Room) s m ([.ref (am 0), .int (nI j), .int (nI t)]).toArray below meth c s.heap [] 0 0 (MQ below (vp_Si (fun r => r = bI (finerB (cM M j) (cM M t)))) ([.ref (am 0), .int (nI j), .int (nI t)]).toArray s 0 0 (fun _ => False)) (F0 m 2 ls []) := by
    intro fuel
    induction fuel with
    | zero => intro a ha hq hf; exact absurd hf (Nat.not_lt_zero _)
    | succ fuel ih2 =>
      intro a ha hq hf ls hl
      refine lv_iload_n hx hb dX6_isRefined_2 rfl (lv_at hl 3 rfl) ?_
      refine lv_bipush (v := nI 16) hx hb dX6_isRefined_3 (by decide) ?_
      refine kn_icmp_ge (tgt := 54) hx hb (by omega) (by omega) dX6_isRefined_5 (by decide) (fun k_1 => ?_) (fun k_1 => ?_)
      · skip
        refine lv_iconst (v := nI 1) hx hb dX6_isRefined_54 (by decide) ?_
        exact W.zret (v := bI true) hx hb hr (bI_narrow _) (fun t9 ht9 hW9 => ⟨_, rfl, (kd_t (fun x hx9 y hy9 => hq x (by omega) y hy9)), ht9⟩) (fun _ h => nomatch h) dX6_isRefined_55
      · skip
        refine lv_iconst (v := nI 0) hx hb dX6_isRefined_8 (by decide) ?_
        refine lv_istore (lv' := [(4, .int (nI 0)), (0, .ref (am 0)), (1, .int (nI j)), (2, .int (nI t)), (3, .int (nI a))]) hx hb dX6_isRefined_9 hl (by decide) rfl (fun ls hl => ?_)
        have loop11 : ∀ (fuel : Nat) (b : Nat) (hb3 : b ≤ 16) (hp : ∀ y, y < b → cM M t a < cM M t y → cM M j a < cM M j y), 17 - b < fuel → ∀ ls : Array Slot, lv_has ls 5 [(0, .ref (am 0)), (1, .int (nI j)), (2, .int (nI t)), (3, .int (nI a)), (4, .int (nI b))] → W p l e ({ frames := 2, cells := 0, slots := 0, locals := 47 } : Room) s m ([.ref (am 0), .int (nI j), .int (nI t)]).toArray below meth c s.heap [] 0 0 (MQ below (vp_Si (fun r => r = bI (finerB (cM M j) (cM M t)))) ([.ref (am 0), .int (nI j), .int (nI t)]).toArray s 0 0 (fun _ => False)) (F0 m 11 ls []) := by
          intro fuel
          induction fuel with
          | zero => intro b hb3 hp hf; exact absurd hf (Nat.not_lt_zero _)
          | succ fuel ih11 =>
            intro b hb3 hp hf ls hl
            refine lv_iload hx hb dX6_isRefined_11 (lv_at hl 4 rfl) ?_
            refine lv_bipush (v := nI 16) hx hb dX6_isRefined_13 (by decide) ?_
            refine kn_icmp_ge (tgt := 48) hx hb (by omega) (by omega) dX6_isRefined_15 (by decide) (fun k_2 => ?_) (fun k_2 => ?_)
            · skip
              refine lv_iinc (v := nI (a + 1)) (lv' := [(3, .int (nI (a + 1))), (0, .ref (am 0)), (1, .int (nI j)), (2, .int (nI t)), (4, .int (nI b))]) hx hb dX6_isRefined_48 hl (k := 3) rfl (nI_1 a) (by decide) rfl (fun ls hl => ?_)
              refine lv_goto (tgt := 2) hx hb dX6_isRefined_51 (by decide) ?_
              exact ih2  (a + 1) (by omega) (lt_s hq (fun y hy => hp y (by omega))) (by omega) _ (lv_sub hl [1, 2, 3, 0] rfl)
            · skip
              refine lv_aload_n hx hb dX6_isRefined_18 rfl (lv_at hl 0 rfl) ?_
              refine lv_iload_n hx hb dX6_isRefined_19 rfl (lv_at hl 2 rfl) ?_
              refine lv_iload_n hx hb dX6_isRefined_20 rfl (lv_at hl 3 rfl) ?_
              refine lv_iload hx hb dX6_isRefined_21 (lv_at hl 4 rfl) ?_
              refine kx_cr (v := cmpI (cM M t a) (cM M t b)) (va_runV (As := [.int (nI t), .int (nI a), .int (nI b)]) (rest := []) ⟨hx, hb, hml, hown, hts⟩ (m_X6_compareNow l dC dI am M t a b (by omega) ho2 (by omega) (by omega)) (cwV 3 hts gX6_isRefined_X6_compareNow rfl rfl rfl hdX6_compareNow_3 ⟨Nat.le_of_ble_eq_true rfl, Nat.le_of_ble_eq_true rfl⟩) (hX.preObj) rfl rfl hl.1 rfl (lv_room (Nat.le_of_ble_eq_true rfl)) dX6_isRefined_23 ⟨Nat.le_of_ble_eq_true rfl, Nat.le_of_ble_eq_true rfl⟩) (fun _ h => h) ?_
              refine kc_if_ge (tgt := 42) hx hb dX6_isRefined_26 (by decide) (fun k_3 => ?_) (fun k_3 => ?_)
              · skip
                have h1 := k_3
                refine lv_iinc (v := nI (b + 1)) (lv' := [(4, .int (nI (b + 1))), (0, .ref (am 0)), (1, .int (nI j)), (2, .int (nI t)), (3, .int (nI a))]) hx hb dX6_isRefined_42 hl (k := 4) rfl (nI_1 b) (by decide) rfl (fun ls hl => ?_)
                refine lv_goto (tgt := 11) hx hb dX6_isRefined_45 (by decide) ?_
                exact ih11  (b + 1) (by omega) (lt_s hp (fun h => absurd h (by omega))) (by omega) _ (lv_sub hl [1, 2, 3, 4, 0] rfl)
              · skip
                have h1 := k_3
                refine lv_aload_n hx hb dX6_isRefined_29 rfl (lv_at hl 0 rfl) ?_
                refine lv_iload_n hx hb dX6_isRefined_30 rfl (lv_at hl 1 rfl) ?_
                refine lv_iload_n hx hb dX6_isRefined_31 rfl (lv_at hl 3 rfl) ?_
                refine lv_iload hx hb dX6_isRefined_32 (lv_at hl 4 rfl) ?_
                refine kx_cr (v := cmpI (cM M j a) (cM M j b)) (va_runV (As := [.int (nI j), .int (nI a), .int (nI b)]) (rest := []) ⟨hx, hb, hml, hown, hts⟩ (m_X6_compareNow l dC dI am M j a b (by omega) ho (by omega) (by omega)) (cwV 3 hts gX6_isRefined_X6_compareNow rfl rfl rfl hdX6_compareNow_3 ⟨Nat.le_of_ble_eq_true rfl, Nat.le_of_ble_eq_true rfl⟩) (hX.preObj) rfl rfl hl.1 rfl (lv_room (Nat.le_of_ble_eq_true rfl)) dX6_isRefined_34 ⟨Nat.le_of_ble_eq_true rfl, Nat.le_of_ble_eq_true rfl⟩) (fun _ h => h) ?_
                refine kc_if_lt (tgt := 42) hx hb dX6_isRefined_37 (by decide) (fun k_4 => ?_) (fun k_4 => ?_)
                · skip
                  have h2 := k_4
                  refine lv_iinc (v := nI (b + 1)) (lv' := [(4, .int (nI (b + 1))), (0, .ref (am 0)), (1, .int (nI j)), (2, .int (nI t)), (3, .int (nI a))]) hx hb dX6_isRefined_42 hl (k := 4) rfl (nI_1 b) (by decide) rfl (fun ls hl => ?_)
                  refine lv_goto (tgt := 11) hx hb dX6_isRefined_45 (by decide) ?_
                  exact ih11  (b + 1) (by omega) (lt_s hp (fun _ => h2)) (by omega) _ (lv_sub hl [1, 2, 3, 4, 0] rfl)
                · skip
                  have h2 := k_4
                  refine lv_iconst (v := nI 0) hx hb dX6_isRefined_40 (by decide) ?_
                  exact W.zret (v := bI false) hx hb hr (bI_narrow _) (fun t9 ht9 hW9 => ⟨_, rfl, (kd_f (fun z => absurd (z a (by omega) b (by omega) h1) (by omega))), ht9⟩) (fun _ h => nomatch h) dX6_isRefined_41
        exact loop11 (17 + 1) 0 (by omega) (fun y h => absurd h (Nat.not_lt_zero y)) (by omega) _ (lv_sub hl [1, 2, 3, 4, 0] rfl)
  exact loop2 (16 + 1) 0 (by omega) (fun x h => absurd h (Nat.not_lt_zero x)) (by omega) _ (lv_sub hl [1, 2, 3, 0] rfl)
set_option maxHeartbeats 4000000 in
set_option maxRecDepth 100000 in
theorem m_X6_bothNow (l : Launch) (dC : Nat → ClassId) (dI : Nat → Nat → Nat) (am : Nat → Nat) (M : MS) (j t v u : Nat) (hj : j < 4) (ht : t < 4) (ho : ordM (M.2.1 j)) (ho2 : ordM (M.2.1 t)) (hv : v < 16) (hu : u < 16) : Met l yX6_bothNow wsX6_bothNow ({ frames := 2, cells := 0, slots := 0, locals := 47 } : Room) (va_Pc [.ref (am 0), .int (nI j), .int (nI t), .int (nI v), .int (nI u)] (PM dC dI am M)) (vp_Si (fun r => r = bothI (cM M j v) (cM M j u) (cM M t v) (cM M t u))) 0 0 (fun _ => False) := by
  refine Met.ofW (cc := cX6_bothNow) (maxL := 7) (ret := (some .int)) pl_X6 rfl ?_
  intro p e s m args below meth c s₁ B hml hv
  obtain ⟨rfl, hPX⟩ := hv
  have hx := B.exec
  have hb := B.bytes
  have hr := B.returns
  have hts := atoms_spec (ws := wsX6_bothNow) B.pre
  have hown : s.vm.findClass RX6 = some m.cls := findClass_of_methodNamed B.named
  have hlocks := B.notSynchronized
  have hX := WM.of hPX
  have hl := lv_entry ([.ref (am 0), .int (nI j), .int (nI t), .int (nI v), .int (nI u)]) (n := 7) (Nat.le_of_ble_eq_true rfl)
  rw [lg_entry_eq]
  generalize (lg_sl ([.ref (am 0), .int (nI j), .int (nI t), .int (nI v), .int (nI u)]) ++ List.replicate (7 - (lg_sl ([.ref (am 0), .int (nI j), .int (nI t), .int (nI v), .int (nI u)])).length) Slot.unset).toArray = ls at hl ⊢
  have hl : lv_has ls 7 [(0, .ref (am 0)), (1, .int (nI j)), (2, .int (nI t)), (3, .int (nI v)), (4, .int (nI u))] := hl
  show W p l e ({ frames := 2, cells := 0, slots := 0, locals := 47 } : Room) s m ([.ref (am 0), .int (nI j), .int (nI t), .int (nI v), .int (nI u)]).toArray below meth c s.heap [] 0 0 (MQ below (vp_Si (fun r => r = bothI (cM M j v) (cM M j u) (cM M t v) (cM M t u))) ([.ref (am 0), .int (nI j), .int (nI t), .int (nI v), .int (nI u)]).toArray s 0 0 (fun _ => False)) (F0 m 0 ls [])
  refine lv_aload_n hx hb dX6_bothNow_0 rfl (lv_at hl 0 rfl) ?_
  refine lv_iload_n hx hb dX6_bothNow_1 rfl (lv_at hl 1 rfl) ?_
  refine lv_iload_n hx hb dX6_bothNow_2 rfl (lv_at hl 3 rfl) ?_
  refine lv_iload hx hb dX6_bothNow_3 (lv_at hl 4 rfl) ?_
  refine kx_cr (v := cmpI (cM M j v) (cM M j u)) (va_runV (As := [.int (nI j), .int (nI v), .int (nI u)]) (rest := []) ⟨hx, hb, hml, hown, hts⟩ (m_X6_compareNow l dC dI am M j v u (by omega) ho (by omega) (by omega)) (cwV 3 hts gX6_bothNow_X6_compareNow rfl rfl rfl hdX6_compareNow_3 ⟨Nat.le_of_ble_eq_true rfl, Nat.le_of_ble_eq_true rfl⟩) (hX.preObj) rfl rfl hl.1 rfl (lv_room (Nat.le_of_ble_eq_true rfl)) dX6_bothNow_5 ⟨Nat.le_of_ble_eq_true rfl, Nat.le_of_ble_eq_true rfl⟩) (fun _ h => h) ?_
  refine lv_istore (lv' := [(5, .int (cmpI (cM M j v) (cM M j u))), (0, .ref (am 0)), (1, .int (nI j)), (2, .int (nI t)), (3, .int (nI v)), (4, .int (nI u))]) hx hb dX6_bothNow_8 hl (by decide) rfl (fun ls hl => ?_)
  refine lv_aload_n hx hb dX6_bothNow_10 rfl (lv_at hl 1 rfl) ?_
  refine lv_iload_n hx hb dX6_bothNow_11 rfl (lv_at hl 3 rfl) ?_
  refine lv_iload_n hx hb dX6_bothNow_12 rfl (lv_at hl 4 rfl) ?_
  refine lv_iload hx hb dX6_bothNow_13 (lv_at hl 5 rfl) ?_
  refine kx_cr (v := cmpI (cM M t v) (cM M t u)) (va_runV (As := [.int (nI t), .int (nI v), .int (nI u)]) (rest := []) ⟨hx, hb, hml, hown, hts⟩ (m_X6_compareNow l dC dI am M t v u (by omega) ho2 (by omega) (by omega)) (cwV 3 hts gX6_bothNow_X6_compareNow rfl rfl rfl hdX6_compareNow_3 ⟨Nat.le_of_ble_eq_true rfl, Nat.le_of_ble_eq_true rfl⟩) (hX.preObj) rfl rfl hl.1 rfl (lv_room (Nat.le_of_ble_eq_true rfl)) dX6_bothNow_15 ⟨Nat.le_of_ble_eq_true rfl, Nat.le_of_ble_eq_true rfl⟩) (fun _ h => h) ?_
  refine lv_istore (lv' := [(6, .int (cmpI (cM M t v) (cM M t u))), (5, .int (cmpI (cM M j v) (cM M j u))), (0, .ref (am 0)), (1, .int (nI j)), (2, .int (nI t)), (3, .int (nI v)), (4, .int (nI u))]) hx hb dX6_bothNow_18 hl (by decide) rfl (fun ls hl => ?_)
  refine lv_iload hx hb dX6_bothNow_20 (lv_at hl 1 rfl) ?_
  refine lv_iload hx hb dX6_bothNow_22 (lv_at hl 0 rfl) ?_
  refine lv_imul hx hb dX6_bothNow_24 ?_
  refine lv_if_ge (tgt := 32) hx hb dX6_bothNow_25 (by decide) (fun k_1 => ?_) (fun k_1 => ?_)
  · skip
    have h1 := k_1
    refine lv_iload hx hb dX6_bothNow_32 (lv_at hl 1 rfl) ?_
    refine kc_if_eq (tgt := 42) hx hb dX6_bothNow_34 (by decide) (fun k_2 => ?_) (fun k_2 => ?_)
    · skip
      have h2 := k_2
      refine lv_iload hx hb dX6_bothNow_42 (lv_at hl 0 rfl) ?_
      exact W.iret (v := cmpI (cM M t v) (cM M t u)) hx hb hr (fun t9 ht9 hW9 => ⟨_, rfl, (bothM_y h2), ht9⟩) (fun _ h => nomatch h) dX6_bothNow_44
    · skip
      have h2 := k_2
      refine lv_iload hx hb dX6_bothNow_37 (lv_at hl 1 rfl) ?_
      refine lv_goto (tgt := 44) hx hb dX6_bothNow_39 (by decide) ?_
      exact W.iret (v := cmpI (cM M j v) (cM M j u)) hx hb hr (fun t9 ht9 hW9 => ⟨_, rfl, (bothM_x h1 h2), ht9⟩) (fun _ h => nomatch h) dX6_bothNow_44
  · skip
    have h1 := k_1
    refine lv_iconst (v := nI 2) hx hb dX6_bothNow_28 (by decide) ?_
    refine lv_goto (tgt := 44) hx hb dX6_bothNow_29 (by decide) ?_
    exact W.iret (v := nI 2) hx hb hr (fun t9 ht9 hW9 => ⟨_, rfl, (bothM_2 h1), ht9⟩) (fun _ h => nomatch h) dX6_bothNow_44
set_option maxHeartbeats 4000000 in
set_option maxRecDepth 100000 in
theorem m_X6_apartNow (l : Launch) (dC : Nat → ClassId) (dI : Nat → Nat → Nat) (am : Nat → Nat) (M : MS) (j t : Nat) (hj : j < 4) (ht : t < 4) (ho : ordM (M.2.1 j)) (ho2 : ordM (M.2.1 t)) : Met l yX6_apartNow wsX6_apartNow ({ frames := 3, cells := 0, slots := 0, locals := 73 } : Room) (va_Pc [.ref (am 0), .int (nI j), .int (nI t)] (PM dC dI am M)) (vp_Si (fun r => r = nI (apartM (cM M j) (cM M t)))) 0 0 (fun _ => False) := by
  refine Met.ofW (cc := cX6_apartNow) (maxL := 6) (ret := (some .int)) pl_X6 rfl ?_
  intro p e s m args below meth c s₁ B hml hv
  obtain ⟨rfl, hPX⟩ := hv
  have hx := B.exec
  have hb := B.bytes
  have hr := B.returns
  have hts := atoms_spec (ws := wsX6_apartNow) B.pre
  have hown : s.vm.findClass RX6 = some m.cls := findClass_of_methodNamed B.named
  have hlocks := B.notSynchronized
  have hX := WM.of hPX
  have hl := lv_entry ([.ref (am 0), .int (nI j), .int (nI t)]) (n := 6) (Nat.le_of_ble_eq_true rfl)
  rw [lg_entry_eq]
  generalize (lg_sl ([.ref (am 0), .int (nI j), .int (nI t)]) ++ List.replicate (6 - (lg_sl ([.ref (am 0), .int (nI j), .int (nI t)])).length) Slot.unset).toArray = ls at hl ⊢
  have hl : lv_has ls 6 [(0, .ref (am 0)), (1, .int (nI j)), (2, .int (nI t))] := hl
  show W p l e ({ frames := 3, cells := 0, slots := 0, locals := 73 } : Room) s m ([.ref (am 0), .int (nI j), .int (nI t)]).toArray below meth c s.heap [] 0 0 (MQ below (vp_Si (fun r => r = nI (apartM (cM M j) (cM M t)))) ([.ref (am 0), .int (nI j), .int (nI t)]).toArray s 0 0 (fun _ => False)) (F0 m 0 ls [])
  refine lv_iconst (v := nI 0) hx hb dX6_apartNow_0 (by decide) ?_
  refine lv_istore_n (lv' := [(3, .int (nI 0)), (0, .ref (am 0)), (1, .int (nI j)), (2, .int (nI t))]) hx hb dX6_apartNow_1 rfl hl (by decide) rfl (fun ls hl => ?_)
  refine lv_iconst (v := nI 0) hx hb dX6_apartNow_2 (by decide) ?_
  refine lv_istore (lv' := [(4, .int (nI 0)), (3, .int (nI 0)), (0, .ref (am 0)), (1, .int (nI j)), (2, .int (nI t))]) hx hb dX6_apartNow_3 hl (by decide) rfl (fun ls hl => ?_)
  have loop5 : ∀ (fuel : Nat) (q a : Nat) (ha : a ≤ 16) (hq : q = sumN (apartF (cM M j) (cM M t)) a), 16 - a < fuel → ∀ ls : Array Slot, lv_has ls 6 [(0, .ref (am 0)), (1, .int (nI j)), (2, .int (nI t)), (3, .int (nI q)), (4, .int (nI a))] → W p l e ({ frames := 3, cells := 0, slots := 0, locals := 73 } : Room) s m ([.ref (am 0), .int (nI j), .int (nI t)]).toArray below meth c s.heap [] 0 0 (MQ below (vp_Si (fun r => r = nI (apartM (cM M j) (cM M t)))) ([.ref (am 0), .int (nI j), .int (nI t)]).toArray s 0 0 (fun _ => False)) (F0 m 5 ls []) := by
    intro fuel
    induction fuel with
    | zero => intro q a ha hq hf; exact absurd hf (Nat.not_lt_zero _)
    | succ fuel ih5 =>
      intro q a ha hq hf ls hl
      refine lv_iload hx hb dX6_apartNow_5 (lv_at hl 4 rfl) ?_
      refine lv_bipush (v := nI 16) hx hb dX6_apartNow_7 (by decide) ?_
      refine kn_icmp_ge (tgt := 56) hx hb (by omega) (by omega) dX6_apartNow_9 (by decide) (fun k_1 => ?_) (fun k_1 => ?_)
      · skip
        refine lv_iload_n hx hb dX6_apartNow_56 rfl (lv_at hl 3 rfl) ?_
        exact W.iret (v := nI q) hx hb hr (fun t9 ht9 hW9 => ⟨_, rfl, (by rw [hq, show a = 16 by omega]; rfl), ht9⟩) (fun _ h => nomatch h) dX6_apartNow_57
      · skip
        refine lv_iconst (v := nI 0) hx hb dX6_apartNow_12 (by decide) ?_
        refine lv_istore (lv' := [(5, .int (nI 0)), (0, .ref (am 0)), (1, .int (nI j)), (2, .int (nI t)), (3, .int (nI q)), (4, .int (nI a))]) hx hb dX6_apartNow_13 hl (by decide) rfl (fun ls hl => ?_)
        have loop15 : ∀ (fuel : Nat) (x b : Nat) (hb3 : b ≤ a ∧ a < 16) (hp : x = sumN (apartF (cM M j) (cM M t)) a + cntB (fun b => decide (bothI (cM M j a) (cM M j b) (cM M t a) (cM M t b) = nI 2)) b), 17 - b < fuel → ∀ ls : Array Slot, lv_has ls 6 [(0, .ref (am 0)), (1, .int (nI j)), (2, .int (nI t)), (3, .int (nI x)), (4, .int (nI a)), (5, .int (nI b))] → W p l e ({ frames := 3, cells := 0, slots := 0, locals := 73 } : Room) s m ([.ref (am 0), .int (nI j), .int (nI t)]).toArray below meth c s.heap [] 0 0 (MQ below (vp_Si (fun r => r = nI (apartM (cM M j) (cM M t)))) ([.ref (am 0), .int (nI j), .int (nI t)]).toArray s 0 0 (fun _ => False)) (F0 m 15 ls []) := by
          intro fuel
          induction fuel with
          | zero => intro x b hb3 hp hf; exact absurd hf (Nat.not_lt_zero _)
          | succ fuel ih15 =>
            intro x b hb3 hp hf ls hl
            refine lv_iload hx hb dX6_apartNow_15 (lv_at hl 5 rfl) ?_
            refine lv_iload hx hb dX6_apartNow_17 (lv_at hl 4 rfl) ?_
            refine kn_icmp_ge (tgt := 50) hx hb (by omega) (by omega) dX6_apartNow_19 (by decide) (fun k_2 => ?_) (fun k_2 => ?_)
            · skip
              refine lv_iinc (v := nI (a + 1)) (lv' := [(4, .int (nI (a + 1))), (0, .ref (am 0)), (1, .int (nI j)), (2, .int (nI t)), (3, .int (nI x)), (5, .int (nI b))]) hx hb dX6_apartNow_50 hl (k := 4) rfl (nI_1 a) (by decide) rfl (fun ls hl => ?_)
              refine lv_goto (tgt := 5) hx hb dX6_apartNow_53 (by decide) ?_
              exact ih5  x (a + 1) (by omega) (by rw [hp, show b = a by omega]; rfl) (by omega) _ (lv_sub hl [1, 2, 3, 4, 0] rfl)
            · skip
              refine lv_iload_n hx hb dX6_apartNow_22 rfl (lv_at hl 3 rfl) ?_
              refine lv_aload_n hx hb dX6_apartNow_23 rfl (lv_at hl 0 rfl) ?_
              refine lv_iload_n hx hb dX6_apartNow_24 rfl (lv_at hl 1 rfl) ?_
              refine lv_iload_n hx hb dX6_apartNow_25 rfl (lv_at hl 2 rfl) ?_
              refine lv_iload hx hb dX6_apartNow_26 (lv_at hl 4 rfl) ?_
              refine lv_iload hx hb dX6_apartNow_28 (lv_at hl 5 rfl) ?_
              refine kx_cr (v := (bothI (cM M j a) (cM M j b) (cM M t a) (cM M t b))) (va_runV (As := [.int (nI j), .int (nI t), .int (nI a), .int (nI b)]) (rest := [.int (nI x)]) ⟨hx, hb, hml, hown, hts⟩ (m_X6_bothNow l dC dI am M j t a b (by omega) (by omega) ho ho2 (by omega) (by omega)) (cwV 4 hts gX6_apartNow_X6_bothNow rfl rfl rfl hdX6_bothNow_4 ⟨Nat.le_of_ble_eq_true rfl, Nat.le_of_ble_eq_true rfl⟩) (hX.preObj) rfl rfl hl.1 rfl (lv_room (Nat.le_of_ble_eq_true rfl)) dX6_apartNow_30 ⟨Nat.le_of_ble_eq_true rfl, Nat.le_of_ble_eq_true rfl⟩) (fun _ h => h) ?_
              refine lv_iconst (v := nI 2) hx hb dX6_apartNow_33 (by decide) ?_
              refine lv_icmp_ne (tgt := 41) hx hb dX6_apartNow_34 (by decide) (fun k_3 => ?_) (fun k_3 => ?_)
              · skip
                have hc := k_3
                refine lv_iconst (v := nI 0) hx hb dX6_apartNow_41 (by decide) ?_
                refine kn_iadd hx hb dX6_apartNow_42 ?_
                refine lv_istore_n (lv' := [(3, .int (nI (x + 0))), (0, .ref (am 0)), (1, .int (nI j)), (2, .int (nI t)), (4, .int (nI a)), (5, .int (nI b))]) hx hb dX6_apartNow_43 rfl hl (by decide) rfl (fun ls hl => ?_)
                refine lv_iinc (v := nI (b + 1)) (lv' := [(5, .int (nI (b + 1))), (3, .int (nI (x + 0))), (0, .ref (am 0)), (1, .int (nI j)), (2, .int (nI t)), (4, .int (nI a))]) hx hb dX6_apartNow_44 hl (k := 5) rfl (nI_1 b) (by decide) rfl (fun ls hl => ?_)
                refine lv_goto (tgt := 15) hx hb dX6_apartNow_47 (by decide) ?_
                exact ih15  (x + 0) (b + 1) (by omega) (by rw [hp, cntB_f (decide_eq_false hc)]; rfl) (by omega) _ (lv_sub hl [2, 3, 4, 1, 5, 0] rfl)
              · skip
                have hc := k_3
                refine lv_iconst (v := nI 1) hx hb dX6_apartNow_37 (by decide) ?_
                refine lv_goto (tgt := 42) hx hb dX6_apartNow_38 (by decide) ?_
                refine kn_iadd hx hb dX6_apartNow_42 ?_
                refine lv_istore_n (lv' := [(3, .int (nI (x + 1))), (0, .ref (am 0)), (1, .int (nI j)), (2, .int (nI t)), (4, .int (nI a)), (5, .int (nI b))]) hx hb dX6_apartNow_43 rfl hl (by decide) rfl (fun ls hl => ?_)
                refine lv_iinc (v := nI (b + 1)) (lv' := [(5, .int (nI (b + 1))), (3, .int (nI (x + 1))), (0, .ref (am 0)), (1, .int (nI j)), (2, .int (nI t)), (4, .int (nI a))]) hx hb dX6_apartNow_44 hl (k := 5) rfl (nI_1 b) (by decide) rfl (fun ls hl => ?_)
                refine lv_goto (tgt := 15) hx hb dX6_apartNow_47 (by decide) ?_
                exact ih15  (x + 1) (b + 1) (by omega) (by rw [hp, cntB_t (decide_eq_true hc), Nat.add_assoc]) (by omega) _ (lv_sub hl [2, 3, 4, 1, 5, 0] rfl)
        exact loop15 (17 + 1) q 0 (by omega) (by rw [hq]; rfl) (by omega) _ (lv_sub hl [1, 2, 3, 4, 5, 0] rfl)
  exact loop5 (16 + 1) 0 0 (by omega) rfl (by omega) _ (lv_sub hl [2, 3, 4, 1, 0] rfl)
