/-! THE REFERENCE'S WORLD: 21 cells by index: 0 the object, 1 values, 2 marks, 3 sizes, 4 keys, 5 downs, 6 steps, 7..9 the values of rows, 10..12 the marks of rows, 13..16 the keys of orders, 17..20 the downs of orders -/
abbrev OrdM : Type := (Nat → Nat) × (Nat → Bool) × Nat
abbrev MS : Type := (Nat → RowS) × (Nat → OrdM) × Nat × Nat × Nat × Nat
def mAr (am : Nat → Nat) (n b : Nat) : Nat → Option Nat := fun i => if i < n then some (am (b + i)) else none
theorem mAr_in {am : Nat → Nat} {n b i : Nat} (h : i < n) : mAr am n b i = some (am (b + i)) := if_pos h
def kTopM (dC : Nat → ClassId) (am : Nat → Nat) (M : MS) (k : Nat) : va_E := match k with
  | 0 => .inr (8, [.int (nI M.2.2.1), .ref (am 1), .ref (am 2), .ref (am 3), .ref (am 4), .ref (am 5), .ref (am 6), .int (nI M.2.2.2.1), .int (nI M.2.2.2.2.1), .int (nI M.2.2.2.2.2)])
  | 1 => .inl (dC 25, 3, .inr (.inr (.inr (.inr (mAr am 3 7)))))
  | 2 => .inl (dC 25, 3, .inr (.inr (.inr (.inr (mAr am 3 10)))))
  | 3 => .inl (dC 20, 3, .inl (fun i => nI (M.1 i).2.2))
  | 4 => .inl (dC 25, 4, .inr (.inr (.inr (.inr (mAr am 4 13)))))
  | 5 => .inl (dC 26, 4, .inr (.inr (.inr (.inr (mAr am 4 17)))))
  | _ => .inl (dC 20, 4, .inl (fun j => nI (M.2.1 j).2.2))
def kM (dC : Nat → ClassId) (am : Nat → Nat) (M : MS) (k : Nat) : va_E := if k < 7 then kTopM dC am M k else if k < 10 then .inl (dC 20, 12, .inl (fun q => nI ((M.1 (k - 7)).1 q))) else if k < 13 then .inl (dC 20, 12, .inl (fun q => nI ((M.1 (k - 10)).2.1 q))) else if k < 17 then .inl (dC 20, 5, .inl (fun q => nI ((M.2.1 (k - 13)).1 q))) else .inl (dC 21, 5, .inl (fun q => bI ((M.2.1 (k - 17)).2.1 q)))
def wM (dC : Nat → ClassId) (am : Nat → Nat) (M : MS) : va_W := (List.range 21).map (fun k => (am k, kM dC am M k))
def tyM (dC : Nat → ClassId) : List (ClassId × FieldType) := [(dC 20, .int), (dC 21, .boolean), (dC 25, .array .int), (dC 26, .array .boolean)]
/-- row i becomes r -/
def mR (M : MS) (i : Nat) (r : RowS) : MS := (va_up M.1 i r, M.2)
/-- order j becomes o -/
def mO (M : MS) (j : Nat) (o : OrdM) : MS := (M.1, va_up M.2.1 j o, M.2.2)
/-- the counters: thrown, put, refused, knocks -/
def mN (M : MS) (n : Nat × Nat × Nat × Nat) : MS := (M.1, M.2.1, n)
theorem mR_row (M : MS) (i : Nat) (r : RowS) : (mR M i r).1 i = r := va_up_self _ _ _
theorem mR_ne (M : MS) {i j : Nat} (r : RowS) (h : j ≠ i) : (mR M i r).1 j = M.1 j := va_up_ne _ _ h
theorem mO_ord (M : MS) (i : Nat) (r : OrdM) : (mO M i r).2.1 i = r := va_up_self _ _ _
theorem mO_ne (M : MS) {i j : Nat} (r : OrdM) (h : j ≠ i) : (mO M i r).2.1 j = M.2.1 j := va_up_ne _ _ h
theorem mR_mR (M : MS) (i : Nat) (r r' : RowS) : mR (mR M i r) i r' = mR M i r' := by
  unfold mR
  rw [bx_uu]
theorem mO_mO (M : MS) (i : Nat) (o o' : OrdM) : mO (mO M i o) i o' = mO M i o' := by
  unfold mO
  dsimp only
  rw [bx_uu]
theorem mR_self (M : MS) (i : Nat) : mR M i (M.1 i) = M := by
  unfold mR
  have h : va_up M.1 i (M.1 i) = M.1 := by
    funext j
    unfold va_up
    split
    · rename_i h; rw [h]
    · rfl
  rw [h]
theorem mO_self (M : MS) (i : Nat) : mO M i (M.2.1 i) = M := by
  unfold mO
  have h : va_up M.2.1 i (M.2.1 i) = M.2.1 := by
    funext j
    unfold va_up
    split
    · rename_i h; rw [h]
    · rfl
  rw [h]
theorem kM_v {dC : Nat → ClassId} {am : Nat → Nat} {M : MS} {i : Nat} (hi : i < 3) : kM dC am M (7 + i) = .inl (dC 20, 12, .inl (fun q => nI ((M.1 i).1 q))) := by
  rw [kM, if_neg (by omega), if_pos (by omega), show 7 + i - 7 = i by omega]
theorem kM_m {dC : Nat → ClassId} {am : Nat → Nat} {M : MS} {i : Nat} (hi : i < 3) : kM dC am M (10 + i) = .inl (dC 20, 12, .inl (fun q => nI ((M.1 i).2.1 q))) := by
  rw [kM, if_neg (by omega), if_neg (by omega), if_pos (by omega), show 10 + i - 10 = i by omega]
theorem kM_k {dC : Nat → ClassId} {am : Nat → Nat} {M : MS} {j : Nat} (hj : j < 4) : kM dC am M (13 + j) = .inl (dC 20, 5, .inl (fun q => nI ((M.2.1 j).1 q))) := by
  rw [kM, if_neg (by omega), if_neg (by omega), if_neg (by omega), if_pos (by omega), show 13 + j - 13 = j by omega]
theorem kM_d {dC : Nat → ClassId} {am : Nat → Nat} {M : MS} {j : Nat} (_ : j < 4) : kM dC am M (17 + j) = .inl (dC 21, 5, .inl (fun q => bI ((M.2.1 j).2.1 q))) := by
  rw [kM, if_neg (by omega), if_neg (by omega), if_neg (by omega), if_neg (by omega), show 17 + j - 17 = j by omega]
theorem kM_mR {dC : Nat → ClassId} {am : Nat → Nat} {M : MS} {i j : Nat} {r : RowS} (hi : i < 3) (h3 : j = 3 → r.2.2 = (M.1 i).2.2) (h7 : j = 7 + i → r.1 = (M.1 i).1) (h10 : j = 10 + i → r.2.1 = (M.1 i).2.1) : kM dC am (mR M i r) j = kM dC am M j := by
  by_cases a : j < 7
  · rw [kM, kM, if_pos a, if_pos a]
    by_cases e : j = 3
    · subst e
      have hf : (fun k => nI ((mR M i r).1 k).2.2) = fun k => nI (M.1 k).2.2 := by
        funext k
        by_cases hk : k = i
        · subst hk
          rw [mR_row, h3 rfl]
        · rw [mR_ne _ _ hk]
      show (Sum.inl _ : va_E) = Sum.inl _
      rw [hf]
    · rcases (show j = 0 ∨ j = 1 ∨ j = 2 ∨ j = 4 ∨ j = 5 ∨ j = 6 by omega) with rfl | rfl | rfl | rfl | rfl | rfl <;> rfl
  · by_cases b : j < 10
    · obtain ⟨k, hk, rfl⟩ : ∃ k, k < 3 ∧ j = 7 + k := ⟨j - 7, by omega, by omega⟩
      rw [kM_v hk, kM_v hk]
      by_cases e : k = i
      · subst e
        rw [mR_row, h7 rfl]
      · rw [mR_ne _ _ e]
    · by_cases d : j < 13
      · obtain ⟨k, hk, rfl⟩ : ∃ k, k < 3 ∧ j = 10 + k := ⟨j - 10, by omega, by omega⟩
        rw [kM_m hk, kM_m hk]
        by_cases e : k = i
        · subst e
          rw [mR_row, h10 rfl]
        · rw [mR_ne _ _ e]
      · rw [kM, kM, if_neg a, if_neg a, if_neg b, if_neg b, if_neg d, if_neg d]
        rfl
theorem kM_mO {dC : Nat → ClassId} {am : Nat → Nat} {M : MS} {i j : Nat} {o : OrdM} (hi : i < 4) (h6 : j = 6 → o.2.2 = (M.2.1 i).2.2) (h13 : j = 13 + i → o.1 = (M.2.1 i).1) (h17 : j = 17 + i → o.2.1 = (M.2.1 i).2.1) (hj : j < 21) : kM dC am (mO M i o) j = kM dC am M j := by
  by_cases a : j < 7
  · rw [kM, kM, if_pos a, if_pos a]
    by_cases e : j = 6
    · subst e
      have hf : (fun k => nI ((mO M i o).2.1 k).2.2) = fun k => nI (M.2.1 k).2.2 := by
        funext k
        by_cases hk : k = i
        · subst hk
          rw [mO_ord, h6 rfl]
        · rw [mO_ne _ _ hk]
      show (Sum.inl _ : va_E) = Sum.inl _
      rw [hf]
    · rcases (show j = 0 ∨ j = 1 ∨ j = 2 ∨ j = 3 ∨ j = 4 ∨ j = 5 by omega) with rfl | rfl | rfl | rfl | rfl | rfl <;> rfl
  · by_cases b : j < 13
    · by_cases d : j < 10
      · rw [kM, kM, if_neg a, if_neg a, if_pos d, if_pos d]
        rfl
      · rw [kM, kM, if_neg a, if_neg a, if_neg d, if_neg d, if_pos b, if_pos b]
        rfl
    · by_cases d : j < 17
      · obtain ⟨k, hk, rfl⟩ : ∃ k, k < 4 ∧ j = 13 + k := ⟨j - 13, by omega, by omega⟩
        rw [kM_k hk, kM_k hk]
        by_cases e : k = i
        · subst e
          rw [mO_ord, h13 rfl]
        · rw [mO_ne _ _ e]
      · obtain ⟨k, hk, rfl⟩ : ∃ k, k < 4 ∧ j = 17 + k := ⟨j - 17, by omega, by omega⟩
        rw [kM_d hk, kM_d hk]
        by_cases e : k = i
        · subst e
          rw [mO_ord, h17 rfl]
        · rw [mO_ne _ _ e]
theorem kM_mN {dC : Nat → ClassId} {am : Nat → Nat} {M : MS} {n : Nat × Nat × Nat × Nat} {j : Nat} (hj : j ≠ 0) : kM dC am (mN M n) j = kM dC am M j := by
  by_cases a : j < 7
  · rw [kM, kM, if_pos a, if_pos a]
    rcases (show j = 1 ∨ j = 2 ∨ j = 3 ∨ j = 4 ∨ j = 5 ∨ j = 6 by omega) with rfl | rfl | rfl | rfl | rfl | rfl <;> rfl
  · rw [kM, kM, if_neg a, if_neg a]
    rfl
theorem wM_get {dC : Nat → ClassId} {am : Nat → Nat} {M : MS} {k : Nat} (hk : k < 21) : (wM dC am M)[k]? = some (am k, kM dC am M k) := by
  rw [wM, List.getElem?_map, List.getElem?_range hk]
  rfl
theorem wM_len {dC : Nat → ClassId} {am : Nat → Nat} {M : MS} : (wM dC am M).length = 21 := by rw [wM, List.length_map, List.length_range]
theorem wL_get {dC : Nat → ClassId} {am : Nat → Nat} {M : MS} {L : va_W} {k : Nat} (hk : k < 21) : (wM dC am M ++ L)[k]? = some (am k, kM dC am M k) := by
  rw [List.getElem?_append_left (by rw [wM_len]; exact hk), wM_get hk]
theorem wL_loc {dC : Nat → ClassId} {am : Nat → Nat} {M : MS} {L : va_W} {j : Nat} : (wM dC am M ++ L)[21 + j]? = L[j]? := by
  rw [List.getElem?_append_right (by rw [wM_len]; omega), wM_len, Nat.add_sub_cancel_left]
theorem wM_top {dC : Nat → ClassId} {am : Nat → Nat} {M : MS} {L : va_W} {k : Nat} (hk : k < 7) : (wM dC am M ++ L)[k]? = some (am k, kTopM dC am M k) := by
  rw [wL_get (by omega), kM, if_pos hk]
theorem wM_v {dC : Nat → ClassId} {am : Nat → Nat} {M : MS} {L : va_W} {i : Nat} (hi : i < 3) : (wM dC am M ++ L)[7 + i]? = some (am (7 + i), .inl (dC 20, 12, .inl (fun q => nI ((M.1 i).1 q)))) := by
  rw [wL_get (by omega), kM_v hi]
theorem wM_m {dC : Nat → ClassId} {am : Nat → Nat} {M : MS} {L : va_W} {i : Nat} (hi : i < 3) : (wM dC am M ++ L)[10 + i]? = some (am (10 + i), .inl (dC 20, 12, .inl (fun q => nI ((M.1 i).2.1 q)))) := by
  rw [wL_get (by omega), kM_m hi]
theorem wM_k {dC : Nat → ClassId} {am : Nat → Nat} {M : MS} {L : va_W} {j : Nat} (hj : j < 4) : (wM dC am M ++ L)[13 + j]? = some (am (13 + j), .inl (dC 20, 5, .inl (fun q => nI ((M.2.1 j).1 q)))) := by
  rw [wL_get (by omega), kM_k hj]
theorem wM_d {dC : Nat → ClassId} {am : Nat → Nat} {M : MS} {L : va_W} {j : Nat} (hj : j < 4) : (wM dC am M ++ L)[17 + j]? = some (am (17 + j), .inl (dC 21, 5, .inl (fun q => bI ((M.2.1 j).2.1 q)))) := by
  rw [wL_get (by omega), kM_d hj]
theorem wM_set {dC : Nat → ClassId} {am : Nat → Nat} {M M' : MS} {k : Nat} {e : va_E} (he : kM dC am M' k = e) (h : ∀ j, j < 21 → j ≠ k → kM dC am M' j = kM dC am M j) : (wM dC am M).set k (am k, e) = wM dC am M' := by
  apply List.ext_getElem?
  intro j
  by_cases hj : j < 21
  · rw [wM_get hj, List.getElem?_set]
    by_cases hkj : k = j
    · subst hkj
      rw [if_pos rfl, if_pos (by rw [wM, List.length_map, List.length_range]; exact hj), he]
    · rw [if_neg hkj, wM_get hj, h j hj (Ne.symm hkj)]
  · rw [List.getElem?_eq_none (by rw [List.length_set, wM, List.length_map, List.length_range]; omega), List.getElem?_eq_none (by rw [wM, List.length_map, List.length_range]; omega)]
theorem wL_set {dC : Nat → ClassId} {am : Nat → Nat} {M M' : MS} {L : va_W} {k : Nat} {e : va_E} (hk : k < 21) (he : kM dC am M' k = e) (h : ∀ j, j < 21 → j ≠ k → kM dC am M' j = kM dC am M j) : (wM dC am M ++ L).set k (am k, e) = wM dC am M' ++ L := by
  rw [List.set_append_left _ _ (by rw [wM_len]; exact hk), wM_set he h]
theorem wM_setV {dC : Nat → ClassId} {am : Nat → Nat} {M : MS} {L : va_W} {i : Nat} {f : Nat → Nat} (hi : i < 3) : (wM dC am M ++ L).set (7 + i) (am (7 + i), .inl (dC 20, 12, .inl (fun q => nI (f q)))) = wM dC am (mR M i (f, (M.1 i).2)) ++ L :=
  wL_set (by omega) (by rw [kM_v hi, mR_row]) (fun j _ hne => kM_mR hi (fun _ => rfl) (fun e => absurd e hne) (fun _ => rfl))
theorem wM_setM {dC : Nat → ClassId} {am : Nat → Nat} {M : MS} {L : va_W} {i : Nat} {f : Nat → Nat} (hi : i < 3) : (wM dC am M ++ L).set (10 + i) (am (10 + i), .inl (dC 20, 12, .inl (fun q => nI (f q)))) = wM dC am (mR M i ((M.1 i).1, f, (M.1 i).2.2)) ++ L :=
  wL_set (by omega) (by rw [kM_m hi, mR_row]) (fun j _ hne => kM_mR hi (fun _ => rfl) (fun _ => rfl) (fun e => absurd e hne))
theorem wM_setZ {dC : Nat → ClassId} {am : Nat → Nat} {M : MS} {L : va_W} {i n : Nat} (hi : i < 3) : (wM dC am M ++ L).set 3 (am 3, .inl (dC 20, 3, .inl (fun q => nI (va_up (fun k => (M.1 k).2.2) i n q)))) = wM dC am (mR M i ((M.1 i).1, (M.1 i).2.1, n)) ++ L := by
  refine wL_set (by decide) ?_ (fun j _ hne => kM_mR hi (fun e => absurd e hne) (fun _ => rfl) (fun _ => rfl))
  have hf : (fun k => nI ((mR M i ((M.1 i).1, (M.1 i).2.1, n)).1 k).2.2) = fun q => nI (va_up (fun k => (M.1 k).2.2) i n q) := by
    funext k
    by_cases hk : k = i
    · subst hk
      rw [mR_row, va_up_self]
    · rw [mR_ne _ _ hk, va_up_ne _ _ hk]
  rw [← hf]
  rfl
theorem wM_setK {dC : Nat → ClassId} {am : Nat → Nat} {M : MS} {L : va_W} {i : Nat} {f : Nat → Nat} (hi : i < 4) : (wM dC am M ++ L).set (13 + i) (am (13 + i), .inl (dC 20, 5, .inl (fun q => nI (f q)))) = wM dC am (mO M i (f, (M.2.1 i).2)) ++ L :=
  wL_set (by omega) (by rw [kM_k hi, mO_ord]) (fun j hj hne => kM_mO hi (fun _ => rfl) (fun e => absurd e hne) (fun _ => rfl) hj)
theorem wM_setD {dC : Nat → ClassId} {am : Nat → Nat} {M : MS} {L : va_W} {i : Nat} {f : Nat → Bool} (hi : i < 4) : (wM dC am M ++ L).set (17 + i) (am (17 + i), .inl (dC 21, 5, .inl (fun q => bI (f q)))) = wM dC am (mO M i ((M.2.1 i).1, f, (M.2.1 i).2.2)) ++ L :=
  wL_set (by omega) (by rw [kM_d hi, mO_ord]) (fun j hj hne => kM_mO hi (fun _ => rfl) (fun _ => rfl) (fun e => absurd e hne) hj)
theorem wM_setT {dC : Nat → ClassId} {am : Nat → Nat} {M : MS} {L : va_W} {i n : Nat} (hi : i < 4) : (wM dC am M ++ L).set 6 (am 6, .inl (dC 20, 4, .inl (fun q => nI (va_up (fun k => (M.2.1 k).2.2) i n q)))) = wM dC am (mO M i ((M.2.1 i).1, (M.2.1 i).2.1, n)) ++ L := by
  refine wL_set (by decide) ?_ (fun j hj hne => kM_mO hi (fun e => absurd e hne) (fun _ => rfl) (fun _ => rfl) hj)
  have hf : (fun k => nI ((mO M i ((M.2.1 i).1, (M.2.1 i).2.1, n)).2.1 k).2.2) = fun q => nI (va_up (fun k => (M.2.1 k).2.2) i n q) := by
    funext k
    by_cases hk : k = i
    · subst hk
      rw [mO_ord, va_up_self]
    · rw [mO_ne _ _ hk, va_up_ne _ _ hk]
  rw [← hf]
  rfl
theorem wM_setN {dC : Nat → ClassId} {am : Nat → Nat} {M : MS} {L : va_W} {n : Nat × Nat × Nat × Nat} : (wM dC am M ++ L).set 0 (am 0, kTopM dC am (mN M n) 0) = wM dC am (mN M n) ++ L :=
  wL_set (by decide) rfl (fun j _ hne => kM_mN hne)
/-- what a method of the reference may write -/
def AM (am : Nat → Nat) : Nat → Prop := fun q => ∃ k, k < 21 ∧ q = am k
theorem wM_in {dC : Nat → ClassId} {am : Nat → Nat} {M : MS} (k : Nat) (q : Nat × va_E) (h : (wM dC am M)[k]? = some q) : k < 21 ∧ q.1 = am k := by
  have hk : k < 21 := by
    have := (List.getElem?_eq_some_iff.mp h).1
    rw [wM, List.length_map, List.length_range] at this
    exact this
  rw [wM_get hk] at h
  cases h
  exact ⟨hk, rfl⟩
def PM (dC : Nat → ClassId) (dI : Nat → Nat → Nat) (am : Nat → Nat) (M : MS) (U : State) : Prop := va_P (dC, dI) vwCl (wM dC am M) U.heap ∧ va_K (dC, dI) vwCl (tyM dC) U ∧ va_D (AM am) (wM dC am M)
/-- what a method that makes cells may write -/
def AY (am : Nat → Nat) (z q : Nat) : Prop := AM am q ∨ zB z q
def WM (dC : Nat → ClassId) (dI : Nat → Nat → Nat) (am : Nat → Nat) (M : MS) (L : va_W) (A : Nat → Prop) (s : State) (H : Heap) (locs : List Loc) : Prop := va_P (dC, dI) vwCl (wM dC am M ++ L) H ∧ va_K (dC, dI) vwCl (tyM dC) s ∧ va_D A (wM dC am M ++ L) ∧ va_S A s.heap H locs
section KM0
variable {dC : Nat → ClassId} {dI : Nat → Nat → Nat} {am : Nat → Nat} {M : MS} {L : va_W} {A : Nat → Prop} {s U : State} {H : Heap} {locs : List Loc}
theorem WM.of (h : PM dC dI am M s) : WM dC dI am M [] (AM am) s s.heap [] := ⟨by rw [List.append_nil]; exact h.1, h.2.1, by rw [List.append_nil]; exact h.2.2, va_S.rf⟩
theorem WM.ofY (h : PM dC dI am M s) : WM dC dI am M [] (AY am s.heap.size) s s.heap [] := ⟨by rw [List.append_nil]; exact h.1, h.2.1, by rw [List.append_nil]; exact h.2.2.weaken (fun _ _ _ h => Or.inl h), va_S.rf⟩
theorem PM.call {a : Array Value} {g : JFrame} {mk : MethodId} (h : PM dC dI am M U) : PM dC dI am M (U.calling g mk a) := ⟨h.1, va_K.moved (u := U) (U := U.calling g mk a) (Vm.Alike.refl U.vm) h.2.1, h.2.2⟩
theorem PM.blind {av : List Value} : FrameBlind (va_Pc av (PM dC dI am M)) := fun _ _ _ _ h => ⟨h.1, h.2.call⟩
theorem wM_old {k : Nat} {q : Nat × va_E} (h : (wM dC am M)[k]? = some q) : (wM dC am M ++ L)[k]? = some q := by
  rw [List.getElem?_append_left (by rw [wM_len]; exact (wM_in k q h).1)]
  exact h
theorem WM.D (h : WM dC dI am M L A s H locs) : va_D (AM am) (wM dC am M) := ⟨fun i j p q hi hj e => h.2.2.1.1 i j p q (wM_old hi) (wM_old hj) e, fun k q hk => ⟨k, (wM_in k q hk).1, (wM_in k q hk).2⟩⟩
theorem WM.P (h : WM dC dI am M L A s H locs) (hU : U.heap = H) (hW : s.WarmedH U.vm) : PM dC dI am M U := ⟨by rw [hU]; exact fun k q hk => h.1 k q (wM_old hk), va_K.moved hW.alike h.2.1, h.D⟩
theorem WM.preObj (h : WM dC dI am M L A s H locs) {As : List Value} : PreV s H RX6 (am 0) (va_Pc (Value.ref (am 0) :: As) (PM dC dI am M)) As :=
  ⟨PM.blind, va_recv h.2.1 h.1 (ci := 8) (q0 := 0) rfl (wM_top (by decide)), fun _ hU hW => ⟨rfl, h.P hU hW⟩⟩
theorem WM.preS (h : WM dC dI am M L A s H locs) {As : List Value} : PreS s H (va_Pc As (PM dC dI am M)) As :=
  ⟨PM.blind, fun _ hU hW => ⟨rfl, h.P hU hW⟩⟩
theorem WM.eqS {M' : MS} (e : M = M') (h : WM dC dI am M L A s H locs) : WM dC dI am M' L A s H locs := e ▸ h
theorem WM.eqL {L' : va_W} (e : L = L') (h : WM dC dI am M L A s H locs) : WM dC dI am M L' A s H locs := e ▸ h
theorem WM.to {M' : MS} {ws : va_W} (he : ws = wM dC am M' ++ L) {H1 : Heap} {locs1 : List Loc} (hX : WM dC dI am M L A s H locs) (h1 : va_P (dC, dI) vwCl ws H1) (h2 : va_D A ws) (h3 : va_S A s.heap H1 locs1) : WM dC dI am M' L A s H1 locs1 := by
  subst he
  exact ⟨h1, hX.2.1, h2, h3⟩
theorem WM.toL {L' : va_W} {ws : va_W} (he : ws = wM dC am M ++ L') {H1 : Heap} {locs1 : List Loc} (hX : WM dC dI am M L A s H locs) (h1 : va_P (dC, dI) vwCl ws H1) (h2 : va_D A ws) (h3 : va_S A s.heap H1 locs1) : WM dC dI am M L' A s H1 locs1 := by
  subst he
  exact ⟨h1, hX.2.1, h2, h3⟩
/-- the addresses of the world's cells don't hang on what stands in them -/
theorem wM_addr {M M1 : MS} {k : Nat} {q : Nat × va_E} (h : (wM dC am M1 ++ L)[k]? = some q) : ∃ q', (wM dC am M ++ L)[k]? = some q' ∧ q'.1 = q.1 := by
  by_cases hk : k < 21
  · rw [wL_get hk] at h
    cases h
    exact ⟨_, wL_get hk, rfl⟩
  · obtain ⟨j, rfl⟩ : ∃ j, k = 21 + j := ⟨k - 21, by omega⟩
    rw [wL_loc] at h
    exact ⟨q, by rw [wL_loc]; exact h, rfl⟩
theorem wM_D {M M1 : MS} (h : va_D A (wM dC am M ++ L)) : va_D A (wM dC am M1 ++ L) := ⟨fun i j p q hi hj e => by
    obtain ⟨p', h1, e1⟩ := wM_addr (M := M) hi
    obtain ⟨q', h2, e2⟩ := wM_addr (M := M) hj
    exact h.1 i j p' q' h1 h2 (by rw [e1, e2, e]), fun k q hk => by
    obtain ⟨q', h1, e1⟩ := wM_addr (M := M) hk
    rw [← e1]
    exact h.2 k q' h1⟩
end KM0
section KM
variable {p : Program} {l : Launch} {e : Env} {R : Room} {s : State} {m : MethodId} {args : Array Value} {below : List Frame} {meth : Method} {c : Code} {H : Heap} {locs : List Loc} {cells slots mc ms : Nat} {Q : State → Prop}
variable {cc : ByteArray} {pc : Nat} {ls : Array Slot} {rest st0 : List Value} {a : Array Value} {A : Nat → Prop} {dC : Nat → ClassId} {dI : Nat → Nat → Nat} {am : Nat → Nat} {M : MS} {L : va_W} {Ts : List Cond} {index : Nat} {i k v n : Nat} {z : Bool}
theorem km_back {M1 : MS} {t : State} {H1 : Heap} {locs1 : List Loc} (hX : WM dC dI am M L A s H locs) (ht : t.heap = H1) (hB : PM dC dI am M1 t) (hk : ∀ q, q < H.size → ¬ AM am q → H1[q]? = H[q]?) (hS : va_S A s.heap H1 locs1) : WM dC dI am M1 L A s H1 locs1 := by
  have hD1 : va_D A (wM dC am M1 ++ L) := wM_D hX.2.2.1
  refine ⟨fun k q hq => ?_, hX.2.1, hD1, hS⟩
  by_cases h : k < 21
  · rw [wL_get h] at hq
    rw [← ht]
    exact hB.1 k q (by rw [wM_get h]; exact hq)
  · obtain ⟨j, rfl⟩ : ∃ j, k = 21 + j := ⟨k - 21, by omega⟩
    have hq0 : (wM dC am M ++ L)[21 + j]? = some q := by rw [wL_loc]; rw [wL_loc] at hq; exact hq
    refine (hX.1 _ q hq0).kept (hk q.1 ((hX.1 _ q hq0).lt) ?_)
    rintro ⟨k9, hk9, e9⟩
    have := hX.2.2.1.1 (21 + j) k9 q _ hq0 (wL_get hk9) e9
    omega
theorem km_cv {post : MS → Prop} (hr : va_Run p l e R s m args below meth c H locs cells slots 0 0 (F0 m pc ls st0) rest (va_Qv post (PM dC dI am) (AM am) a) (AM am)) (hX : WM dC dI am M L A s H locs) (hA : ∀ q, AM am q → A q) (kk : ∀ (M1 : MS) (H1 : Heap) (locs1 : List Loc), post M1 → WM dC dI am M1 L A s H1 locs1 → W p l e R s m args below meth c H1 locs1 cells slots Q (F0 m (pc + 3) ls rest)) : W p l e R s m args below meth c H locs cells slots Q (F0 m pc ls st0) :=
  va_callv hr hX.2.2.2 (fun q _ h => hA q h) hA (fun u t H1 locs1 ht hvm hp hB _ hk hS => kk u H1 locs1 hp (km_back hX ht hB hk hS))
theorem km_ci {post : Int32 → MS → Prop} (hr : va_Run p l e R s m args below meth c H locs cells slots 0 0 (F0 m pc ls st0) rest (va_Qi post (PM dC dI am) (AM am) a) (AM am)) (hX : WM dC dI am M L A s H locs) (hA : ∀ q, AM am q → A q) (kk : ∀ (r : Int32) (M1 : MS) (H1 : Heap) (locs1 : List Loc), post r M1 → WM dC dI am M1 L A s H1 locs1 → W p l e R s m args below meth c H1 locs1 cells slots Q (F0 m (pc + 3) ls (.int r :: rest))) : W p l e R s m args below meth c H locs cells slots Q (F0 m pc ls st0) :=
  va_calli hr hX.2.2.2 (fun q _ h => hA q h) hA (fun r u t H1 locs1 ht hvm hp hB _ hk hS => kk r u H1 locs1 hp (km_back hX ht hB hk hS))
theorem km_ciM {post : Int32 → MS → Prop} (hr : va_Run p l e R s m args below meth c H locs cells slots mc ms (F0 m pc ls st0) rest (va_Qi post (PM dC dI am) (AM am) a) (AM am)) (hX : WM dC dI am M L A s H locs) (hA : ∀ q, AM am q → A q) (kk : ∀ (r : Int32) (M1 : MS) (H1 : Heap) (locs1 : List Loc), post r M1 → WM dC dI am M1 L A s H1 locs1 → W p l e R s m args below meth c H1 locs1 (cells + mc) (slots + ms) Q (F0 m (pc + 3) ls (.int r :: rest))) : W p l e R s m args below meth c H locs cells slots Q (F0 m pc ls st0) :=
  va_calli hr hX.2.2.2 (fun q _ h => hA q h) hA (fun r u t H1 locs1 ht hvm hp hB _ hk hS => kk r u H1 locs1 hp (km_back hX ht hB hk hS))
/-- an element of an array of arrays -/
theorem va_aldA (hexec : p.tables.exec = Jvm.exec) (hb : c.code = cc) {D : va_G} {cl : List vw_C} {tys : List (ClassId × FieldType)} {ws : va_W} {a : Nat} (hK : va_K D cl tys s) (hP : va_P D cl ws H) (q0 t0 : Nat) {cA : ClassId} {ty : FieldType} {n : Nat} {f : Nat → Option Nat} (ha : ws[q0]? = some (a, .inl (cA, n, .inr (.inr (.inr (.inr f)))))) (ht : tys[t0]? = some (cA, .array ty)) {i : Int32} (hin : vp_in i n) (hdg : decode cc pc = .ok (.aaload, 1))
    (kk : W p l e R s m args below meth c H locs cells slots Q (F0 m (pc + 1) ls (va_rf (f i.toNatClampNeg) :: rest))) : W p l e R s m args below meth c H locs cells slots Q (F0 m pc ls (.int i :: .ref a :: rest)) := by
  have hlt : i.toNatClampNeg < n := Nat.not_le.mp fun q => hin (Or.inr q)
  exact W.aald (v := va_rf (f i.toNatClampNeg)) (ty := .array ty) hexec hb (hP q0 _ ha) ((hK.2 t0 _ ht).1 n (fun j => va_rf (f j))) rfl (fun q => by cases q) (by show ¬ (i < 0 ∨ (arrV _ _ _).slots.size ≤ _); rw [arrV_size]; exact hin) (by show (arrV _ _ _).slots[_]? = _; rw [arrV_read _ _ hlt]) rfl rfl hdg kk
theorem km_gthrown (hx : p.tables.exec = Jvm.exec) (hb : c.code = cc) (hts : ∀ w ∈ Ts, w.before args s = true) (hin : ∀ w ∈ u_ws RX6 TX6 10, w ∈ Ts) (hown : s.vm.findClass RX6 = some m.cls) (hX : WM dC dI am M L A s H locs) (hn : M.2.2.1 = n) (hlink : (Cond.fieldLink RX6 index "OrderlatticeModel" "thrown" "I").before args s = true) (hdg : decode cc pc = .ok (.getfield index, 3)) (kk : W p l e R s m args below meth c H locs cells slots Q (F0 m (pc + 3) ls (.int (nI n) :: rest))) : W p l e R s m args below meth c H locs cells slots Q (F0 m pc ls (.ref (am 0) :: rest)) :=
  va_get (D := (dC, dI)) (ci := 8) (C := RX6) (T := TX6) (N := 10) hx hb hts hin hown hX.2.1 hX.1 0 (wM_top (by decide)) rfl 0 (by decide) hlink (fun _ h => h) rfl hdg (by rw [hn]; exact kk)
theorem km_pthrown (hx : p.tables.exec = Jvm.exec) (hb : c.code = cc) (hts : ∀ w ∈ Ts, w.before args s = true) (hin : ∀ w ∈ u_ws RX6 TX6 10, w ∈ Ts) (hown : s.vm.findClass RX6 = some m.cls) (hX : WM dC dI am M L A s H locs) {M' : MS} (hS' : mN M (n, M.2.2.2) = M') (hlink : (Cond.fieldLink RX6 index "OrderlatticeModel" "thrown" "I").before args s = true) (hdg : decode cc pc = .ok (.putfield index, 3)) (kk : ∀ (H1 : Heap) (locs1 : List Loc), WM dC dI am M' L A s H1 locs1 → W p l e R s m args below meth c H1 locs1 cells slots Q (F0 m (pc + 3) ls rest)) : W p l e R s m args below meth c H locs cells slots Q (F0 m pc ls (.int (nI n) :: .ref (am 0) :: rest)) := by
  refine va_put (D := (dC, dI)) (ci := 8) (ty := .int) (C := RX6) (T := TX6) (N := 10) hx hb hts hin tyX6 tyX6_ok nmX6 hown hX.2.1 hX.1 hX.2.2.1 hX.2.2.2 0 (wM_top (by decide)) rfl 0 (by decide) hlink (fun _ h => h) rfl (by decide +kernel) rfl rfl (Nat.le_of_ble_eq_true rfl) hdg (fun H1 locs1 hP hD hS => kk H1 locs1 (WM.to ?_ hX hP hD hS))
  rw [← hS']
  exact wM_setN (n := (n, M.2.2.2))
theorem km_gvalues (hx : p.tables.exec = Jvm.exec) (hb : c.code = cc) (hts : ∀ w ∈ Ts, w.before args s = true) (hin : ∀ w ∈ u_ws RX6 TX6 10, w ∈ Ts) (hown : s.vm.findClass RX6 = some m.cls) (hX : WM dC dI am M L A s H locs)  (hlink : (Cond.fieldLink RX6 index "OrderlatticeModel" "values" "[[I").before args s = true) (hdg : decode cc pc = .ok (.getfield index, 3)) (kk : W p l e R s m args below meth c H locs cells slots Q (F0 m (pc + 3) ls (.ref (am 1) :: rest))) : W p l e R s m args below meth c H locs cells slots Q (F0 m pc ls (.ref (am 0) :: rest)) :=
  va_get (D := (dC, dI)) (ci := 8) (C := RX6) (T := TX6) (N := 10) hx hb hts hin hown hX.2.1 hX.1 0 (wM_top (by decide)) rfl 1 (by decide) hlink (fun _ h => h) rfl hdg kk
theorem km_gmarks (hx : p.tables.exec = Jvm.exec) (hb : c.code = cc) (hts : ∀ w ∈ Ts, w.before args s = true) (hin : ∀ w ∈ u_ws RX6 TX6 10, w ∈ Ts) (hown : s.vm.findClass RX6 = some m.cls) (hX : WM dC dI am M L A s H locs)  (hlink : (Cond.fieldLink RX6 index "OrderlatticeModel" "marks" "[[I").before args s = true) (hdg : decode cc pc = .ok (.getfield index, 3)) (kk : W p l e R s m args below meth c H locs cells slots Q (F0 m (pc + 3) ls (.ref (am 2) :: rest))) : W p l e R s m args below meth c H locs cells slots Q (F0 m pc ls (.ref (am 0) :: rest)) :=
  va_get (D := (dC, dI)) (ci := 8) (C := RX6) (T := TX6) (N := 10) hx hb hts hin hown hX.2.1 hX.1 0 (wM_top (by decide)) rfl 2 (by decide) hlink (fun _ h => h) rfl hdg kk
theorem km_gsizes (hx : p.tables.exec = Jvm.exec) (hb : c.code = cc) (hts : ∀ w ∈ Ts, w.before args s = true) (hin : ∀ w ∈ u_ws RX6 TX6 10, w ∈ Ts) (hown : s.vm.findClass RX6 = some m.cls) (hX : WM dC dI am M L A s H locs)  (hlink : (Cond.fieldLink RX6 index "OrderlatticeModel" "sizes" "[I").before args s = true) (hdg : decode cc pc = .ok (.getfield index, 3)) (kk : W p l e R s m args below meth c H locs cells slots Q (F0 m (pc + 3) ls (.ref (am 3) :: rest))) : W p l e R s m args below meth c H locs cells slots Q (F0 m pc ls (.ref (am 0) :: rest)) :=
  va_get (D := (dC, dI)) (ci := 8) (C := RX6) (T := TX6) (N := 10) hx hb hts hin hown hX.2.1 hX.1 0 (wM_top (by decide)) rfl 3 (by decide) hlink (fun _ h => h) rfl hdg kk
theorem km_gkeys (hx : p.tables.exec = Jvm.exec) (hb : c.code = cc) (hts : ∀ w ∈ Ts, w.before args s = true) (hin : ∀ w ∈ u_ws RX6 TX6 10, w ∈ Ts) (hown : s.vm.findClass RX6 = some m.cls) (hX : WM dC dI am M L A s H locs)  (hlink : (Cond.fieldLink RX6 index "OrderlatticeModel" "keys" "[[I").before args s = true) (hdg : decode cc pc = .ok (.getfield index, 3)) (kk : W p l e R s m args below meth c H locs cells slots Q (F0 m (pc + 3) ls (.ref (am 4) :: rest))) : W p l e R s m args below meth c H locs cells slots Q (F0 m pc ls (.ref (am 0) :: rest)) :=
  va_get (D := (dC, dI)) (ci := 8) (C := RX6) (T := TX6) (N := 10) hx hb hts hin hown hX.2.1 hX.1 0 (wM_top (by decide)) rfl 4 (by decide) hlink (fun _ h => h) rfl hdg kk
theorem km_gdowns (hx : p.tables.exec = Jvm.exec) (hb : c.code = cc) (hts : ∀ w ∈ Ts, w.before args s = true) (hin : ∀ w ∈ u_ws RX6 TX6 10, w ∈ Ts) (hown : s.vm.findClass RX6 = some m.cls) (hX : WM dC dI am M L A s H locs)  (hlink : (Cond.fieldLink RX6 index "OrderlatticeModel" "downs" "[[Z").before args s = true) (hdg : decode cc pc = .ok (.getfield index, 3)) (kk : W p l e R s m args below meth c H locs cells slots Q (F0 m (pc + 3) ls (.ref (am 5) :: rest))) : W p l e R s m args below meth c H locs cells slots Q (F0 m pc ls (.ref (am 0) :: rest)) :=
  va_get (D := (dC, dI)) (ci := 8) (C := RX6) (T := TX6) (N := 10) hx hb hts hin hown hX.2.1 hX.1 0 (wM_top (by decide)) rfl 5 (by decide) hlink (fun _ h => h) rfl hdg kk
theorem km_gsteps (hx : p.tables.exec = Jvm.exec) (hb : c.code = cc) (hts : ∀ w ∈ Ts, w.before args s = true) (hin : ∀ w ∈ u_ws RX6 TX6 10, w ∈ Ts) (hown : s.vm.findClass RX6 = some m.cls) (hX : WM dC dI am M L A s H locs)  (hlink : (Cond.fieldLink RX6 index "OrderlatticeModel" "steps" "[I").before args s = true) (hdg : decode cc pc = .ok (.getfield index, 3)) (kk : W p l e R s m args below meth c H locs cells slots Q (F0 m (pc + 3) ls (.ref (am 6) :: rest))) : W p l e R s m args below meth c H locs cells slots Q (F0 m pc ls (.ref (am 0) :: rest)) :=
  va_get (D := (dC, dI)) (ci := 8) (C := RX6) (T := TX6) (N := 10) hx hb hts hin hown hX.2.1 hX.1 0 (wM_top (by decide)) rfl 6 (by decide) hlink (fun _ h => h) rfl hdg kk
theorem km_gput (hx : p.tables.exec = Jvm.exec) (hb : c.code = cc) (hts : ∀ w ∈ Ts, w.before args s = true) (hin : ∀ w ∈ u_ws RX6 TX6 10, w ∈ Ts) (hown : s.vm.findClass RX6 = some m.cls) (hX : WM dC dI am M L A s H locs) (hn : M.2.2.2.1 = n) (hlink : (Cond.fieldLink RX6 index "OrderlatticeModel" "put" "I").before args s = true) (hdg : decode cc pc = .ok (.getfield index, 3)) (kk : W p l e R s m args below meth c H locs cells slots Q (F0 m (pc + 3) ls (.int (nI n) :: rest))) : W p l e R s m args below meth c H locs cells slots Q (F0 m pc ls (.ref (am 0) :: rest)) :=
  va_get (D := (dC, dI)) (ci := 8) (C := RX6) (T := TX6) (N := 10) hx hb hts hin hown hX.2.1 hX.1 0 (wM_top (by decide)) rfl 7 (by decide) hlink (fun _ h => h) rfl hdg (by rw [hn]; exact kk)
theorem km_pput (hx : p.tables.exec = Jvm.exec) (hb : c.code = cc) (hts : ∀ w ∈ Ts, w.before args s = true) (hin : ∀ w ∈ u_ws RX6 TX6 10, w ∈ Ts) (hown : s.vm.findClass RX6 = some m.cls) (hX : WM dC dI am M L A s H locs) {M' : MS} (hS' : mN M (M.2.2.1, n, M.2.2.2.2) = M') (hlink : (Cond.fieldLink RX6 index "OrderlatticeModel" "put" "I").before args s = true) (hdg : decode cc pc = .ok (.putfield index, 3)) (kk : ∀ (H1 : Heap) (locs1 : List Loc), WM dC dI am M' L A s H1 locs1 → W p l e R s m args below meth c H1 locs1 cells slots Q (F0 m (pc + 3) ls rest)) : W p l e R s m args below meth c H locs cells slots Q (F0 m pc ls (.int (nI n) :: .ref (am 0) :: rest)) := by
  refine va_put (D := (dC, dI)) (ci := 8) (ty := .int) (C := RX6) (T := TX6) (N := 10) hx hb hts hin tyX6 tyX6_ok nmX6 hown hX.2.1 hX.1 hX.2.2.1 hX.2.2.2 0 (wM_top (by decide)) rfl 7 (by decide) hlink (fun _ h => h) rfl (by decide +kernel) rfl rfl (Nat.le_of_ble_eq_true rfl) hdg (fun H1 locs1 hP hD hS => kk H1 locs1 (WM.to ?_ hX hP hD hS))
  rw [← hS']
  exact wM_setN (n := (M.2.2.1, n, M.2.2.2.2))
theorem km_grefused (hx : p.tables.exec = Jvm.exec) (hb : c.code = cc) (hts : ∀ w ∈ Ts, w.before args s = true) (hin : ∀ w ∈ u_ws RX6 TX6 10, w ∈ Ts) (hown : s.vm.findClass RX6 = some m.cls) (hX : WM dC dI am M L A s H locs) (hn : M.2.2.2.2.1 = n) (hlink : (Cond.fieldLink RX6 index "OrderlatticeModel" "refused" "I").before args s = true) (hdg : decode cc pc = .ok (.getfield index, 3)) (kk : W p l e R s m args below meth c H locs cells slots Q (F0 m (pc + 3) ls (.int (nI n) :: rest))) : W p l e R s m args below meth c H locs cells slots Q (F0 m pc ls (.ref (am 0) :: rest)) :=
  va_get (D := (dC, dI)) (ci := 8) (C := RX6) (T := TX6) (N := 10) hx hb hts hin hown hX.2.1 hX.1 0 (wM_top (by decide)) rfl 8 (by decide) hlink (fun _ h => h) rfl hdg (by rw [hn]; exact kk)
theorem km_prefused (hx : p.tables.exec = Jvm.exec) (hb : c.code = cc) (hts : ∀ w ∈ Ts, w.before args s = true) (hin : ∀ w ∈ u_ws RX6 TX6 10, w ∈ Ts) (hown : s.vm.findClass RX6 = some m.cls) (hX : WM dC dI am M L A s H locs) {M' : MS} (hS' : mN M (M.2.2.1, M.2.2.2.1, n, M.2.2.2.2.2) = M') (hlink : (Cond.fieldLink RX6 index "OrderlatticeModel" "refused" "I").before args s = true) (hdg : decode cc pc = .ok (.putfield index, 3)) (kk : ∀ (H1 : Heap) (locs1 : List Loc), WM dC dI am M' L A s H1 locs1 → W p l e R s m args below meth c H1 locs1 cells slots Q (F0 m (pc + 3) ls rest)) : W p l e R s m args below meth c H locs cells slots Q (F0 m pc ls (.int (nI n) :: .ref (am 0) :: rest)) := by
  refine va_put (D := (dC, dI)) (ci := 8) (ty := .int) (C := RX6) (T := TX6) (N := 10) hx hb hts hin tyX6 tyX6_ok nmX6 hown hX.2.1 hX.1 hX.2.2.1 hX.2.2.2 0 (wM_top (by decide)) rfl 8 (by decide) hlink (fun _ h => h) rfl (by decide +kernel) rfl rfl (Nat.le_of_ble_eq_true rfl) hdg (fun H1 locs1 hP hD hS => kk H1 locs1 (WM.to ?_ hX hP hD hS))
  rw [← hS']
  exact wM_setN (n := (M.2.2.1, M.2.2.2.1, n, M.2.2.2.2.2))
theorem km_gknocks (hx : p.tables.exec = Jvm.exec) (hb : c.code = cc) (hts : ∀ w ∈ Ts, w.before args s = true) (hin : ∀ w ∈ u_ws RX6 TX6 10, w ∈ Ts) (hown : s.vm.findClass RX6 = some m.cls) (hX : WM dC dI am M L A s H locs) (hn : M.2.2.2.2.2 = n) (hlink : (Cond.fieldLink RX6 index "OrderlatticeModel" "knocks" "I").before args s = true) (hdg : decode cc pc = .ok (.getfield index, 3)) (kk : W p l e R s m args below meth c H locs cells slots Q (F0 m (pc + 3) ls (.int (nI n) :: rest))) : W p l e R s m args below meth c H locs cells slots Q (F0 m pc ls (.ref (am 0) :: rest)) :=
  va_get (D := (dC, dI)) (ci := 8) (C := RX6) (T := TX6) (N := 10) hx hb hts hin hown hX.2.1 hX.1 0 (wM_top (by decide)) rfl 9 (by decide) hlink (fun _ h => h) rfl hdg (by rw [hn]; exact kk)
theorem km_pknocks (hx : p.tables.exec = Jvm.exec) (hb : c.code = cc) (hts : ∀ w ∈ Ts, w.before args s = true) (hin : ∀ w ∈ u_ws RX6 TX6 10, w ∈ Ts) (hown : s.vm.findClass RX6 = some m.cls) (hX : WM dC dI am M L A s H locs) {M' : MS} (hS' : mN M (M.2.2.1, M.2.2.2.1, M.2.2.2.2.1, n) = M') (hlink : (Cond.fieldLink RX6 index "OrderlatticeModel" "knocks" "I").before args s = true) (hdg : decode cc pc = .ok (.putfield index, 3)) (kk : ∀ (H1 : Heap) (locs1 : List Loc), WM dC dI am M' L A s H1 locs1 → W p l e R s m args below meth c H1 locs1 cells slots Q (F0 m (pc + 3) ls rest)) : W p l e R s m args below meth c H locs cells slots Q (F0 m pc ls (.int (nI n) :: .ref (am 0) :: rest)) := by
  refine va_put (D := (dC, dI)) (ci := 8) (ty := .int) (C := RX6) (T := TX6) (N := 10) hx hb hts hin tyX6 tyX6_ok nmX6 hown hX.2.1 hX.1 hX.2.2.1 hX.2.2.2 0 (wM_top (by decide)) rfl 9 (by decide) hlink (fun _ h => h) rfl (by decide +kernel) rfl rfl (Nat.le_of_ble_eq_true rfl) hdg (fun H1 locs1 hP hD hS => kk H1 locs1 (WM.to ?_ hX hP hD hS))
  rw [← hS']
  exact wM_setN (n := (M.2.2.1, M.2.2.2.1, M.2.2.2.2.1, n))
theorem km_av (hx : p.tables.exec = Jvm.exec) (hb : c.code = cc) (hX : WM dC dI am M L A s H locs) (hk : k < 3) (hdg : decode cc pc = .ok (.aaload, 1)) (kk : W p l e R s m args below meth c H locs cells slots Q (F0 m (pc + 1) ls (.ref (am (7 + k)) :: rest))) : W p l e R s m args below meth c H locs cells slots Q (F0 m pc ls (.int (nI k) :: .ref (am 1) :: rest)) := by
  refine va_aldA hx hb hX.2.1 hX.1 1 2 (wM_top (by decide)) rfl (vp_in_nI hk (by decide)) hdg ?_
  have ek : (nI k).toNatClampNeg = k := nI_clamp (by omega)
  rw [ek, mAr_in hk]
  exact kk
theorem km_am (hx : p.tables.exec = Jvm.exec) (hb : c.code = cc) (hX : WM dC dI am M L A s H locs) (hk : k < 3) (hdg : decode cc pc = .ok (.aaload, 1)) (kk : W p l e R s m args below meth c H locs cells slots Q (F0 m (pc + 1) ls (.ref (am (10 + k)) :: rest))) : W p l e R s m args below meth c H locs cells slots Q (F0 m pc ls (.int (nI k) :: .ref (am 2) :: rest)) := by
  refine va_aldA hx hb hX.2.1 hX.1 2 2 (wM_top (by decide)) rfl (vp_in_nI hk (by decide)) hdg ?_
  have ek : (nI k).toNatClampNeg = k := nI_clamp (by omega)
  rw [ek, mAr_in hk]
  exact kk
theorem km_ak (hx : p.tables.exec = Jvm.exec) (hb : c.code = cc) (hX : WM dC dI am M L A s H locs) (hk : k < 4) (hdg : decode cc pc = .ok (.aaload, 1)) (kk : W p l e R s m args below meth c H locs cells slots Q (F0 m (pc + 1) ls (.ref (am (13 + k)) :: rest))) : W p l e R s m args below meth c H locs cells slots Q (F0 m pc ls (.int (nI k) :: .ref (am 4) :: rest)) := by
  refine va_aldA hx hb hX.2.1 hX.1 4 2 (wM_top (by decide)) rfl (vp_in_nI hk (by decide)) hdg ?_
  have ek : (nI k).toNatClampNeg = k := nI_clamp (by omega)
  rw [ek, mAr_in hk]
  exact kk
theorem km_ad (hx : p.tables.exec = Jvm.exec) (hb : c.code = cc) (hX : WM dC dI am M L A s H locs) (hk : k < 4) (hdg : decode cc pc = .ok (.aaload, 1)) (kk : W p l e R s m args below meth c H locs cells slots Q (F0 m (pc + 1) ls (.ref (am (17 + k)) :: rest))) : W p l e R s m args below meth c H locs cells slots Q (F0 m pc ls (.int (nI k) :: .ref (am 5) :: rest)) := by
  refine va_aldA hx hb hX.2.1 hX.1 5 3 (wM_top (by decide)) rfl (vp_in_nI hk (by decide)) hdg ?_
  have ek : (nI k).toNatClampNeg = k := nI_clamp (by omega)
  rw [ek, mAr_in hk]
  exact kk
theorem km_lv (hx : p.tables.exec = Jvm.exec) (hb : c.code = cc) (hX : WM dC dI am M L A s H locs) (hi : i < 3) (hk : k < 12) (hv : (M.1 i).1 k = v) (hdg : decode cc pc = .ok (.iaload, 1)) (kk : W p l e R s m args below meth c H locs cells slots Q (F0 m (pc + 1) ls (.int (nI v) :: rest))) : W p l e R s m args below meth c H locs cells slots Q (F0 m pc ls (.int (nI k) :: .ref (am (7 + i)) :: rest)) := by
  refine va_iald hx hb hX.2.1 hX.1 (7 + i) 0 (wM_v hi) rfl (vp_in_nI hk (by decide)) hdg ?_
  have ek : (nI k).toNatClampNeg = k := nI_clamp (by omega)
  show W p l e R s m args below meth c H locs cells slots Q (F0 m (pc + 1) ls (.int (nI ((M.1 i).1 (nI k).toNatClampNeg)) :: rest))
  rw [ek, hv]
  exact kk
theorem km_lm (hx : p.tables.exec = Jvm.exec) (hb : c.code = cc) (hX : WM dC dI am M L A s H locs) (hi : i < 3) (hk : k < 12) (hv : (M.1 i).2.1 k = v) (hdg : decode cc pc = .ok (.iaload, 1)) (kk : W p l e R s m args below meth c H locs cells slots Q (F0 m (pc + 1) ls (.int (nI v) :: rest))) : W p l e R s m args below meth c H locs cells slots Q (F0 m pc ls (.int (nI k) :: .ref (am (10 + i)) :: rest)) := by
  refine va_iald hx hb hX.2.1 hX.1 (10 + i) 0 (wM_m hi) rfl (vp_in_nI hk (by decide)) hdg ?_
  have ek : (nI k).toNatClampNeg = k := nI_clamp (by omega)
  show W p l e R s m args below meth c H locs cells slots Q (F0 m (pc + 1) ls (.int (nI ((M.1 i).2.1 (nI k).toNatClampNeg)) :: rest))
  rw [ek, hv]
  exact kk
theorem km_lz (hx : p.tables.exec = Jvm.exec) (hb : c.code = cc) (hX : WM dC dI am M L A s H locs)  (hk : k < 3) (hv : (M.1 k).2.2 = v) (hdg : decode cc pc = .ok (.iaload, 1)) (kk : W p l e R s m args below meth c H locs cells slots Q (F0 m (pc + 1) ls (.int (nI v) :: rest))) : W p l e R s m args below meth c H locs cells slots Q (F0 m pc ls (.int (nI k) :: .ref (am 3) :: rest)) := by
  refine va_iald hx hb hX.2.1 hX.1 (3) 0 (wM_top (by decide)) rfl (vp_in_nI hk (by decide)) hdg ?_
  have ek : (nI k).toNatClampNeg = k := nI_clamp (by omega)
  show W p l e R s m args below meth c H locs cells slots Q (F0 m (pc + 1) ls (.int (nI (M.1 (nI k).toNatClampNeg).2.2) :: rest))
  rw [ek, hv]
  exact kk
theorem km_lk (hx : p.tables.exec = Jvm.exec) (hb : c.code = cc) (hX : WM dC dI am M L A s H locs) (hi : i < 4) (hk : k < 5) (hv : (M.2.1 i).1 k = v) (hdg : decode cc pc = .ok (.iaload, 1)) (kk : W p l e R s m args below meth c H locs cells slots Q (F0 m (pc + 1) ls (.int (nI v) :: rest))) : W p l e R s m args below meth c H locs cells slots Q (F0 m pc ls (.int (nI k) :: .ref (am (13 + i)) :: rest)) := by
  refine va_iald hx hb hX.2.1 hX.1 (13 + i) 0 (wM_k hi) rfl (vp_in_nI hk (by decide)) hdg ?_
  have ek : (nI k).toNatClampNeg = k := nI_clamp (by omega)
  show W p l e R s m args below meth c H locs cells slots Q (F0 m (pc + 1) ls (.int (nI ((M.2.1 i).1 (nI k).toNatClampNeg)) :: rest))
  rw [ek, hv]
  exact kk
theorem km_ld (hx : p.tables.exec = Jvm.exec) (hb : c.code = cc) (hX : WM dC dI am M L A s H locs) (hi : i < 4) (hk : k < 5) (hv : (M.2.1 i).2.1 k = z) (hdg : decode cc pc = .ok (.baload, 1)) (kk : W p l e R s m args below meth c H locs cells slots Q (F0 m (pc + 1) ls (.int (bI z) :: rest))) : W p l e R s m args below meth c H locs cells slots Q (F0 m pc ls (.int (nI k) :: .ref (am (17 + i)) :: rest)) := by
  refine va_zald hx hb hX.2.1 hX.1 (17 + i) 1 (wM_d hi) rfl (vp_in_nI hk (by decide)) hdg ?_
  have ek : (nI k).toNatClampNeg = k := nI_clamp (by omega)
  show W p l e R s m args below meth c H locs cells slots Q (F0 m (pc + 1) ls (.int (bI ((M.2.1 i).2.1 (nI k).toNatClampNeg)) :: rest))
  rw [ek, hv]
  exact kk
theorem km_lt (hx : p.tables.exec = Jvm.exec) (hb : c.code = cc) (hX : WM dC dI am M L A s H locs)  (hk : k < 4) (hv : (M.2.1 k).2.2 = v) (hdg : decode cc pc = .ok (.iaload, 1)) (kk : W p l e R s m args below meth c H locs cells slots Q (F0 m (pc + 1) ls (.int (nI v) :: rest))) : W p l e R s m args below meth c H locs cells slots Q (F0 m pc ls (.int (nI k) :: .ref (am 6) :: rest)) := by
  refine va_iald hx hb hX.2.1 hX.1 (6) 0 (wM_top (by decide)) rfl (vp_in_nI hk (by decide)) hdg ?_
  have ek : (nI k).toNatClampNeg = k := nI_clamp (by omega)
  show W p l e R s m args below meth c H locs cells slots Q (F0 m (pc + 1) ls (.int (nI (M.2.1 (nI k).toNatClampNeg).2.2) :: rest))
  rw [ek, hv]
  exact kk
theorem km_nz (hx : p.tables.exec = Jvm.exec) (hb : c.code = cc) (hX : WM dC dI am M L A s H locs) (hdg : decode cc pc = .ok (.arraylength, 1)) (kk : W p l e R s m args below meth c H locs cells slots Q (F0 m (pc + 1) ls (.int (nI 3) :: rest))) : W p l e R s m args below meth c H locs cells slots Q (F0 m pc ls (.ref (am 3) :: rest)) :=
  va_alen hx hb hX.2.1 hX.1 3 0 (wM_top (by decide)) rfl (v := nI 3) rfl hdg kk
theorem km_nt (hx : p.tables.exec = Jvm.exec) (hb : c.code = cc) (hX : WM dC dI am M L A s H locs) (hdg : decode cc pc = .ok (.arraylength, 1)) (kk : W p l e R s m args below meth c H locs cells slots Q (F0 m (pc + 1) ls (.int (nI 4) :: rest))) : W p l e R s m args below meth c H locs cells slots Q (F0 m pc ls (.ref (am 6) :: rest)) :=
  va_alen hx hb hX.2.1 hX.1 6 0 (wM_top (by decide)) rfl (v := nI 4) rfl hdg kk
theorem km_sv (hx : p.tables.exec = Jvm.exec) (hb : c.code = cc) (hX : WM dC dI am M L A s H locs) (hi : i < 3) (hk : k < 12) {M' : MS} (hS' : mR M i (va_up (M.1 i).1 k v, (M.1 i).2) = M') (hdg : decode cc pc = .ok (.iastore, 1)) (kk : ∀ (H1 : Heap) (locs1 : List Loc), WM dC dI am M' L A s H1 locs1 → W p l e R s m args below meth c H1 locs1 cells slots Q (F0 m (pc + 1) ls rest)) : W p l e R s m args below meth c H locs cells slots Q (F0 m pc ls (.int (nI v) :: .int (nI k) :: .ref (am (7 + i)) :: rest)) := by
  refine va_iast hx hb hX.2.1 hX.1 hX.2.2.1 hX.2.2.2 (7 + i) 0 (wM_v hi) rfl (vp_in_nI hk (by decide)) hdg (fun H1 locs1 hP hD hS => kk H1 locs1 (WM.to ?_ hX hP hD hS))
  have ek : (nI k).toNatClampNeg = k := nI_clamp (by omega)
  rw [ek, nI_fun, ← hS']
  exact wM_setV hi
theorem km_sm (hx : p.tables.exec = Jvm.exec) (hb : c.code = cc) (hX : WM dC dI am M L A s H locs) (hi : i < 3) (hk : k < 12) {M' : MS} (hS' : mR M i ((M.1 i).1, va_up (M.1 i).2.1 k v, (M.1 i).2.2) = M') (hdg : decode cc pc = .ok (.iastore, 1)) (kk : ∀ (H1 : Heap) (locs1 : List Loc), WM dC dI am M' L A s H1 locs1 → W p l e R s m args below meth c H1 locs1 cells slots Q (F0 m (pc + 1) ls rest)) : W p l e R s m args below meth c H locs cells slots Q (F0 m pc ls (.int (nI v) :: .int (nI k) :: .ref (am (10 + i)) :: rest)) := by
  refine va_iast hx hb hX.2.1 hX.1 hX.2.2.1 hX.2.2.2 (10 + i) 0 (wM_m hi) rfl (vp_in_nI hk (by decide)) hdg (fun H1 locs1 hP hD hS => kk H1 locs1 (WM.to ?_ hX hP hD hS))
  have ek : (nI k).toNatClampNeg = k := nI_clamp (by omega)
  rw [ek, nI_fun, ← hS']
  exact wM_setM hi
theorem km_sz (hx : p.tables.exec = Jvm.exec) (hb : c.code = cc) (hX : WM dC dI am M L A s H locs)  (hk : k < 3) {M' : MS} (hS' : mR M k ((M.1 k).1, (M.1 k).2.1, v) = M') (hdg : decode cc pc = .ok (.iastore, 1)) (kk : ∀ (H1 : Heap) (locs1 : List Loc), WM dC dI am M' L A s H1 locs1 → W p l e R s m args below meth c H1 locs1 cells slots Q (F0 m (pc + 1) ls rest)) : W p l e R s m args below meth c H locs cells slots Q (F0 m pc ls (.int (nI v) :: .int (nI k) :: .ref (am 3) :: rest)) := by
  refine va_iast hx hb hX.2.1 hX.1 hX.2.2.1 hX.2.2.2 (3) 0 (wM_top (by decide)) rfl (vp_in_nI hk (by decide)) hdg (fun H1 locs1 hP hD hS => kk H1 locs1 (WM.to ?_ hX hP hD hS))
  have ek : (nI k).toNatClampNeg = k := nI_clamp (by omega)
  rw [ek, nI_fun (f := fun k => (M.1 k).2.2), ← hS']
  exact wM_setZ hk
theorem km_sk (hx : p.tables.exec = Jvm.exec) (hb : c.code = cc) (hX : WM dC dI am M L A s H locs) (hi : i < 4) (hk : k < 5) {M' : MS} (hS' : mO M i (va_up (M.2.1 i).1 k v, (M.2.1 i).2) = M') (hdg : decode cc pc = .ok (.iastore, 1)) (kk : ∀ (H1 : Heap) (locs1 : List Loc), WM dC dI am M' L A s H1 locs1 → W p l e R s m args below meth c H1 locs1 cells slots Q (F0 m (pc + 1) ls rest)) : W p l e R s m args below meth c H locs cells slots Q (F0 m pc ls (.int (nI v) :: .int (nI k) :: .ref (am (13 + i)) :: rest)) := by
  refine va_iast hx hb hX.2.1 hX.1 hX.2.2.1 hX.2.2.2 (13 + i) 0 (wM_k hi) rfl (vp_in_nI hk (by decide)) hdg (fun H1 locs1 hP hD hS => kk H1 locs1 (WM.to ?_ hX hP hD hS))
  have ek : (nI k).toNatClampNeg = k := nI_clamp (by omega)
  rw [ek, nI_fun, ← hS']
  exact wM_setK hi
theorem km_sd (hx : p.tables.exec = Jvm.exec) (hb : c.code = cc) (hX : WM dC dI am M L A s H locs) (hi : i < 4) (hk : k < 5) {M' : MS} (hS' : mO M i ((M.2.1 i).1, va_up (M.2.1 i).2.1 k z, (M.2.1 i).2.2) = M') (hdg : decode cc pc = .ok (.bastore, 1)) (kk : ∀ (H1 : Heap) (locs1 : List Loc), WM dC dI am M' L A s H1 locs1 → W p l e R s m args below meth c H1 locs1 cells slots Q (F0 m (pc + 1) ls rest)) : W p l e R s m args below meth c H locs cells slots Q (F0 m pc ls (.int (bI z) :: .int (nI k) :: .ref (am (17 + i)) :: rest)) := by
  refine va_zast hx hb hX.2.1 hX.1 hX.2.2.1 hX.2.2.2 (17 + i) 1 (wM_d hi) rfl (vp_in_nI hk (by decide)) hdg (fun H1 locs1 hP hD hS => kk H1 locs1 (WM.to ?_ hX hP hD hS))
  have ek : (nI k).toNatClampNeg = k := nI_clamp (by omega)
  rw [ek, bI_nar, bI_fun, ← hS']
  exact wM_setD hi
theorem km_st (hx : p.tables.exec = Jvm.exec) (hb : c.code = cc) (hX : WM dC dI am M L A s H locs)  (hk : k < 4) {M' : MS} (hS' : mO M k ((M.2.1 k).1, (M.2.1 k).2.1, v) = M') (hdg : decode cc pc = .ok (.iastore, 1)) (kk : ∀ (H1 : Heap) (locs1 : List Loc), WM dC dI am M' L A s H1 locs1 → W p l e R s m args below meth c H1 locs1 cells slots Q (F0 m (pc + 1) ls rest)) : W p l e R s m args below meth c H locs cells slots Q (F0 m pc ls (.int (nI v) :: .int (nI k) :: .ref (am 6) :: rest)) := by
  refine va_iast hx hb hX.2.1 hX.1 hX.2.2.1 hX.2.2.2 (6) 0 (wM_top (by decide)) rfl (vp_in_nI hk (by decide)) hdg (fun H1 locs1 hP hD hS => kk H1 locs1 (WM.to ?_ hX hP hD hS))
  have ek : (nI k).toNatClampNeg = k := nI_clamp (by omega)
  rw [ek, nI_fun (f := fun k => (M.2.1 k).2.2), ← hS']
  exact wM_setT hk
/-- an array made: behind the world's cells -/
theorem km_lay {H1 : Heap} {q : Nat} {E : va_E} (hX : WM dC dI am M L A s H locs) (h1 : va_P (dC, dI) vwCl ((wM dC am M ++ L) ++ [(q, E)]) H1) (h2 : va_D A ((wM dC am M ++ L) ++ [(q, E)])) (h3 : va_S A s.heap H1 locs) : WM dC dI am M (L ++ [(q, E)]) A s H1 locs := hX.toL (by rw [List.append_assoc]) h1 h2 h3
theorem km_newI (hx : p.tables.exec = Jvm.exec) (hb : c.code = cc) (harr : (Cond.arrayClass .int).before args s = true) (hX : WM dC dI am M L A s H locs) (hA : ∀ q, s.heap.size ≤ q → A q) (hn : n ≤ 65536) (hcells : cells + 1 ≤ R.cells) (hslots : slots + n ≤ R.slots) (hdg : decode cc pc = .ok (.newarray .int, 2))
    (kk : ∀ (q : Nat) (H1 : Heap), WM dC dI am M (L ++ [(q, .inl (dC 20, n, .inl (fun k => nI ((fun _ => 0) k))))]) A s H1 locs → W p l e R s m args below meth c H1 locs (cells + 1) (slots + n) Q (F0 m (pc + 2) ls (.ref q :: rest))) : W p l e R s m args below meth c H locs cells slots Q (F0 m pc ls (.int (nI n) :: rest)) := by
  refine va_newa (atype := .int) (ty := .int) (a0 := (n, .inl (fun _ => nI 0))) hx hb harr rfl hX.2.1 hX.1 hX.2.2.1 hX.2.2.2 hA (fun cA => ?_) (nI_pos (by omega)) (nI_clamp (by omega)) (by show n * 4 ≤ 536870912; omega) hcells hslots hdg (fun q cA H1 hK1 h1 h2 h3 => ?_)
  · rfl
  · have e0 : cA = dC 20 := by
      have e1 := (hK1.2 0 (dC 20, .int) rfl).2
      have e2 := (hK1.2 4 (cA, .int) rfl).2
      exact Option.some.inj (e2.symm.trans e1)
    subst e0
    exact kk q H1 (km_lay hX h1 h2 h3)
theorem km_newZ (hx : p.tables.exec = Jvm.exec) (hb : c.code = cc) (harr : (Cond.arrayClass .boolean).before args s = true) (hX : WM dC dI am M L A s H locs) (hA : ∀ q, s.heap.size ≤ q → A q) (hn : n ≤ 65536) (hcells : cells + 1 ≤ R.cells) (hslots : slots + n ≤ R.slots) (hdg : decode cc pc = .ok (.newarray .boolean, 2))
    (kk : ∀ (q : Nat) (H1 : Heap), WM dC dI am M (L ++ [(q, .inl (dC 21, n, .inl (fun k => bI ((fun _ => false) k))))]) A s H1 locs → W p l e R s m args below meth c H1 locs (cells + 1) (slots + n) Q (F0 m (pc + 2) ls (.ref q :: rest))) : W p l e R s m args below meth c H locs cells slots Q (F0 m pc ls (.int (nI n) :: rest)) := by
  refine va_newa (atype := .boolean) (ty := .boolean) (a0 := (n, .inl (fun _ => bI false))) hx hb harr rfl hX.2.1 hX.1 hX.2.2.1 hX.2.2.2 hA (fun cA => ?_) (nI_pos (by omega)) (nI_clamp (by omega)) (by show n * 1 ≤ 536870912; omega) hcells hslots hdg (fun q cA H1 hK1 h1 h2 h3 => ?_)
  · rfl
  · have e0 : cA = dC 21 := by
      have e1 := (hK1.2 1 (dC 21, .boolean) rfl).2
      have e2 := (hK1.2 4 (cA, .boolean) rfl).2
      exact Option.some.inj (e2.symm.trans e1)
    subst e0
    exact kk q H1 (km_lay hX h1 h2 h3)
theorem kl_li {q j N : Nat} {f : Nat → Nat} (hx : p.tables.exec = Jvm.exec) (hb : c.code = cc) (hX : WM dC dI am M L A s H locs) (hj : L[j]? = some (q, .inl (dC 20, N, .inl (fun k => nI (f k))))) (hk : k < N) (hN : N ≤ 65536) (hdg : decode cc pc = .ok (.iaload, 1)) (kk : W p l e R s m args below meth c H locs cells slots Q (F0 m (pc + 1) ls (.int (nI (f k)) :: rest))) : W p l e R s m args below meth c H locs cells slots Q (F0 m pc ls (.int (nI k) :: .ref q :: rest)) := by
  refine va_iald hx hb hX.2.1 hX.1 (21 + j) 0 (wL_loc.trans hj) rfl (vp_in_nI hk (by omega)) hdg ?_
  have ek : (nI k).toNatClampNeg = k := nI_clamp (by omega)
  show W p l e R s m args below meth c H locs cells slots Q (F0 m (pc + 1) ls (.int (nI (f (nI k).toNatClampNeg)) :: rest))
  rw [ek]
  exact kk
theorem kl_lz {q j N : Nat} {f : Nat → Bool} (hx : p.tables.exec = Jvm.exec) (hb : c.code = cc) (hX : WM dC dI am M L A s H locs) (hj : L[j]? = some (q, .inl (dC 21, N, .inl (fun k => bI (f k))))) (hk : k < N) (hN : N ≤ 65536) (hdg : decode cc pc = .ok (.baload, 1)) (kk : W p l e R s m args below meth c H locs cells slots Q (F0 m (pc + 1) ls (.int (bI (f k)) :: rest))) : W p l e R s m args below meth c H locs cells slots Q (F0 m pc ls (.int (nI k) :: .ref q :: rest)) := by
  refine va_zald hx hb hX.2.1 hX.1 (21 + j) 1 (wL_loc.trans hj) rfl (vp_in_nI hk (by omega)) hdg ?_
  have ek : (nI k).toNatClampNeg = k := nI_clamp (by omega)
  show W p l e R s m args below meth c H locs cells slots Q (F0 m (pc + 1) ls (.int (bI (f (nI k).toNatClampNeg)) :: rest))
  rw [ek]
  exact kk
theorem wL_setL {j : Nat} {x : Nat × va_E} : (wM dC am M ++ L).set (21 + j) x = wM dC am M ++ L.set j x := by
  rw [List.set_append_right _ _ (by rw [wM_len]; omega), wM_len, Nat.add_sub_cancel_left]
theorem kl_si {q j N : Nat} {f : Nat → Nat} (hx : p.tables.exec = Jvm.exec) (hb : c.code = cc) (hX : WM dC dI am M L A s H locs) (hj : L[j]? = some (q, .inl (dC 20, N, .inl (fun k => nI (f k))))) (hk : k < N) (hN : N ≤ 65536) (hdg : decode cc pc = .ok (.iastore, 1)) (kk : ∀ (H1 : Heap) (locs1 : List Loc), WM dC dI am M (L.set j (q, .inl (dC 20, N, .inl (fun x => nI (va_up f k v x))))) A s H1 locs1 → W p l e R s m args below meth c H1 locs1 cells slots Q (F0 m (pc + 1) ls rest)) : W p l e R s m args below meth c H locs cells slots Q (F0 m pc ls (.int (nI v) :: .int (nI k) :: .ref q :: rest)) := by
  refine va_iast hx hb hX.2.1 hX.1 hX.2.2.1 hX.2.2.2 (21 + j) 0 (wL_loc.trans hj) rfl (vp_in_nI hk (by omega)) hdg (fun H1 locs1 hP hD hS => kk H1 locs1 (hX.toL ?_ hP hD hS))
  have ek : (nI k).toNatClampNeg = k := nI_clamp (by omega)
  rw [ek, nI_fun, wL_setL]
theorem kl_sz {q j N : Nat} {f : Nat → Bool} (hx : p.tables.exec = Jvm.exec) (hb : c.code = cc) (hX : WM dC dI am M L A s H locs) (hj : L[j]? = some (q, .inl (dC 21, N, .inl (fun k => bI (f k))))) (hk : k < N) (hN : N ≤ 65536) (hdg : decode cc pc = .ok (.bastore, 1)) (kk : ∀ (H1 : Heap) (locs1 : List Loc), WM dC dI am M (L.set j (q, .inl (dC 21, N, .inl (fun x => bI (va_up f k z x))))) A s H1 locs1 → W p l e R s m args below meth c H1 locs1 cells slots Q (F0 m (pc + 1) ls rest)) : W p l e R s m args below meth c H locs cells slots Q (F0 m pc ls (.int (bI z) :: .int (nI k) :: .ref q :: rest)) := by
  refine va_zast hx hb hX.2.1 hX.1 hX.2.2.1 hX.2.2.2 (21 + j) 1 (wL_loc.trans hj) rfl (vp_in_nI hk (by omega)) hdg (fun H1 locs1 hP hD hS => kk H1 locs1 (hX.toL ?_ hP hD hS))
  have ek : (nI k).toNatClampNeg = k := nI_clamp (by omega)
  rw [ek, bI_nar, bI_fun, wL_setL]
end KM
theorem va_F.Y {am : Nat → Nat} {s t : State} (h : va_F (AY am s.heap.size) s t) : va_F (AM am) s t := ⟨h.1, fun q hq hA => h.2 q hq (fun z => z.elim hA (fun z2 => by have h3 : s.heap.size ≤ q := z2; omega))⟩
theorem free_Y {am : Nat → Nat} {s : State} {H : Heap} {locs locs1 : List Loc} (hS : va_S (AY am s.heap.size) s.heap H locs) (h : ∀ q ∈ locs1, q ∈ locs ∧ q.base < s.heap.size) : ∀ q ∈ locs1, AM am q.base := fun q hq => by
  obtain ⟨h1, h2⟩ := h q hq
  rcases hS.2.2 q h1 with h3 | h3
  · exact h3
  · exact absurd h2 (Nat.not_lt.mpr h3)
