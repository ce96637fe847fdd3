section
/-! class and reference side by side: how many stand in each row, the steps of each order, the counts of things put and of knocks -/
def ordT (o : OrdS) (q : OrdM) : Prop := o.2.2.2.2.1 = q.2.2 ∧ ∀ k, k < q.2.2 → o.1 k = q.1 k ∧ o.2.1 k = q.2.1 k
def Tie (S : XS) (M : MS) : Prop := (∀ i, i < 3 → (S.1 i).2.2 = (M.1 i).2.2) ∧ (∀ j, j < 4 → ordT (S.2.1 j) (M.2.1 j)) ∧ S.2.2.1 = M.2.2.2.1 ∧ S.2.2.2.2 = M.2.2.2.2.2
/-- a call on both: still side by side, the same answer, nothing thrown -/
def Ans (r r2 : Int32) (S1 : XS) (M1 : MS) : Prop := Tie S1 M1 ∧ r = r2 ∧ M1.2.2.1 = 0
section TIE
variable {S S1 : XS} {M M1 : MS} {i j u k : Nat} {r r2 : Int32}
theorem Tie.sz (T : Tie S M) (hi : i < 3) : (S.1 i).2.2 = (M.1 i).2.2 := T.1 i hi
theorem Tie.or (T : Tie S M) (hj : j < 4) : ordT (S.2.1 j) (M.2.1 j) := T.2.1 j hj
theorem Tie.n (T : Tie S M) (hj : j < 4) : (S.2.1 j).2.2.2.2.1 = (M.2.1 j).2.2 := (T.2.1 j hj).1
theorem Tie.pu (T : Tie S M) : S.2.2.1 = M.2.2.2.1 := T.2.2.1
theorem Tie.kn (T : Tie S M) : S.2.2.2.2 = M.2.2.2.2.2 := T.2.2.2
theorem Tie.th (T : Tie S M) (u : Nat) : Tie S (thM M u) := ⟨T.1, T.2.1, T.2.2.1, T.2.2.2⟩
theorem Tie.ref (T : Tie S M) : Tie (refT S) (refM M) := ⟨T.1, T.2.1, T.2.2.1, T.2.2.2⟩
theorem Tie.addN (T : Tie S M) (k u : Nat) : Tie (xN S (S.2.2.1 + k, S.2.2.2.1, S.2.2.2.2)) (mN M (u, M.2.2.2.1 + k, M.2.2.2.2)) := ⟨T.1, T.2.1, congrArg (· + k) T.2.2.1, T.2.2.2⟩
theorem Tie.row (T : Tie S M) {a b : RowS} (h : a.2.2 = b.2.2) : Tie (xR S i a) (mR M i b) := by
  refine ⟨fun t ht => ?_, T.2.1, T.2.2.1, T.2.2.2⟩
  by_cases e : t = i
  · subst e; rw [xR_row, mR_row]; exact h
  · rw [xR_ne _ _ e, mR_ne _ _ e]; exact T.1 t ht
theorem Tie.ord (T : Tie S M) {a : OrdS} {b : OrdM} (h : ordT a b) : Tie (xO S j a) (mO M j b) := by
  refine ⟨T.1, fun t ht => ?_, T.2.2.1, T.2.2.2⟩
  by_cases e : t = j
  · subst e; rw [xO_ord, mO_ord]; exact h
  · rw [xO_ne _ _ e, mO_ne _ _ e]; exact T.2.1 t ht
theorem Tie.spO (T : Tie S M) {a : OrdS} (h : 4 ≤ j) : Tie (xO S j a) M := by
  refine ⟨T.1, fun t ht => ?_, T.2.2.1, T.2.2.2⟩
  rw [xO_ne _ _ (show t ≠ j by omega)]
  exact T.2.1 t ht
theorem Tie.spR (T : Tie S M) {a : RowS} (h : 3 ≤ i) : Tie (xR S i a) M := by
  refine ⟨fun t ht => ?_, T.2.1, T.2.2.1, T.2.2.2⟩
  rw [xR_ne _ _ (show t ≠ i by omega)]
  exact T.1 t ht
theorem Tie.sortA (T : Tie S M) {b : RowS} (h : sortA S S1 i) (hb : b.2.2 = (M.1 i).2.2) (hi : i < 3) : Tie S1 (mR (thM M 0) i b) := by
  obtain ⟨h1, h2, -, -, -, h6⟩ := h
  refine ⟨fun t ht => ?_, fun t ht => by rw [h1]; exact T.2.1 t ht, by rw [h1]; exact T.2.2.1, by rw [h1]; exact T.2.2.2⟩
  by_cases e : t = i
  · subst e; rw [h6, mR_row, hb]; exact T.1 t ht
  · rw [h2 t e (by omega) (by omega), mR_ne _ _ e]; exact T.1 t ht
theorem Tie.KA (T : Tie S M) (h : KA S S1) : Tie S1 M := by
  obtain ⟨-, h1, h2, h3⟩ := h
  refine ⟨fun t ht => by rw [h2 t (by omega)]; exact T.1 t ht, fun t ht => by rw [h3 t (by omega)]; exact T.2.1 t ht, by rw [h1]; exact T.2.2.1, by rw [h1]; exact T.2.2.2⟩
theorem Tie.KR (T : Tie S M) (h : KR2 S S1) : Tie S1 M := by
  obtain ⟨h1, h2, -⟩ := h
  refine ⟨fun t ht => by rw [h2 t (by omega)]; exact T.1 t ht, fun t ht => by rw [h1]; exact T.2.1 t ht, by rw [h1]; exact T.2.2.1, by rw [h1]; exact T.2.2.2⟩
/-! codes, classes, ranks are the same -/
theorem Tie.cf (T : Tie S M) (hj : j < 4) : codeOf (S.2.1 j).1 (S.2.1 j).2.1 (S.2.1 j).2.2.2.2.1 = cM M j := by
  funext v
  rw [T.n hj]
  exact codeOf_cong (fun k hk => (T.or hj).2 k hk)
theorem Tie.code (T : Tie S M) (hI : InvX S) (hj : j < 4) {v : Nat} (hv : v < 16) : (S.2.1 j).2.2.1 v = cM M j v := by
  rw [(hI.2 j (by omega)).2.1 v hv, T.cf hj]
theorem Tie.rank (T : Tie S M) (hI : InvX S) (hj : j < 4) {v : Nat} (hv : v < 16) : (S.2.1 j).2.2.2.1 v = rankC (cM M j) v := by
  rw [(hI.2 j (by omega)).2.2.1 v hv, T.cf hj]
theorem Tie.clas (T : Tie S M) (hI : InvX S) (hj : j < 4) : (S.2.1 j).2.2.2.2.2 = classC (cM M j) := by
  rw [(hI.2 j (by omega)).2.2.2, T.cf hj]
theorem finerB_cong {c c2 d d2 : Nat → Nat} (h : ∀ v, v < 16 → c v = c2 v) (h2 : ∀ v, v < 16 → d v = d2 v) : finerB c d = finerB c2 d2 := by
  unfold finerB finerN
  refine decide_eq_decide.mpr ⟨fun k a ha b hb z => ?_, fun k a ha b hb z => ?_⟩
  · rw [← h a ha, ← h b hb]; exact k a ha b hb (by rw [h2 a ha, h2 b hb]; exact z)
  · rw [h a ha, h b hb]; exact k a ha b hb (by rw [← h2 a ha, ← h2 b hb]; exact z)
theorem like_same {c c2 d d2 : Nat → Nat} (h : ∀ v, v < 16 → c v = c2 v) (h2 : ∀ v, v < 16 → d v = d2 v) : likeB c d = sameM c2 d2 := by
  unfold likeB likeN sameM sameN
  refine decide_eq_decide.mpr ⟨fun k a ha b hb => ?_, fun k a ha b hb _ => ?_⟩
  · rw [← h a ha, ← h b hb, ← h2 a ha, ← h2 b hb]
    rcases Nat.lt_trichotomy a b with e | e | e
    · exact k a ha b hb e
    · subst e; rw [cmpI_eq rfl, cmpI_eq rfl]
    · rw [← cmpI_neg, ← cmpI_neg (d b), k b hb a ha e]
  · rw [h a ha, h b hb, h2 a ha, h2 b hb]; exact k a ha b hb
/-! pairs counted row by row and column by column -/
theorem sumN_add (f : Nat → Nat) (q : Nat → Bool) : ∀ n, sumN (fun a => f a + (if q a then 1 else 0)) n = sumN f n + cntB q n
  | 0 => rfl
  | n + 1 => by
    rw [sumN, sumN, cntB, sumN_add f q n]
    omega
theorem sumN_cong {f g : Nat → Nat} : ∀ {n : Nat}, (∀ a, a < n → f a = g a) → sumN f n = sumN g n
  | 0, _ => rfl
  | n + 1, h => by rw [sumN, sumN, sumN_cong (fun a ha => h a (by omega)), h n (by omega)]
theorem pairs_eq {p : Nat → Nat → Bool} : ∀ n, (∀ a b, a < n → b < n → p a b = p b a) → sumN (fun a => cntB (fun y => decide (a < y) && p a y) n) n = sumN (fun a => cntB (fun b => p a b) a) n
  | 0, _ => rfl
  | n + 1, hp => by
    have ih := pairs_eq (p := p) n (fun a b ha hb => hp a b (by omega) (by omega))
    have e1 : sumN (fun a => cntB (fun y => decide (a < y) && p a y) (n + 1)) n = sumN (fun a => cntB (fun y => decide (a < y) && p a y) n + (if p a n then 1 else 0)) n := by
      refine sumN_cong (fun a ha => ?_)
      show cntB (fun y => decide (a < y) && p a y) n + (if (decide (a < n) && p a n) = true then 1 else 0) = _
      rw [decide_eq_true ha, Bool.true_and]
    have e2 : cntB (fun y => decide (n < y) && p n y) (n + 1) = 0 := cntB_none (fun k hk => by show (decide (n < k) && p n k) = false; rw [decide_eq_false (by omega), Bool.false_and])
    have e3 : cntB (fun a => p a n) n = cntB (fun b => p n b) n := cntB_cong (fun k hk => hp k n (by omega) (by omega))
    show sumN (fun a => cntB (fun y => decide (a < y) && p a y) (n + 1)) n + cntB (fun y => decide (n < y) && p n y) (n + 1) = sumN (fun a => cntB (fun b => p a b) a) n + cntB (fun b => p n b) n
    rw [e2, Nat.add_zero, e1, sumN_add, ih, e3]
theorem bothI_2 (a b c d : Nat) : bothI a b c d = nI 2 ↔ a ≠ b ∧ cmpI a b = -cmpI c d := by
  have h3 : ∀ x y : Nat, cmpI x y ≠ nI 2 := fun x y => by
    rcases Nat.lt_trichotomy x y with h | h | h
    · rw [cmpI_lt h]; decide
    · rw [cmpI_eq h]; decide
    · rw [cmpI_gt h]; decide
  unfold bothI
  constructor
  · intro h
    split at h
    · assumption
    · split at h
      · exact absurd h (h3 _ _)
      · exact absurd h (h3 _ _)
  · intro h
    rw [if_pos h]
theorem bothI_sym (a b c d : Nat) : decide (bothI a b c d = nI 2) = decide (bothI b a d c = nI 2) := by
  refine decide_eq_decide.mpr ?_
  rw [bothI_2, bothI_2, ← cmpI_neg b a, ← cmpI_neg d c]
  refine ⟨fun h => ⟨fun z => h.1 z.symm, ?_⟩, fun h => ⟨fun z => h.1 z.symm, ?_⟩⟩
  · have := h.2
    rw [Int32.neg_neg] at this
    rw [← this, Int32.neg_neg]
  · rw [h.2]
theorem apart_eq {c c2 d d2 : Nat → Nat} (h : ∀ v, v < 16 → c v = c2 v) (h2 : ∀ v, v < 16 → d v = d2 v) : apartN c d = apartM c2 d2 := by
  have e := pairs_eq (p := fun a b => decide (bothI (c2 a) (c2 b) (d2 a) (d2 b) = nI 2)) 16 (fun a b _ _ => bothI_sym _ _ _ _)
  have e2 : apartN c d = sumN (fun a => cntB (fun y => decide (a < y) && decide (bothI (c2 a) (c2 y) (d2 a) (d2 y) = nI 2)) 16) 16 := sumN_cong (fun a ha => cntB_cong (fun y hy => by rw [h a ha, h y hy, h2 a ha, h2 y hy]))
  rw [e2, e]
  rfl
/-! a step more -/
theorem ordT_app {o : OrdS} {q : OrdM} (h : ordT o q) (k : Nat) (z : Bool) : ∀ x, x < q.2.2 + 1 → va_up o.1 o.2.2.2.2.1 k x = va_up q.1 q.2.2 k x ∧ va_up o.2.1 o.2.2.2.2.1 z x = va_up q.2.1 q.2.2 z x := by
  intro x hx
  rw [h.1]
  unfold va_up
  by_cases e : x = q.2.2
  · rw [if_pos e, if_pos e, if_pos e, if_pos e]; exact ⟨rfl, rfl⟩
  · rw [if_neg e, if_neg e, if_neg e, if_neg e]; exact h.2 x (by omega)
theorem code_app {o : OrdS} {q : OrdM} (h : ordT o q) (k : Nat) (z : Bool) : codeOf (va_up o.1 o.2.2.2.2.1 k) (va_up o.2.1 o.2.2.2.2.1 z) (o.2.2.2.2.1 + 1) = codeOf (va_up q.1 q.2.2 k) (va_up q.2.1 q.2.2 z) (q.2.2 + 1) := by
  funext v
  have e := ordT_app h k z
  rw [h.1] at e ⊢
  exact codeOf_cong e
theorem Tie.coa (T : Tie S M) (hj : j < 4) : coarseC (S.2.1 j) = coaM M j := by
  funext k
  unfold coarseC coaM
  rw [code_app (T.or hj)]
/-! call by call -/
theorem A_put {q q2 v : Nat} (T : Tie S M) (hi : i < 3) (hw : ((S.1 i).2.2 < 12 ∧ r = nI S.2.2.1 ∧ S1 = placeT S i q v) ∨ (12 ≤ (S.1 i).2.2 ∧ r = -9 ∧ S1 = refT S)) (hv : ((M.1 i).2.2 < 12 ∧ r2 = nI M.2.2.2.1 ∧ M1 = placeM (thM M 0) i q2 v) ∨ (12 ≤ (M.1 i).2.2 ∧ r2 = -9 ∧ M1 = refM M)) : Ans r r2 S1 M1 := by
  have e := T.sz hi
  rcases hw with ⟨h1, h2, h3⟩ | ⟨h1, h2, h3⟩ <;> rcases hv with ⟨g1, g2, g3⟩ | ⟨g1, g2, g3⟩
  · rw [h2, g2, h3, g3]
    exact ⟨(T.addN 1 0).row (congrArg (· + 1) e), congrArg nI T.pu, rfl⟩
  · omega
  · omega
  · rw [h2, g2, h3, g3]
    exact ⟨T.ref, rfl, rfl⟩
theorem A_fill {f g f2 g2 : Nat → Nat} (T : Tie S M) (hi : i < 3) (hw : ((S.1 i).2.2 + k ≤ 12 ∧ r = nI ((S.1 i).2.2 + k) ∧ S1 = xR (xN S (S.2.2.1 + k, S.2.2.2.1, S.2.2.2.2)) i (f, g, (S.1 i).2.2 + k)) ∨ (12 < (S.1 i).2.2 + k ∧ r = -9 ∧ S1 = refT S))
    (hv : ((M.1 i).2.2 + k ≤ 12 ∧ r2 = nI ((M.1 i).2.2 + k) ∧ M1 = mR (mN M (0, M.2.2.2.1 + k, M.2.2.2.2)) i (f2, g2, (M.1 i).2.2 + k)) ∨ (12 < (M.1 i).2.2 + k ∧ r2 = -9 ∧ M1 = refM M)) : Ans r r2 S1 M1 := by
  have e := T.sz hi
  rcases hw with ⟨h1, h2, h3⟩ | ⟨h1, h2, h3⟩ <;> rcases hv with ⟨p1, p2, p3⟩ | ⟨p1, p2, p3⟩
  · rw [h2, p2, h3, p3]
    exact ⟨(T.addN k 0).row (congrArg (· + k) e), congrArg (fun z => nI (z + k)) e, rfl⟩
  · omega
  · omega
  · rw [h2, p2, h3, p3]
    exact ⟨T.ref, rfl, rfl⟩
/-- a row changed, its size told or kept -/
theorem A_row {a b : RowS} {x y : Nat} (T : Tie S M) (h : a.2.2 = b.2.2) (hx : x = y) (hw : r = nI x ∧ S1 = xR S i a) (hv : r2 = nI y ∧ M1 = mR (thM M 0) i b) : Ans r r2 S1 M1 := by
  rw [hw.1, hw.2, hv.1, hv.2, hx]
  exact ⟨(T.th 0).row h, rfl, rfl⟩
theorem A_clear (T : Tie S M) (hi : i < 3) {a b c d : Nat → Nat} (hw : r = nI (S.1 i).2.2 ∧ S1 = xR S i (a, b, 0)) (hv : r2 = nI (M.1 i).2.2 ∧ M1 = mR (thM M 0) i (c, d, 0)) : Ans r r2 S1 M1 := A_row (a := (a, b, 0)) (b := (c, d, 0)) T rfl (T.sz hi) hw hv
theorem A_copyRow {t : Nat} (T : Tie S M) (hi : i < 3) {a b c d : Nat → Nat} (hw : r = nI (S.1 i).2.2 ∧ S1 = xR S t (a, b, (S.1 i).2.2)) (hv : r2 = nI (M.1 i).2.2 ∧ M1 = mR (thM M 0) t (c, d, (M.1 i).2.2)) : Ans r r2 S1 M1 := A_row (a := (a, b, (S.1 i).2.2)) (b := (c, d, (M.1 i).2.2)) T (T.sz hi) (T.sz hi) hw hv
theorem A_turnRow (T : Tie S M) (hi : i < 3) {a b c d : Nat → Nat} (hw : r = nI ((S.1 i).2.2 - (S.1 i).2.2 % 2) ∧ S1 = xR S i (a, b, (S.1 i).2.2)) (hv : r2 = nI ((M.1 i).2.2 - (M.1 i).2.2 % 2) ∧ M1 = mR (thM M 0) i (c, d, (M.1 i).2.2)) : Ans r r2 S1 M1 := A_row (a := (a, b, (S.1 i).2.2)) (b := (c, d, (M.1 i).2.2)) T (T.sz hi) (by rw [T.sz hi]) hw hv
theorem A_size (T : Tie S M) (hi : i < 3) (hw : r = nI (S.1 i).2.2 ∧ S1 = S) (hv : r2 = nI (M.1 i).2.2 ∧ M1 = thM M 0) : Ans r r2 S1 M1 := by
  rw [hw.1, hw.2, hv.1, hv.2]
  exact ⟨T.th 0, congrArg nI (T.sz hi), rfl⟩
/-! calls of which the answer isn't told here -/
theorem B_drop (T : Tie S M) (hi : i < 3) {a b c d : Nat → Nat} {P P2 : Prop} (hw : P ∧ S1 = xR S i (a, b, (S.1 i).2.2 - 1)) (hv : P2 ∧ M1 = mR (thM M 0) i (c, d, (M.1 i).2.2 - 1)) : Tie S1 M1 := by
  rw [hw.2, hv.2]
  exact (T.th 0).row (congrArg (· - 1) (T.sz hi))
theorem B_swap (T : Tie S M) (hi : i < 3) {a b c d : Nat → Nat} {P P2 : Prop} (hw : P ∧ S1 = xR S i (a, b, (S.1 i).2.2)) (hv : P2 ∧ M1 = mR (thM M 0) i (c, d, (M.1 i).2.2)) : Tie S1 M1 := by
  rw [hw.2, hv.2]
  exact (T.th 0).row (T.sz hi)
/-! orders -/
theorem A_step {z : Bool} (T : Tie S M) (hj : j < 4) (hw : ((S.2.1 j).2.2.2.2.1 < 5 ∧ r = nI (coarseD (S.2.1 j) k z) ∧ S1 = xO S j (newO (va_up (S.2.1 j).1 (S.2.1 j).2.2.2.2.1 k) (va_up (S.2.1 j).2.1 (S.2.1 j).2.2.2.2.1 z) ((S.2.1 j).2.2.2.2.1 + 1) (S.2.1 j).2.2.1 (S.2.1 j).2.2.2.1)) ∨ (5 ≤ (S.2.1 j).2.2.2.2.1 ∧ r = -9 ∧ S1 = refT S))
    (hv : ((M.2.1 j).2.2 < 5 ∧ r2 = nI (classC (cM M1 j)) ∧ M1 = mO (thM M 0) j (va_up (M.2.1 j).1 (M.2.1 j).2.2 k, va_up (M.2.1 j).2.1 (M.2.1 j).2.2 z, (M.2.1 j).2.2 + 1)) ∨ (5 ≤ (M.2.1 j).2.2 ∧ r2 = -9 ∧ M1 = refM M)) : Ans r r2 S1 M1 := by
  have e := T.n hj
  rcases hw with ⟨h1, h2, h3⟩ | ⟨h1, h2, h3⟩ <;> rcases hv with ⟨g1, g2, g3⟩ | ⟨g1, g2, g3⟩
  · refine ⟨?_, ?_, ?_⟩
    · rw [h3, g3]
      exact (T.th 0).ord ⟨congrArg (· + 1) e, ordT_app (T.or hj) k z⟩
    · rw [h2, g2, g3, cM_mO]
      unfold coarseD
      rw [code_app (T.or hj)]
    · rw [g3]; rfl
  · omega
  · omega
  · rw [h2, g2, h3, g3]
    exact ⟨T.ref, rfl, rfl⟩
theorem A_unstep (T : Tie S M) (hj : j < 4) (hw : ((S.2.1 j).2.2.2.2.1 ≠ 0 ∧ r = nI ((S.2.1 j).1 ((S.2.1 j).2.2.2.2.1 - 1)) ∧ S1 = xO S j (newO ((S.2.1 j).1) ((S.2.1 j).2.1) ((S.2.1 j).2.2.2.2.1 - 1) (S.2.1 j).2.2.1 (S.2.1 j).2.2.2.1)) ∨ ((S.2.1 j).2.2.2.2.1 = 0 ∧ r = -9 ∧ S1 = refT S))
    (hv : ((M.2.1 j).2.2 ≠ 0 ∧ r2 = nI ((M.2.1 j).1 ((M.2.1 j).2.2 - 1)) ∧ M1 = mO (thM M 0) j ((M.2.1 j).1, (M.2.1 j).2.1, (M.2.1 j).2.2 - 1)) ∨ ((M.2.1 j).2.2 = 0 ∧ r2 = -9 ∧ M1 = refM M)) : Ans r r2 S1 M1 := by
  have e := T.n hj
  rcases hw with ⟨h1, h2, h3⟩ | ⟨h1, h2, h3⟩ <;> rcases hv with ⟨g1, g2, g3⟩ | ⟨g1, g2, g3⟩
  · refine ⟨?_, ?_, ?_⟩
    · rw [h3, g3]
      exact (T.th 0).ord ⟨congrArg (· - 1) e, fun x hx => (T.or hj).2 x (by have : x < (M.2.1 j).2.2 - 1 := hx; omega)⟩
    · rw [h2, g2, e, ((T.or hj).2 _ (by omega)).1]
    · rw [g3]; rfl
  · omega
  · omega
  · rw [h2, g2, h3, g3]
    exact ⟨T.ref, rfl, rfl⟩
theorem A_wipe (T : Tie S M) (hj : j < 4) (hw : r = nI (S.2.1 j).2.2.2.2.1 ∧ S1 = xO S j (newO ((S.2.1 j).1) ((S.2.1 j).2.1) (0) (S.2.1 j).2.2.1 (S.2.1 j).2.2.2.1)) (hv : r2 = nI (M.2.1 j).2.2 ∧ M1 = mO (thM M 0) j ((M.2.1 j).1, (M.2.1 j).2.1, 0)) : Ans r r2 S1 M1 := by
  rw [hw.1, hw.2, hv.1, hv.2, T.n hj]
  exact ⟨(T.th 0).ord ⟨rfl, fun x hx => absurd hx (Nat.not_lt_zero x)⟩, rfl, rfl⟩
theorem apn0 {α : Type} (f g : Nat → α) {n x : Nat} (h : x < n) : apn f g 0 n x = g x := by
  unfold apn
  rw [if_pos ⟨Nat.zero_le _, by omega⟩]
  rfl
theorem ovl_in0 {α : Type} (f g : Nat → α) {n x : Nat} (h : x < n) : ovl f g n x = f x := if_pos h
theorem A_copyOrder {t : Nat} (T : Tie S M) (hj : j < 4) (hw : r = nI (S.2.1 j).2.2.2.2.1 ∧ S1 = xO S t (newO (apn (S.2.1 t).1 (S.2.1 j).1 0 (S.2.1 j).2.2.2.2.1) (apn (S.2.1 t).2.1 (S.2.1 j).2.1 0 (S.2.1 j).2.2.2.2.1) (S.2.1 j).2.2.2.2.1 (S.2.1 t).2.2.1 (S.2.1 t).2.2.2.1))
    (hv : r2 = nI (M.2.1 j).2.2 ∧ M1 = mO (thM M 0) t (ovl (M.2.1 j).1 (M.2.1 t).1 (M.2.1 j).2.2, ovl (M.2.1 j).2.1 (M.2.1 t).2.1 (M.2.1 j).2.2, (M.2.1 j).2.2)) : Ans r r2 S1 M1 := by
  rw [hw.1, hw.2, hv.1, hv.2, T.n hj]
  refine ⟨(T.th 0).ord ⟨rfl, fun x hx => ?_⟩, rfl, rfl⟩
  have hx : x < (M.2.1 j).2.2 := hx
  show apn (S.2.1 t).1 (S.2.1 j).1 0 (M.2.1 j).2.2 x = ovl (M.2.1 j).1 (M.2.1 t).1 (M.2.1 j).2.2 x ∧ apn (S.2.1 t).2.1 (S.2.1 j).2.1 0 (M.2.1 j).2.2 x = ovl (M.2.1 j).2.1 (M.2.1 t).2.1 (M.2.1 j).2.2 x
  rw [apn0 _ _ hx, apn0 _ _ hx, ovl_in0 _ _ hx, ovl_in0 _ _ hx]
  exact (T.or hj).2 x hx
theorem A_turn (T : Tie S M) (hj : j < 4) (hw : r = nI (cntB (ovl (fun k => !(S.2.1 j).2.1 k) (S.2.1 j).2.1 (S.2.1 j).2.2.2.2.1) (S.2.1 j).2.2.2.2.1) ∧ S1 = xO S j (newO ((S.2.1 j).1) (ovl (fun k => !(S.2.1 j).2.1 k) (S.2.1 j).2.1 (S.2.1 j).2.2.2.2.1) ((S.2.1 j).2.2.2.2.1) (S.2.1 j).2.2.1 (S.2.1 j).2.2.2.1))
    (hv : r2 = nI (cntB (fun k => !(M.2.1 j).2.1 k) (M.2.1 j).2.2) ∧ M1 = mO (thM M 0) j ((M.2.1 j).1, ovl (fun k => !(M.2.1 j).2.1 k) (M.2.1 j).2.1 ((M.2.1 j).2.2), (M.2.1 j).2.2)) : Ans r r2 S1 M1 := by
  rw [hw.1, hw.2, hv.1, hv.2, T.n hj]
  refine ⟨(T.th 0).ord ⟨rfl, fun x hx => ?_⟩, ?_, rfl⟩
  · have hx : x < (M.2.1 j).2.2 := hx
    show (S.2.1 j).1 x = (M.2.1 j).1 x ∧ ovl (fun k => !(S.2.1 j).2.1 k) (S.2.1 j).2.1 (M.2.1 j).2.2 x = ovl (fun k => !(M.2.1 j).2.1 k) (M.2.1 j).2.1 (M.2.1 j).2.2 x
    rw [ovl_in0 _ _ hx, ovl_in0 _ _ hx, ((T.or hj).2 x hx).2]
    exact ⟨((T.or hj).2 x hx).1, rfl⟩
  · refine congrArg nI (cntB_cong (fun x hx => ?_))
    rw [ovl_in0 _ _ hx, ((T.or hj).2 x hx).2]
theorem prod_T {j2 : Nat} (T : Tie S M) (hj : j < 4) (hj2 : j2 < 4) (a : OrdS) (b : OrdM) : ordT (copyO a (prodO S j j2)) (ovl (prK (M.2.1 j).1 (M.2.1 j2).1 (M.2.1 j).2.2) b.1 ((M.2.1 j).2.2 + (M.2.1 j2).2.2), ovl (prK (M.2.1 j).2.1 (M.2.1 j2).2.1 (M.2.1 j).2.2) b.2.1 ((M.2.1 j).2.2 + (M.2.1 j2).2.2), (M.2.1 j).2.2 + (M.2.1 j2).2.2) := by
  have e1 := T.n hj
  have e2 := T.n hj2
  refine ⟨?_, fun x hx => ?_⟩
  · show (S.2.1 j).2.2.2.2.1 + (S.2.1 j2).2.2.2.2.1 = (M.2.1 j).2.2 + (M.2.1 j2).2.2
    rw [e1, e2]
  · have hx : x < (M.2.1 j).2.2 + (M.2.1 j2).2.2 := hx
    show apn a.1 (apn (apn ((S.2.1 4).1) ((S.2.1 j).1) 0 ((S.2.1 j).2.2.2.2.1)) (S.2.1 j2).1 (S.2.1 j).2.2.2.2.1 (S.2.1 j2).2.2.2.2.1) 0 ((S.2.1 j).2.2.2.2.1 + (S.2.1 j2).2.2.2.2.1) x = ovl (prK (M.2.1 j).1 (M.2.1 j2).1 (M.2.1 j).2.2) b.1 ((M.2.1 j).2.2 + (M.2.1 j2).2.2) x ∧ apn a.2.1 (apn (apn ((S.2.1 4).2.1) ((S.2.1 j).2.1) 0 ((S.2.1 j).2.2.2.2.1)) (S.2.1 j2).2.1 (S.2.1 j).2.2.2.2.1 (S.2.1 j2).2.2.2.2.1) 0 ((S.2.1 j).2.2.2.2.1 + (S.2.1 j2).2.2.2.2.1) x = ovl (prK (M.2.1 j).2.1 (M.2.1 j2).2.1 (M.2.1 j).2.2) b.2.1 ((M.2.1 j).2.2 + (M.2.1 j2).2.2) x
    rw [e1, e2, apn0 _ _ hx, apn0 _ _ hx, ovl_in0 _ _ hx, ovl_in0 _ _ hx]
    by_cases h : x < (M.2.1 j).2.2
    · have no : ¬ ((M.2.1 j).2.2 ≤ x ∧ x < (M.2.1 j).2.2 + (M.2.1 j2).2.2) := fun z => by omega
      have q1 : ∀ {α : Type} (f g h9 : Nat → α), apn (apn f g 0 (M.2.1 j).2.2) h9 (M.2.1 j).2.2 (M.2.1 j2).2.2 x = g x := fun f g h9 => by
        show (if (M.2.1 j).2.2 ≤ x ∧ x < (M.2.1 j).2.2 + (M.2.1 j2).2.2 then h9 (x - (M.2.1 j).2.2) else apn f g 0 (M.2.1 j).2.2 x) = g x
        rw [if_neg no, apn0 _ _ h]
      rw [q1, q1, prK_lo h, prK_lo h]
      exact (T.or hj).2 x h
    · have yes : (M.2.1 j).2.2 ≤ x ∧ x < (M.2.1 j).2.2 + (M.2.1 j2).2.2 := ⟨by omega, hx⟩
      have q1 : ∀ {α : Type} (f h9 : Nat → α), apn f h9 (M.2.1 j).2.2 (M.2.1 j2).2.2 x = h9 (x - (M.2.1 j).2.2) := fun f h9 => if_pos yes
      rw [q1, q1, prK_hi yes.1, prK_hi yes.1]
      exact (T.or hj2).2 _ (by omega)
theorem A_product {j2 j3 : Nat} (T : Tie S M) (hj : j < 4) (hj2 : j2 < 4) (hj3 : j3 < 4) (hw : ((S.2.1 j).2.2.2.2.1 + (S.2.1 j2).2.2.2.2.1 ≤ 5 ∧ r = nI (copyO (S.2.1 j3) (prodO S j j2)).2.2.2.2.2 ∧ S1 = xO (xO S 4 (prodO S j j2)) j3 (copyO (S.2.1 j3) (prodO S j j2))) ∨ (5 < (S.2.1 j).2.2.2.2.1 + (S.2.1 j2).2.2.2.2.1 ∧ r = -9 ∧ S1 = refT S))
    (hv : ((M.2.1 j).2.2 + (M.2.1 j2).2.2 ≤ 5 ∧ r2 = nI (classC (cM M1 j3)) ∧ M1 = mO (thM M 0) j3 (ovl (prK (M.2.1 j).1 (M.2.1 j2).1 (M.2.1 j).2.2) (M.2.1 j3).1 ((M.2.1 j).2.2 + (M.2.1 j2).2.2), ovl (prK (M.2.1 j).2.1 (M.2.1 j2).2.1 (M.2.1 j).2.2) (M.2.1 j3).2.1 ((M.2.1 j).2.2 + (M.2.1 j2).2.2), ((M.2.1 j).2.2 + (M.2.1 j2).2.2))) ∨ (5 < (M.2.1 j).2.2 + (M.2.1 j2).2.2 ∧ r2 = -9 ∧ M1 = refM M)) : Ans r r2 S1 M1 := by
  have e1 := T.n hj
  have e2 := T.n hj2
  rcases hw with ⟨h1, h2, h3⟩ | ⟨h1, h2, h3⟩ <;> rcases hv with ⟨g1, g2, g3⟩ | ⟨g1, g2, g3⟩
  · have o := prod_T T hj hj2 (S.2.1 j3) (M.2.1 j3)
    refine ⟨?_, ?_, ?_⟩
    · rw [h3, g3]
      exact ((T.spO (a := prodO S j j2) (show 4 ≤ 4 by omega)).th 0).ord o
    · rw [h2, g2, g3, cM_mO]
      refine congrArg nI ?_
      show classC (codeOf (copyO (S.2.1 j3) (prodO S j j2)).1 (copyO (S.2.1 j3) (prodO S j j2)).2.1 (copyO (S.2.1 j3) (prodO S j j2)).2.2.2.2.1) = _
      refine classC_cong (fun v _ => ?_)
      rw [o.1]
      exact codeOf_cong o.2
    · rw [g3]; rfl
  · omega
  · omega
  · rw [h2, g2, h3, g3]
    exact ⟨T.ref, rfl, rfl⟩
theorem A_tell {v v2 : Nat} (T : Tie S M) (hI : InvX S) (hj : j < 4) (hv1 : v < 16) (hv2 : v2 < 16) (hw : (v ≠ v2 ∧ (S.2.1 j).2.2.1 v = (S.2.1 j).2.2.1 v2 ∧ (S.2.1 j).2.2.2.2.1 < 5 ∧ r = nI (coarse (coarseC (S.2.1 j)) (keyApart v v2) 8).2 ∧ ∃ o4, ordOK o4 ∧ S1 = xO (xO S 4 o4) j (newO (va_up (S.2.1 j).1 (S.2.1 j).2.2.2.2.1 (coarse (coarseC (S.2.1 j)) (keyApart v v2) 8).2) (va_up (S.2.1 j).2.1 (S.2.1 j).2.2.2.2.1 false) ((S.2.1 j).2.2.2.2.1 + 1) (S.2.1 j).2.2.1 (S.2.1 j).2.2.2.1)) ∨ ((v = v2 ∨ (S.2.1 j).2.2.1 v ≠ (S.2.1 j).2.2.1 v2 ∨ 5 ≤ (S.2.1 j).2.2.2.2.1) ∧ r = -9 ∧ S1 = refT S))
    (hv : (v ≠ v2 ∧ cM M j v = cM M j v2 ∧ (M.2.1 j).2.2 < 5 ∧ r2 = nI (coarse (coaM M j) (keyApart v v2) 8).2 ∧ ∃ (K9 : Nat → Nat) (D9 : Nat → Bool), (∀ x, x < (M.2.1 j).2.2 → K9 x = (M.2.1 j).1 x ∧ D9 x = (M.2.1 j).2.1 x) ∧ (∀ x, x < 5 → K9 x < 8) ∧ M1 = mO (thM M 0) j (va_up K9 (M.2.1 j).2.2 (coarse (coaM M j) (keyApart v v2) 8).2, va_up D9 (M.2.1 j).2.2 false, (M.2.1 j).2.2 + 1)) ∨ ((v = v2 ∨ cM M j v ≠ cM M j v2 ∨ 5 ≤ (M.2.1 j).2.2) ∧ r2 = -9 ∧ M1 = refM M)) : Ans r r2 S1 M1 := by
  have e := T.n hj
  have c1 := T.code hI hj hv1
  have c2 := T.code hI hj hv2
  have cc := T.coa hj
  rcases hw with ⟨h0, h1, h2, h3, o4, -, h4⟩ | ⟨h1, h2, h3⟩ <;> rcases hv with ⟨g0, g1, g2, g3, K9, D9, g4, -, g5⟩ | ⟨g1, g2, g3⟩
  · refine ⟨?_, ?_, ?_⟩
    · rw [h4, g5]
      refine ((T.spO (a := o4) (show 4 ≤ 4 by omega)).th 0).ord ?_
      rw [cc]
      refine ⟨congrArg (· + 1) e, fun x hx => ?_⟩
      have hx : x < (M.2.1 j).2.2 + 1 := hx
      have w := ordT_app (T.or hj) (coarse (coaM M j) (keyApart v v2) 8).2 false x hx
      show va_up (S.2.1 j).1 (S.2.1 j).2.2.2.2.1 (coarse (coaM M j) (keyApart v v2) 8).2 x = va_up K9 (M.2.1 j).2.2 (coarse (coaM M j) (keyApart v v2) 8).2 x ∧ va_up (S.2.1 j).2.1 (S.2.1 j).2.2.2.2.1 false x = va_up D9 (M.2.1 j).2.2 false x
      rw [w.1, w.2]
      unfold va_up
      by_cases e9 : x = (M.2.1 j).2.2
      · rw [if_pos e9, if_pos e9, if_pos e9, if_pos e9]; exact ⟨rfl, rfl⟩
      · rw [if_neg e9, if_neg e9, if_neg e9, if_neg e9, (g4 x (by omega)).1, (g4 x (by omega)).2]; exact ⟨rfl, rfl⟩
    · rw [h3, g3, cc]
    · rw [g5]; rfl
  · rw [c1, c2] at h1
    rcases g1 with g1 | g1 | g1
    · exact absurd g1 h0
    · exact absurd h1 g1
    · omega
  · rw [c1, c2] at h1
    rcases h1 with h1 | h1 | h1
    · exact absurd h1 g0
    · exact absurd g1 h1
    · omega
  · rw [h2, g2, h3, g3]
    exact ⟨T.ref, rfl, rfl⟩
theorem A_eq {x y : Int32} (T : Tie S M) (e : x = y) (hw : r = x ∧ S1 = S) (hv : r2 = y ∧ M1 = thM M 0) : Ans r r2 S1 M1 := by
  rw [hw.1, hw.2, hv.1, hv.2, e]
  exact ⟨T.th 0, rfl, rfl⟩
theorem A_compare {v v2 : Nat} (T : Tie S M) (hI : InvX S) (hj : j < 4) (hv1 : v < 16) (hv2 : v2 < 16) (hw : r = cmpI ((S.2.1 j).2.2.1 v) ((S.2.1 j).2.2.1 v2) ∧ S1 = S) (hv : r2 = cmpI (cM M j v) (cM M j v2) ∧ M1 = thM M 0) : Ans r r2 S1 M1 := A_eq T (by rw [T.code hI hj hv1, T.code hI hj hv2]) hw hv
theorem A_both {j2 v v2 : Nat} (T : Tie S M) (hI : InvX S) (hj : j < 4) (hj2 : j2 < 4) (hv1 : v < 16) (hv2 : v2 < 16) (hw : r = bothI ((S.2.1 j).2.2.1 v) ((S.2.1 j).2.2.1 v2) ((S.2.1 j2).2.2.1 v) ((S.2.1 j2).2.2.1 v2) ∧ S1 = S) (hv : r2 = bothI (cM M j v) (cM M j v2) (cM M j2 v) (cM M j2 v2) ∧ M1 = thM M 0) : Ans r r2 S1 M1 := A_eq T (by rw [T.code hI hj hv1, T.code hI hj hv2, T.code hI hj2 hv1, T.code hI hj2 hv2]) hw hv
theorem A_refines {j2 : Nat} (T : Tie S M) (hI : InvX S) (hj : j < 4) (hj2 : j2 < 4) (hw : r = bI (finerB (S.2.1 j).2.2.1 (S.2.1 j2).2.2.1) ∧ S1 = S) (hv : r2 = bI (finerB (cM M j) (cM M j2)) ∧ M1 = thM M 0) : Ans r r2 S1 M1 := A_eq T (congrArg bI (finerB_cong (fun _ h => T.code hI hj h) (fun _ h => T.code hI hj2 h))) hw hv
theorem A_areSame {j2 : Nat} (T : Tie S M) (hI : InvX S) (hj : j < 4) (hj2 : j2 < 4) (hw : r = bI (likeB (S.2.1 j).2.2.1 (S.2.1 j2).2.2.1) ∧ S1 = S) (hv : r2 = bI (sameM (cM M j) (cM M j2)) ∧ M1 = thM M 0) : Ans r r2 S1 M1 := A_eq T (congrArg bI (like_same (fun _ h => T.code hI hj h) (fun _ h => T.code hI hj2 h))) hw hv
theorem A_apart {j2 : Nat} (T : Tie S M) (hI : InvX S) (hj : j < 4) (hj2 : j2 < 4) (hw : r = nI (apartN (S.2.1 j).2.2.1 (S.2.1 j2).2.2.1) ∧ S1 = S) (hv : r2 = nI (apartM (cM M j) (cM M j2)) ∧ M1 = thM M 0) : Ans r r2 S1 M1 := A_eq T (congrArg nI (apart_eq (fun _ h => T.code hI hj h) (fun _ h => T.code hI hj2 h))) hw hv
theorem A_classes (T : Tie S M) (hI : InvX S) (hj : j < 4) (hw : r = nI (S.2.1 j).2.2.2.2.2 ∧ S1 = S) (hv : r2 = nI (classC (cM M j)) ∧ M1 = thM M 0) : Ans r r2 S1 M1 := A_eq T (congrArg nI (T.clas hI hj)) hw hv
theorem A_rank {v : Nat} (T : Tie S M) (hI : InvX S) (hj : j < 4) (hv1 : v < 16) (hw : r = nI ((S.2.1 j).2.2.2.1 v) ∧ S1 = S) (hv : r2 = nI (rankC (cM M j) v) ∧ M1 = thM M 0) : Ans r r2 S1 M1 := A_eq T (congrArg nI (T.rank hI hj hv1)) hw hv
theorem A_keyOf {v : Nat} (T : Tie S M) (hw : r = nI (numK k v) ∧ S1 = S) (hv : r2 = nI (numK k v) ∧ M1 = thM M 0) : Ans r r2 S1 M1 := A_eq T rfl hw hv
end TIE
theorem Tie_0 : Tie S00 M00 := ⟨fun _ _ => rfl, fun _ _ => ⟨rfl, fun _ h => absurd h (Nat.not_lt_zero _)⟩, rfl, rfl⟩
end
section
/-! rows too: what stands in each row, how many were refused -/
def XE (S : XS) (M : MS) : Prop := (∀ i, i < 3 → ∀ x, x < (M.1 i).2.2 → (S.1 i).1 x = (M.1 i).1 x ∧ (S.1 i).2.1 x = (M.1 i).2.1 x) ∧ S.2.2.2.1 = M.2.2.2.2.1
def Tie2 (S : XS) (M : MS) : Prop := Tie S M ∧ XE S M
def Ans2 (r r2 : Int32) (S1 : XS) (M1 : MS) : Prop := Tie2 S1 M1 ∧ r = r2 ∧ M1.2.2.1 = 0
theorem shr_E {f g : Nat → Nat} {n q v w : Nat} (h : ∀ x, x < n → f x = g x) (hv : v = w) (hq : q ≤ n) : ∀ x, x < n + 1 → va_up (shr f n q) q v x = va_up (shr g n q) q w x := fun x hx => by
  unfold va_up shr
  by_cases e : x = q
  · rw [if_pos e, if_pos e, hv]
  · rw [if_neg e, if_neg e]
    by_cases e2 : q < x ∧ x ≤ n
    · rw [if_pos e2, if_pos e2]; exact h _ (by omega)
    · rw [if_neg e2, if_neg e2]; exact h _ (by omega)
theorem apn_E {f g s t : Nat → Nat} {n k : Nat} (h : ∀ x, x < n → f x = g x) (h2 : ∀ x, x < k → s x = t x) : ∀ x, x < n + k → apn f s n k x = apn g t n k x := fun x hx => by
  unfold apn
  by_cases e : n ≤ x ∧ x < n + k
  · rw [if_pos e, if_pos e]; exact h2 _ (by omega)
  · rw [if_neg e, if_neg e]; exact h _ (by omega)
theorem shl_E {f g : Nat → Nat} {n q : Nat} (h : ∀ x, x < n → f x = g x) : ∀ x, x < n - 1 → shl f q (n - 1) x = shl g q (n - 1) x := fun x hx => by
  unfold shl
  by_cases e : q ≤ x ∧ x < n - 1
  · rw [if_pos e, if_pos e]; exact h _ (by omega)
  · rw [if_neg e, if_neg e]; exact h _ (by omega)
theorem rev_E {f g : Nat → Nat} {n : Nat} (h : ∀ x, x < n → f x = g x) : ∀ x, x < n → rev f n n x = rev g n n x := fun x hx => by
  unfold rev
  by_cases e : x < n ∧ (x < n ∨ n - 1 - x < n)
  · rw [if_pos e, if_pos e]; exact h _ (by omega)
  · rw [if_neg e, if_neg e]; exact h _ (by omega)
theorem xch_E {f g : Nat → Nat} {n a b : Nat} (h : ∀ x, x < n → f x = g x) (ha : a < n) (hb : b < n) : ∀ x, x < n → xch f a b x = xch g a b x := fun x hx => by
  rw [xch_at, xch_at, h a ha, h b hb, h x hx]
theorem seq_E {c d f g : Nat → Nat} {n : Nat} (h : ∀ x, x < n → c (f x) = d (g x)) : seqB c f n = seqB d g n := by
  unfold seqB
  refine decide_eq_decide.mpr ⟨fun z q hq => ?_, fun z q hq => ?_⟩
  · rw [← h q (by omega), ← h (q + 1) (by omega)]; exact z q hq
  · rw [h q (by omega), h (q + 1) (by omega)]; exact z q hq
theorem first_E {c d f g : Nat → Nat} {n : Nat} (h : ∀ x, x < n → c (f x) = d (g x)) {k : Nat} (hk : k < n) : firstB c f k = firstB d g k := by
  unfold firstB
  refine decide_eq_decide.mpr ⟨fun z q hq => ?_, fun z q hq => ?_⟩
  · rw [← h q (by omega), ← h k hk]; exact z q hq
  · rw [h q (by omega), h k hk]; exact z q hq
theorem best_E {p p2 : Nat → Bool} {lt lt2 : Nat → Nat → Bool} : ∀ {n : Nat}, (∀ x, x < n → p x = p2 x) → (∀ a b, a < n → b < n → lt a b = lt2 a b) → bestB p lt n = bestB p2 lt2 n
  | 0, _, _ => rfl
  | n + 1, h, h2 => by
    have ih := best_E (p := p) (p2 := p2) (lt := lt) (lt2 := lt2) (n := n) (fun x hx => h x (by omega)) (fun a b ha hb => h2 a b (by omega) (by omega))
    rw [bestB, bestB, ih, h n (by omega)]
    by_cases hp : p2 n = true
    · rw [if_pos hp, if_pos hp]
      cases hb : bestB p2 lt2 n with
      | none => rfl
      | some b =>
        have := (bestB_lt hb).1
        dsimp only
        rw [h2 n b (by omega) (by omega)]
    · rw [if_neg hp, if_neg hp]
theorem exM_E {R R2 : Nat → Nat} {z : Bool} : ∀ {n : Nat}, (∀ k, k < n → R k = R2 k) → exM R z n = exM R2 z n
  | 0, _ => rfl
  | n + 1, h => by rw [exM, exM, exM_E (fun k hk => h k (by omega)), h n (by omega)]
theorem ex_best {R : Nat → Nat} {lt : Nat → Nat → Bool} {z : Bool} : ∀ {n : Nat}, (∀ a b, a < n → b < n → lt a b = exB z (R b) (R a)) → exM R z n = (bestB (fun _ => true) lt n).map R
  | 0, _ => rfl
  | n + 1, h => by
    have ih := ex_best (R := R) (lt := lt) (z := z) (n := n) (fun a b ha hb => h a b (by omega) (by omega))
    cases hb : bestB (fun _ => true) lt n with
    | none =>
      rw [hb] at ih
      have ih : exM R z n = none := ih
      rw [exM_n ih, bestB_first rfl hb]
      rfl
    | some b =>
      rw [hb] at ih
      have ih : exM R z n = some (R b) := ih
      have hbn := (bestB_lt hb).1
      have hl := h n b (by omega) (by omega)
      by_cases e : lt n b = true
      · rw [exM_t ih (by rw [← hl]; exact e), bestB_new rfl hb e]
        rfl
      · have e2 : lt n b = false := Bool.eq_false_iff.mpr e
        rw [exM_f ih (by rw [← hl]; exact e2), bestB_old rfl hb e2]
        rfl
theorem exI_oI (o : Option Nat) (R : Nat → Nat) : exI o R = oI (o.map R) := by cases o <;> rfl
theorem mod_back {x sh n : Nat} (hx : x < n) (hs : sh < n) : ((x + n - sh) % n + sh) % n = x := by
  by_cases h : x < sh
  · rw [Nat.mod_eq_of_lt (show x + n - sh < n by omega), show x + n - sh + sh = x + n by omega, Nat.add_mod_right, Nat.mod_eq_of_lt hx]
  · rw [show x + n - sh = (x - sh) + n by omega, Nat.add_mod_right, Nat.mod_eq_of_lt (show x - sh < n by omega), show x - sh + sh = x by omega, Nat.mod_eq_of_lt hx]
theorem wheel_same {y : Int32} {n sh sh2 : Nat} (h0 : 0 < n) (hn : n ≤ 12) (hs : sh < n) (h1 : nI sh = fmv y (nI n)) (hs2 : sh2 < n) (h2 : y - y / nI n * nI n + nI n - (y - y / nI n * nI n + nI n) / nI n * nI n = nI sh2) : sh = sh2 := by
  have hN : (nI n).toInt = n := nI_toInt (by omega)
  have hlo : -(n : Int) < y.toInt.tmod n := by have := Int.lt_tmod_of_pos y.toInt (show (0 : Int) < n by omega); omega
  have hhi : y.toInt.tmod n < n := Int.tmod_lt_of_pos _ (by omega)
  have e1 : (y - y / nI n * nI n).toInt = y.toInt.tmod n := by rw [rem_toInt, hN]
  have e2 : (y - y / nI n * nI n + nI n).toInt = y.toInt.tmod n + n := by
    rw [Int32.toInt_add, e1, hN]
    exact Int.bmod_eq_of_le (by omega) (by omega)
  have e3 : (y - y / nI n * nI n + nI n - (y - y / nI n * nI n + nI n) / nI n * nI n).toInt = (y.toInt.tmod n + n).tmod n := by rw [rem_toInt, e2, hN]
  rw [h2, nI_toInt (by omega), Int.tmod_eq_emod_of_nonneg (by omega), Int.add_emod_right] at e3
  have e4 : (sh : Int) = (fmv y (nI n)).toInt := by rw [← h1, nI_toInt (by omega)]
  by_cases h : 0 ≤ y - y / nI n * nI n
  · have e5 : fmv y (nI n) = y - y / nI n * nI n := if_pos h
    rw [e5, e1] at e4
    rw [Int32.le_iff_toInt_le, Int32.toInt_zero, e1] at h
    rw [Int.emod_eq_of_lt h hhi] at e3
    omega
  · have e5 : fmv y (nI n) = y - y / nI n * nI n + nI n := if_neg h
    rw [e5, e2] at e4
    rw [Int32.le_iff_toInt_le, Int32.toInt_zero, e1] at h
    rw [← Int.add_emod_right, Int.emod_eq_of_lt (by omega) (by omega)] at e3
    omega
section TIE2
variable {S S1 : XS} {M M1 : MS} {i j u k : Nat} {r r2 : Int32}
theorem Ans.two (h : Ans r r2 S1 M1) (X : XE S1 M1) : Ans2 r r2 S1 M1 := ⟨⟨h.1, X⟩, h.2⟩
theorem Tie2.sz (T : Tie2 S M) (hi : i < 3) : (S.1 i).2.2 = (M.1 i).2.2 := T.1.sz hi
theorem Tie2.kn (T : Tie2 S M) : S.2.2.2.2 = M.2.2.2.2.2 := T.1.kn
theorem XE.th (X : XE S M) (u : Nat) : XE S (thM M u) := ⟨X.1, X.2⟩
theorem XE.ref (X : XE S M) : XE (refT S) (refM M) := ⟨X.1, congrArg (· + 1) X.2⟩
theorem XE.addN (X : XE S M) (k u : Nat) : XE (xN S (S.2.2.1 + k, S.2.2.2.1, S.2.2.2.2)) (mN M (u, M.2.2.2.1 + k, M.2.2.2.2)) := ⟨X.1, X.2⟩
theorem XE.row (X : XE S M) {a b : RowS} (h : ∀ x, x < b.2.2 → a.1 x = b.1 x ∧ a.2.1 x = b.2.1 x) : XE (xR S i a) (mR M i b) := by
  refine ⟨fun t ht x hx => ?_, X.2⟩
  by_cases e : t = i
  · subst e; rw [mR_row] at hx; rw [xR_row, mR_row]; exact h x hx
  · rw [mR_ne _ _ e] at hx; rw [xR_ne _ _ e, mR_ne _ _ e]; exact X.1 t ht x hx
theorem XE.ord (X : XE S M) {a : OrdS} {b : OrdM} : XE (xO S j a) (mO M j b) := ⟨X.1, X.2⟩
theorem XE.spO (X : XE S M) {a : OrdS} : XE (xO S j a) M := ⟨X.1, X.2⟩
theorem XE.spR (X : XE S M) {a : RowS} (h : 3 ≤ i) : XE (xR S i a) M := by
  refine ⟨fun t ht x hx => ?_, X.2⟩
  rw [xR_ne _ _ (show t ≠ i by omega)]
  exact X.1 t ht x hx
theorem Tie2.th (T : Tie2 S M) (u : Nat) : Tie2 S (thM M u) := ⟨T.1.th u, T.2.th u⟩
theorem Tie2.KA (T : Tie2 S M) (h : KA S S1) : Tie2 S1 M := by
  refine ⟨T.1.KA h, ?_⟩
  obtain ⟨-, h1, h2, -⟩ := h
  exact ⟨fun t ht x hx => by rw [h2 t (by omega)]; exact T.2.1 t ht x hx, by rw [h1]; exact T.2.2⟩
theorem Tie2.KR (T : Tie2 S M) (h : KR2 S S1) : Tie2 S1 M := by
  refine ⟨T.1.KR h, ?_⟩
  obtain ⟨h1, h2, -⟩ := h
  exact ⟨fun t ht x hx => by rw [h2 t (by omega)]; exact T.2.1 t ht x hx, by rw [h1]; exact T.2.2⟩
theorem A2_eq {x y : Int32} (T : Tie2 S M) (e : x = y) (hw : r = x ∧ S1 = S) (hv : r2 = y ∧ M1 = thM M 0) : Ans2 r r2 S1 M1 := by
  rw [hw.1, hw.2, hv.1, hv.2, e]
  exact ⟨T.th 0, rfl, rfl⟩
theorem E_row {a b : RowS} {P P2 : Prop} (X : XE S M) (h : ∀ x, x < b.2.2 → a.1 x = b.1 x ∧ a.2.1 x = b.2.1 x) (hw : P ∧ S1 = xR S i a) (hv : P2 ∧ M1 = mR (thM M 0) i b) : XE S1 M1 := by
  rw [hw.2, hv.2]
  exact (X.th 0).row h
theorem E_ord {a : OrdS} {b : OrdM} {P P2 : Prop} (X : XE S M) (hw : P ∧ S1 = xO S j a) (hv : P2 ∧ M1 = mO (thM M 0) j b) : XE S1 M1 := by
  rw [hw.2, hv.2]
  exact (X.th 0).ord
theorem E_same {P P2 : Prop} (X : XE S M) (hw : P ∧ S1 = S) (hv : P2 ∧ M1 = thM M 0) : XE S1 M1 := by
  rw [hw.2, hv.2]
  exact X.th 0
theorem E_put {q q2 v : Nat} (T : Tie S M) (X : XE S M) (hi : i < 3) (hq : q = q2) (hqn : q ≤ (S.1 i).2.2) (hw : ((S.1 i).2.2 < 12 ∧ r = nI S.2.2.1 ∧ S1 = placeT S i q v) ∨ (12 ≤ (S.1 i).2.2 ∧ r = -9 ∧ S1 = refT S)) (hv : ((M.1 i).2.2 < 12 ∧ r2 = nI M.2.2.2.1 ∧ M1 = placeM (thM M 0) i q2 v) ∨ (12 ≤ (M.1 i).2.2 ∧ r2 = -9 ∧ M1 = refM M)) : XE S1 M1 := by
  have e := T.sz hi
  subst hq
  rcases hw with ⟨h1, h2, h3⟩ | ⟨h1, h2, h3⟩ <;> rcases hv with ⟨g1, g2, g3⟩ | ⟨g1, g2, g3⟩
  · rw [h3, g3]
    refine (X.addN 1 0).row (fun x hx => ?_)
    have hx : x < (M.1 i).2.2 + 1 := hx
    show va_up (shr (S.1 i).1 (S.1 i).2.2 q) q v x = va_up (shr (M.1 i).1 (M.1 i).2.2 q) q v x ∧ va_up (shr (S.1 i).2.1 (S.1 i).2.2 q) q S.2.2.1 x = va_up (shr (M.1 i).2.1 (M.1 i).2.2 q) q M.2.2.2.1 x
    rw [e]
    exact ⟨shr_E (fun y hy => (X.1 i hi y hy).1) rfl (by omega) x hx, shr_E (fun y hy => (X.1 i hi y hy).2) T.pu (by omega) x hx⟩
  · omega
  · omega
  · rw [h3, g3]
    exact X.ref
theorem E_fill {k2 k3 : Nat} (T : Tie S M) (X : XE S M) (hi : i < 3) (hw : ((S.1 i).2.2 + k ≤ 12 ∧ r = nI ((S.1 i).2.2 + k) ∧ S1 = xR (xN S (S.2.2.1 + k, S.2.2.2.1, S.2.2.2.2)) i (apn (S.1 i).1 (fun x => (k2 + x * k3) % 16) (S.1 i).2.2 k, apn (S.1 i).2.1 (fun x => S.2.2.1 + x) (S.1 i).2.2 k, (S.1 i).2.2 + k)) ∨ (12 < (S.1 i).2.2 + k ∧ r = -9 ∧ S1 = refT S)) (hv : ((M.1 i).2.2 + k ≤ 12 ∧ r2 = nI ((M.1 i).2.2 + k) ∧ M1 = mR (mN M (0, M.2.2.2.1 + k, M.2.2.2.2)) i (apn (M.1 i).1 (fun x => (k2 + x * k3) % 16) (M.1 i).2.2 k, apn (M.1 i).2.1 (fun x => M.2.2.2.1 + x) (M.1 i).2.2 k, (M.1 i).2.2 + k)) ∨ (12 < (M.1 i).2.2 + k ∧ r2 = -9 ∧ M1 = refM M)) : XE S1 M1 := by
  have e := T.sz hi
  rcases hw with ⟨h1, h2, h3⟩ | ⟨h1, h2, h3⟩ <;> rcases hv with ⟨g1, g2, g3⟩ | ⟨g1, g2, g3⟩
  · rw [h3, g3]
    refine (X.addN k 0).row (fun x hx => ?_)
    have hx : x < (M.1 i).2.2 + k := hx
    show apn (S.1 i).1 (fun x => (k2 + x * k3) % 16) (S.1 i).2.2 k x = apn (M.1 i).1 (fun x => (k2 + x * k3) % 16) (M.1 i).2.2 k x ∧ apn (S.1 i).2.1 (fun x => S.2.2.1 + x) (S.1 i).2.2 k x = apn (M.1 i).2.1 (fun x => M.2.2.2.1 + x) (M.1 i).2.2 k x
    rw [e]
    exact ⟨apn_E (fun y hy => (X.1 i hi y hy).1) (fun _ _ => rfl) x hx, apn_E (fun y hy => (X.1 i hi y hy).2) (fun y _ => by show S.2.2.1 + y = M.2.2.2.1 + y; rw [T.pu]) x hx⟩
  · omega
  · omega
  · rw [h3, g3]
    exact X.ref
theorem E_clear {P P2 : Prop} (X : XE S M) {a b c d : Nat → Nat} (hw : P ∧ S1 = xR S i (a, b, 0)) (hv : P2 ∧ M1 = mR (thM M 0) i (c, d, 0)) : XE S1 M1 := E_row X (fun x hx => absurd hx (Nat.not_lt_zero x)) hw hv
theorem E_copyRow {t : Nat} {P P2 : Prop} (T : Tie S M) (X : XE S M) (hi : i < 3) (hw : P ∧ S1 = xR S t (ovl (S.1 i).1 (S.1 t).1 (S.1 i).2.2, ovl (S.1 i).2.1 (S.1 t).2.1 (S.1 i).2.2, (S.1 i).2.2)) (hv : P2 ∧ M1 = mR (thM M 0) t (ovl (M.1 i).1 (M.1 t).1 (M.1 i).2.2, ovl (M.1 i).2.1 (M.1 t).2.1 (M.1 i).2.2, (M.1 i).2.2)) : XE S1 M1 := by
  refine E_row X (fun x hx => ?_) hw hv
  have hx : x < (M.1 i).2.2 := hx
  have e := T.sz hi
  show ovl (S.1 i).1 (S.1 t).1 (S.1 i).2.2 x = ovl (M.1 i).1 (M.1 t).1 (M.1 i).2.2 x ∧ ovl (S.1 i).2.1 (S.1 t).2.1 (S.1 i).2.2 x = ovl (M.1 i).2.1 (M.1 t).2.1 (M.1 i).2.2 x
  rw [e, ovl_in hx, ovl_in hx, ovl_in hx, ovl_in hx]
  exact X.1 i hi x hx
theorem E_turnRow {P P2 : Prop} (T : Tie S M) (X : XE S M) (hi : i < 3) (hw : P ∧ S1 = xR S i (rev (S.1 i).1 (S.1 i).2.2 (S.1 i).2.2, rev (S.1 i).2.1 (S.1 i).2.2 (S.1 i).2.2, (S.1 i).2.2)) (hv : P2 ∧ M1 = mR (thM M 0) i (rev (M.1 i).1 (M.1 i).2.2 ((M.1 i).2.2), rev (M.1 i).2.1 (M.1 i).2.2 ((M.1 i).2.2), (M.1 i).2.2)) : XE S1 M1 := by
  refine E_row X (fun x hx => ?_) hw hv
  have hx : x < (M.1 i).2.2 := hx
  have e := T.sz hi
  show rev (S.1 i).1 (S.1 i).2.2 (S.1 i).2.2 x = rev (M.1 i).1 (M.1 i).2.2 (M.1 i).2.2 x ∧ rev (S.1 i).2.1 (S.1 i).2.2 (S.1 i).2.2 x = rev (M.1 i).2.1 (M.1 i).2.2 (M.1 i).2.2 x
  rw [e]
  exact ⟨rev_E (fun y hy => (X.1 i hi y hy).1) x hx, rev_E (fun y hy => (X.1 i hi y hy).2) x hx⟩
theorem A_drop {q : Nat} (T : Tie S M) (X : XE S M) (hi : i < 3) (hq : q < (S.1 i).2.2) (hw : r = nI ((S.1 i).2.1 q) ∧ S1 = xR S i (shl (S.1 i).1 q ((S.1 i).2.2 - 1), shl (S.1 i).2.1 q ((S.1 i).2.2 - 1), (S.1 i).2.2 - 1)) (hv : r2 = nI ((M.1 i).2.1 q) ∧ M1 = mR (thM M 0) i (shl (M.1 i).1 q ((M.1 i).2.2 - 1), shl (M.1 i).2.1 q ((M.1 i).2.2 - 1), (M.1 i).2.2 - 1)) : Ans2 r r2 S1 M1 := by
  have e := T.sz hi
  refine ⟨⟨B_drop T hi hw hv, E_row X (fun x hx => ?_) hw hv⟩, ?_, by rw [hv.2]; rfl⟩
  · have hx : x < (M.1 i).2.2 - 1 := hx
    show shl (S.1 i).1 q ((S.1 i).2.2 - 1) x = shl (M.1 i).1 q ((M.1 i).2.2 - 1) x ∧ shl (S.1 i).2.1 q ((S.1 i).2.2 - 1) x = shl (M.1 i).2.1 q ((M.1 i).2.2 - 1) x
    rw [e]
    exact ⟨shl_E (fun y hy => (X.1 i hi y hy).1) x hx, shl_E (fun y hy => (X.1 i hi y hy).2) x hx⟩
  · rw [hw.1, hv.1, (X.1 i hi q (by omega)).2]
theorem A_swap {q q2 : Nat} (T : Tie S M) (X : XE S M) (hi : i < 3) (hq : q < (S.1 i).2.2) (hq2 : q2 < (S.1 i).2.2) (hw : r = (if xch (S.1 i).1 q q2 q = xch (S.1 i).1 q q2 q2 then 0 else 1) ∧ S1 = xR S i (xch (S.1 i).1 q q2, xch (S.1 i).2.1 q q2, (S.1 i).2.2)) (hv : r2 = (if xch (M.1 i).1 q q2 q = xch (M.1 i).1 q q2 q2 then 0 else 1) ∧ M1 = mR (thM M 0) i (xch (M.1 i).1 q q2, xch (M.1 i).2.1 q q2, (M.1 i).2.2)) : Ans2 r r2 S1 M1 := by
  have e := T.sz hi
  have hV := xch_E (a := q) (b := q2) (fun y hy => (X.1 i hi y hy).1) (by omega) (by omega)
  have hK := xch_E (a := q) (b := q2) (fun y hy => (X.1 i hi y hy).2) (by omega) (by omega)
  refine ⟨⟨B_swap T hi hw hv, E_row (a := (xch (S.1 i).1 q q2, xch (S.1 i).2.1 q q2, (S.1 i).2.2)) (b := (xch (M.1 i).1 q q2, xch (M.1 i).2.1 q q2, (M.1 i).2.2)) X (fun x hx => ⟨hV x hx, hK x hx⟩) hw hv⟩, ?_, by rw [hv.2]; rfl⟩
  rw [hw.1, hv.1, hV q (by omega), hV q2 (by omega)]
theorem A_wheel {y : Int32} (T : Tie S M) (X : XE S M) (hi : i < 3) (h12 : (M.1 i).2.2 ≤ 12) (hw : ((S.1 i).2.2 = 0 ∧ r = -1 ∧ S1 = S) ∨ (0 < (S.1 i).2.2 ∧ ∃ (sh : Nat) (r4 r' : RowS), r = nI (r'.2.1 0) ∧ sh < (S.1 i).2.2 ∧ nI sh = fmv y (nI (S.1 i).2.2) ∧ S1 = xR (xR S 4 r4) i r' ∧ rowOK r4 ∧ rowOK r' ∧ r'.2.2 = (S.1 i).2.2 ∧ (∀ x, x < (S.1 i).2.2 → r'.1 ((x + sh) % (S.1 i).2.2) = (S.1 i).1 x) ∧ ∀ x, x < (S.1 i).2.2 → r'.2.1 ((x + sh) % (S.1 i).2.2) = (S.1 i).2.1 x)) (hv : ((M.1 i).2.2 = 0 ∧ r2 = -1 ∧ M1 = thM M 0) ∨ (0 < (M.1 i).2.2 ∧ ∃ sh, sh < (M.1 i).2.2 ∧ y - y / nI (M.1 i).2.2 * nI (M.1 i).2.2 + nI (M.1 i).2.2 - (y - y / nI (M.1 i).2.2 * nI (M.1 i).2.2 + nI (M.1 i).2.2) / nI (M.1 i).2.2 * nI (M.1 i).2.2 = nI sh ∧ r2 = nI (rotI (M.1 i).2.1 (M.1 i).2.2 sh 0) ∧ M1 = mR (thM M 0) i (rotI (M.1 i).1 (M.1 i).2.2 sh, rotI (M.1 i).2.1 (M.1 i).2.2 sh, (M.1 i).2.2))) : Ans2 r r2 S1 M1 := by
  have e := T.sz hi
  rcases hw with ⟨h1, h2, h3⟩ | ⟨h1, sh, r4, r', h2, h3, h4, h5, -, -, h6, h7, h8⟩ <;> rcases hv with ⟨g1, g2, g3⟩ | ⟨g1, s9, g2, g3, g4, g5⟩
  · rw [h2, g2, h3, g3]
    exact ⟨⟨T.th 0, X.th 0⟩, rfl, rfl⟩
  · omega
  · omega
  · rw [e] at h3 h4 h7 h8
    obtain rfl := wheel_same (y := y) g1 h12 h3 h4 g2 g3
    have el : ∀ {f g V : Nat → Nat}, (∀ x, x < (M.1 i).2.2 → f ((x + sh) % (M.1 i).2.2) = V x) → (∀ x, x < (M.1 i).2.2 → V x = g x) → ∀ x, x < (M.1 i).2.2 → f x = rotI g (M.1 i).2.2 sh x := fun {f g V} hf hg x hx => by
      have hm : (x + (M.1 i).2.2 - sh) % (M.1 i).2.2 < (M.1 i).2.2 := Nat.mod_lt _ (by omega)
      rw [rot_at (by omega) hx, ← hg _ hm, ← hf _ hm, mod_back hx h3]
    have hr : ∀ x, x < (M.1 i).2.2 → r'.1 x = rotI (M.1 i).1 (M.1 i).2.2 sh x ∧ r'.2.1 x = rotI (M.1 i).2.1 (M.1 i).2.2 sh x := fun x hx => ⟨el h7 (fun z hz => (X.1 i hi z hz).1) x hx, el h8 (fun z hz => (X.1 i hi z hz).2) x hx⟩
    refine ⟨⟨?_, ?_⟩, ?_, by rw [g5]; rfl⟩
    · rw [h5, g5]
      exact ((T.spR (a := r4) (show 3 ≤ 4 by omega)).th 0).row (h6.trans e)
    · rw [h5, g5]
      exact ((X.spR (a := r4) (show 3 ≤ 4 by omega)).th 0).row hr
    · rw [h2, g4, (hr 0 g1).2]
theorem A_sort {q q2 : Nat} (T : Tie S M) (X : XE S M) (hI : InvX S) (hi : i < 3) (hj : j < 4) (hqq : q ≤ q2) (hq2 : q2 ≤ (S.1 i).2.2) (hw : r = nI (cntB (fun k => decide ((S1.1 i).2.1 k ≠ (S.1 i).2.1 k)) (S.1 i).2.2) ∧ sortA S S1 i ∧ SP (S.2.1 j).2.2.1 ((S.1 i).1, (S.1 i).2.1) ((S1.1 i).1, (S1.1 i).2.1) q q2 ∧ srt (S.2.1 j).2.2.1 (S1.1 i).1 q q2) (hv : r2 = nI (difN (srtM M i j q q2).2 (M.1 i).2.1 q (q2 - q)) ∧ M1 = mR (thM M 0) i ((srtM M i j q q2).1, (srtM M i j q q2).2, (M.1 i).2.2)) : Ans2 r r2 S1 M1 := by
  have e := T.sz hi
  obtain ⟨w1, w2, w3, w4⟩ := hw
  have o1 := hI.1 i (by omega)
  have o2 : rowOK (S1.1 i) := w2.2.2.2.2.1
  have hn := o1.1
  have c1 : ∀ x, q ≤ x → x < q2 → (S.2.1 j).2.2.1 ((S.1 i).1 x) = cM M j ((S.1 i).1 x) := fun x _ hx => T.code hI hj (o1.2 x (by omega)).1
  have c2 : ∀ x, q ≤ x → x < q2 → (S.2.1 j).2.2.1 ((S1.1 i).1 x) = cM M j ((S1.1 i).1 x) := fun x _ hx => T.code hI hj (o2.2 x (by omega)).1
  have m1 := SP.cong (d := cM M j) w3 c1 c2
  have m2 := srt.cong (d := cM M j) w4 c2
  have hE : ∀ x, x < (M.1 i).2.2 → (S1.1 i).1 x = (srtM M i j q q2).1 x ∧ (S1.1 i).2.1 x = (srtM M i j q q2).2 x := SP.eq (N := (M.1 i).2.2) m1 m2 (rnd_SP (c := cM M j) (p := ((M.1 i).1, (M.1 i).2.1)) (f := q) (e := q2)) rnd_srt hqq (by omega) (fun x hx => X.1 i hi x hx)
  refine ⟨⟨?_, ?_, ?_⟩, ?_, by rw [hv.2]; rfl⟩
  · rw [hv.2]
    exact T.sortA w2 rfl hi
  · intro t ht x hx
    rw [hv.2] at hx ⊢
    by_cases e9 : t = i
    · subst e9
      rw [mR_row] at hx ⊢
      exact hE x hx
    · rw [mR_ne _ _ e9] at hx ⊢
      rw [w2.2.1 t e9 (by omega) (by omega)]
      exact X.1 t ht x hx
  · rw [hv.2, w2.1]
    exact X.2
  · rw [w1, hv.1]
    refine congrArg nI ?_
    have k1 : cntB (fun k => decide ((S1.1 i).2.1 k ≠ (S.1 i).2.1 k)) (S.1 i).2.2 = cntB (fun a => decide ((S1.1 i).2.1 (q + a) ≠ (S.1 i).2.1 (q + a))) (q2 - q) := cnt_seg (fun k hk hk2 => decide_eq_false (fun z => z (w3.1 k hk2).2)) hqq hq2
    rw [k1]
    unfold difN
    exact cntB_cong (fun a ha => by rw [(hE (q + a) (by omega)).2, (X.1 i hi (q + a) (by omega)).2])
theorem A_sort0 (T : Tie S M) (X : XE S M) (hI : InvX S) (hi : i < 3) (hj : j < 4) (hw : r = nI (cntB (fun k => decide ((S1.1 i).2.1 k ≠ (S.1 i).2.1 k)) (S.1 i).2.2) ∧ sortA S S1 i ∧ SP (S.2.1 j).2.2.1 ((S.1 i).1, (S.1 i).2.1) ((S1.1 i).1, (S1.1 i).2.1) 0 (S.1 i).2.2 ∧ srt (S.2.1 j).2.2.1 (S1.1 i).1 0 (S.1 i).2.2) (hv : r2 = nI (difN (srtM M i j 0 (M.1 i).2.2).2 (M.1 i).2.1 0 ((M.1 i).2.2 - 0)) ∧ M1 = mR (thM M 0) i ((srtM M i j 0 (M.1 i).2.2).1, (srtM M i j 0 (M.1 i).2.2).2, (M.1 i).2.2)) : Ans2 r r2 S1 M1 := by
  have e := T.sz hi
  obtain ⟨w1, w2, w3, w4⟩ := hw
  exact A_sort (q := 0) (q2 := (M.1 i).2.2) T X hI hi hj (Nat.zero_le _) (by omega) ⟨w1, w2, by rw [← e]; exact w3, by rw [← e]; exact w4⟩ hv
theorem cod_at (T : Tie S M) (X : XE S M) (hI : InvX S) (hi : i < 3) (hj : j < 4) {x : Nat} (hx : x < (M.1 i).2.2) : (S.2.1 j).2.2.1 ((S.1 i).1 x) = cM M j ((M.1 i).1 x) := by
  have e := T.sz hi
  have o := hI.1 i (by omega)
  have on := o.1
  rw [← (X.1 i hi x hx).1]
  exact T.code hI hj (o.2 x (by omega)).1
theorem rk_at (T : Tie S M) (X : XE S M) (hI : InvX S) (hi : i < 3) (hj : j < 4) {x : Nat} (hx : x < (M.1 i).2.2) : (S.2.1 j).2.2.2.1 ((S.1 i).1 x) = rankC (cM M j) ((M.1 i).1 x) := by
  have e := T.sz hi
  have o := hI.1 i (by omega)
  have on := o.1
  rw [← (X.1 i hi x hx).1]
  exact T.rank hI hj (o.2 x (by omega)).1
theorem A_isSorted (T : Tie S M) (X : XE S M) (hI : InvX S) (hi : i < 3) (hj : j < 4) (hw : r = bI (seqB (S.2.1 j).2.2.1 (S.1 i).1 (S.1 i).2.2) ∧ S1 = S) (hv : r2 = bI (seqB (cM M j) (M.1 i).1 (M.1 i).2.2) ∧ M1 = thM M 0) : Ans2 r r2 S1 M1 := by
  refine A2_eq ⟨T, X⟩ (congrArg bI ?_) hw hv
  rw [T.sz hi]
  exact seq_E (fun x hx => cod_at T X hI hi hj hx)
theorem A_valueAt {q : Nat} (T : Tie S M) (X : XE S M) (hi : i < 3) (hq : q < (S.1 i).2.2) (hw : r = nI ((S.1 i).1 q) ∧ S1 = S) (hv : r2 = nI ((M.1 i).1 q) ∧ M1 = thM M 0) : Ans2 r r2 S1 M1 := A2_eq ⟨T, X⟩ (congrArg nI (X.1 i hi q (by rw [← T.sz hi]; exact hq)).1) hw hv
theorem A_markAt {q : Nat} (T : Tie S M) (X : XE S M) (hi : i < 3) (hq : q < (S.1 i).2.2) (hw : r = nI ((S.1 i).2.1 q) ∧ S1 = S) (hv : r2 = nI ((M.1 i).2.1 q) ∧ M1 = thM M 0) : Ans2 r r2 S1 M1 := A2_eq ⟨T, X⟩ (congrArg nI (X.1 i hi q (by rw [← T.sz hi]; exact hq)).2) hw hv
theorem A_extreme {z : Bool} (T : Tie S M) (X : XE S M) (hI : InvX S) (hi : i < 3) (hj : j < 4) (hw : r = exI (if z then bestB (fun _ => true) (fun a b => decide ((S.2.1 j).2.2.1 ((S.1 i).1 b) < (S.2.1 j).2.2.1 ((S.1 i).1 a))) (S.1 i).2.2 else bestB (fun _ => true) (fun a b => decide ((S.2.1 j).2.2.1 ((S.1 i).1 a) < (S.2.1 j).2.2.1 ((S.1 i).1 b))) (S.1 i).2.2) (fun b => (S.2.1 j).2.2.2.1 ((S.1 i).1 b)) ∧ S1 = S) (hv : r2 = oI (exM (fun k => rankC (cM M j) ((M.1 i).1 k)) z (M.1 i).2.2) ∧ M1 = thM M 0) : Ans2 r r2 S1 M1 := by
  refine A2_eq ⟨T, X⟩ ?_ hw hv
  have e := T.sz hi
  have o := hI.1 i (by omega)
  have on := o.1
  rw [exI_oI, ← exM_E (R := fun k => (S.2.1 j).2.2.2.1 ((S.1 i).1 k)) (fun k hk => rk_at T X hI hi hj hk), e]
  refine congrArg oI ?_
  have cmp : ∀ a b, a < (M.1 i).2.2 → b < (M.1 i).2.2 → ((S.2.1 j).2.2.1 ((S.1 i).1 a) < (S.2.1 j).2.2.1 ((S.1 i).1 b) ↔ (S.2.1 j).2.2.2.1 ((S.1 i).1 a) < (S.2.1 j).2.2.2.1 ((S.1 i).1 b)) := fun a b ha hb => ord_iff (hI.2 j (by omega)) (o.2 a (by omega)).1 (o.2 b (by omega)).1
  cases z with
  | true =>
    rw [if_pos rfl]
    exact (ex_best (fun a b ha hb => decide_eq_decide.mpr (cmp b a hb ha))).symm
  | false =>
    rw [if_neg Bool.false_ne_true]
    exact (ex_best (fun a b ha hb => decide_eq_decide.mpr (cmp a b ha hb))).symm
theorem A_search {v : Nat} (T : Tie S M) (X : XE S M) (hI : InvX S) (hi : i < 3) (hj : j < 4) (hv16 : v < 16) (hw : (seqB (S.2.1 j).2.2.1 (S.1 i).1 (S.1 i).2.2 = false ∧ r = -9 ∧ S1 = refT S) ∨ (seqB (S.2.1 j).2.2.1 (S.1 i).1 (S.1 i).2.2 = true ∧ r = (if ∃ k, k < (S.1 i).2.2 ∧ (S.2.1 j).2.2.1 ((S.1 i).1 k) = (S.2.1 j).2.2.1 v then 16 else nI (cntB (fun k => decide ((S.2.1 j).2.2.1 ((S.1 i).1 k) < (S.2.1 j).2.2.1 v)) (S.1 i).2.2)) ∧ S1 = S)) (hv : (seqB (cM M j) (M.1 i).1 (M.1 i).2.2 = false ∧ r2 = -9 ∧ M1 = refM M) ∨ (seqB (cM M j) (M.1 i).1 (M.1 i).2.2 = true ∧ r2 = (if ∃ k, k < (M.1 i).2.2 ∧ (cM M j) ((M.1 i).1 k) = (cM M j) v then 16 else nI (cntB (fun k => decide ((cM M j) ((M.1 i).1 k) < (cM M j) v)) (M.1 i).2.2)) ∧ M1 = thM M 0)) : Ans2 r r2 S1 M1 := by
  have e := T.sz hi
  have hc : (S.2.1 j).2.2.1 v = cM M j v := T.code hI hj hv16
  have hs : seqB (S.2.1 j).2.2.1 (S.1 i).1 (S.1 i).2.2 = seqB (cM M j) (M.1 i).1 (M.1 i).2.2 := by
    rw [e]
    exact seq_E (fun x hx => cod_at T X hI hi hj hx)
  rcases hw with ⟨h1, h2, h3⟩ | ⟨h1, h2, h3⟩ <;> rcases hv with ⟨g1, g2, g3⟩ | ⟨g1, g2, g3⟩
  · rw [h2, g2, h3, g3]
    exact ⟨⟨T.ref, X.ref⟩, rfl, rfl⟩
  · rw [hs, g1] at h1
    cases h1
  · rw [hs, g1] at h1
    cases h1
  · rw [h2, g2, h3, g3]
    refine ⟨⟨T.th 0, X.th 0⟩, ?_, rfl⟩
    by_cases hE : ∃ k, k < (M.1 i).2.2 ∧ cM M j ((M.1 i).1 k) = cM M j v
    · have hE2 : ∃ k, k < (S.1 i).2.2 ∧ (S.2.1 j).2.2.1 ((S.1 i).1 k) = (S.2.1 j).2.2.1 v := by
        obtain ⟨k, hk, hk2⟩ := hE
        exact ⟨k, by omega, by rw [cod_at T X hI hi hj hk, hc]; exact hk2⟩
      rw [if_pos hE, if_pos hE2]
    · have hE2 : ¬ ∃ k, k < (S.1 i).2.2 ∧ (S.2.1 j).2.2.1 ((S.1 i).1 k) = (S.2.1 j).2.2.1 v := by
        intro h9
        obtain ⟨k, hk, hk2⟩ := h9
        exact hE ⟨k, by omega, by rw [← cod_at T X hI hi hj (show k < (M.1 i).2.2 by omega), ← hc]; exact hk2⟩
      rw [if_neg hE, if_neg hE2, e]
      exact congrArg nI (cntB_cong (fun k hk => by rw [cod_at T X hI hi hj hk, hc]))
theorem A_near {v : Nat} (T : Tie S M) (X : XE S M) (hI : InvX S) (hi : i < 3) (hj : j < 4) (hv16 : v < 16) (hw : r = exI (bestB (fun x => sideB k ((S.2.1 j).2.2.1 ((S.1 i).1 x)) ((S.2.1 j).2.2.1 v)) (fun a b => nearB k ((S.2.1 j).2.2.1 ((S.1 i).1 a)) ((S.2.1 j).2.2.1 ((S.1 i).1 b))) (S.1 i).2.2) (S.1 i).2.1 ∧ S1 = S) (hv : r2 = exI (bestB (fun x => sideB k ((cM M j) ((M.1 i).1 x)) ((cM M j) v)) (fun a b => nearB k ((cM M j) ((M.1 i).1 a)) ((cM M j) ((M.1 i).1 b))) (M.1 i).2.2) (M.1 i).2.1 ∧ M1 = thM M 0) : Ans2 r r2 S1 M1 := by
  have e := T.sz hi
  have hc : (S.2.1 j).2.2.1 v = cM M j v := T.code hI hj hv16
  refine A2_eq ⟨T, X⟩ ?_ hw hv
  rw [e, best_E (p2 := fun x => sideB k ((cM M j) ((M.1 i).1 x)) ((cM M j) v)) (lt2 := fun a b => nearB k ((cM M j) ((M.1 i).1 a)) ((cM M j) ((M.1 i).1 b))) (fun x hx => by rw [cod_at T X hI hi hj hx, hc]) (fun a b ha hb => by rw [cod_at T X hI hi hj ha, cod_at T X hI hi hj hb])]
  cases hb : bestB (fun x => sideB k ((cM M j) ((M.1 i).1 x)) ((cM M j) v)) (fun a b => nearB k ((cM M j) ((M.1 i).1 a)) ((cM M j) ((M.1 i).1 b))) (M.1 i).2.2 with
  | none => rfl
  | some b => exact congrArg nI (X.1 i hi b (bestB_lt hb).1).2
theorem A_kinds (T : Tie S M) (X : XE S M) (hI : InvX S) (hi : i < 3) (hj : j < 4) (hw : r = nI (cntB (firstB (S.2.1 j).2.2.1 (S.1 i).1) (S.1 i).2.2) ∧ S1 = S) (hv : r2 = nI (cntB (firstB (cM M j) (M.1 i).1) (M.1 i).2.2) ∧ M1 = thM M 0) : Ans2 r r2 S1 M1 := by
  refine A2_eq ⟨T, X⟩ (congrArg nI ?_) hw hv
  rw [T.sz hi]
  exact cntB_cong (fun k hk => first_E (fun x hx => cod_at T X hI hi hj hx) hk)
theorem A_ahead {v : Nat} (T : Tie S M) (X : XE S M) (hI : InvX S) (hi : i < 3) (hj : j < 4) (hv16 : v < 16) (hw : r = nI (cntB (fun k => firstB (S.2.1 j).2.2.1 (S.1 i).1 k && decide ((S.2.1 j).2.2.1 ((S.1 i).1 k) < (S.2.1 j).2.2.1 v)) (S.1 i).2.2) ∧ S1 = S) (hv : r2 = nI (cntB (fun k => firstB (cM M j) (M.1 i).1 k && decide ((cM M j) ((M.1 i).1 k) < (cM M j) v)) (M.1 i).2.2) ∧ M1 = thM M 0) : Ans2 r r2 S1 M1 := by
  have hc : (S.2.1 j).2.2.1 v = cM M j v := T.code hI hj hv16
  refine A2_eq ⟨T, X⟩ (congrArg nI ?_) hw hv
  rw [T.sz hi]
  exact cntB_cong (fun k hk => by rw [first_E (fun x hx => cod_at T X hI hi hj hx) hk, cod_at T X hI hi hj hk, hc])
theorem cnt_T (T : Tie S M) (X : XE S M) (hk : k < 5) : countX S k = houM M k := by
  rcases (show k = 0 ∨ k = 1 ∨ k = 2 ∨ k = 3 ∨ k = 4 by omega) with rfl | rfl | rfl | rfl | rfl
  · exact sumN_cong (fun a ha => T.sz ha)
  · exact sumN_cong (fun a ha => T.n ha)
  · exact T.pu
  · exact X.2
  · exact T.kn
theorem A_house (T : Tie S M) (X : XE S M) (hk : k ≤ 4) (hw : r = nI (countX S k) ∧ S1 = S) (hv : r2 = nI (houM M k) ∧ M1 = thM M 0) : Ans2 r r2 S1 M1 := A2_eq ⟨T, X⟩ (congrArg nI (cnt_T T X (by omega))) hw hv
theorem E_step {z : Bool} (T : Tie S M) (X : XE S M) (hj : j < 4) (hw : ((S.2.1 j).2.2.2.2.1 < 5 ∧ r = nI (coarseD (S.2.1 j) k z) ∧ S1 = xO S j (newO (va_up (S.2.1 j).1 (S.2.1 j).2.2.2.2.1 k) (va_up (S.2.1 j).2.1 (S.2.1 j).2.2.2.2.1 z) ((S.2.1 j).2.2.2.2.1 + 1) (S.2.1 j).2.2.1 (S.2.1 j).2.2.2.1)) ∨ (5 ≤ (S.2.1 j).2.2.2.2.1 ∧ r = -9 ∧ S1 = refT S)) (hv : ((M.2.1 j).2.2 < 5 ∧ r2 = nI (classC (cM M1 j)) ∧ M1 = mO (thM M 0) j (va_up (M.2.1 j).1 (M.2.1 j).2.2 k, va_up (M.2.1 j).2.1 (M.2.1 j).2.2 z, (M.2.1 j).2.2 + 1)) ∨ (5 ≤ (M.2.1 j).2.2 ∧ r2 = -9 ∧ M1 = refM M)) : XE S1 M1 := by
  have e := T.n hj
  rcases hw with ⟨h1, h2, h3⟩ | ⟨h1, h2, h3⟩ <;> rcases hv with ⟨g1, g2, g3⟩ | ⟨g1, g2, g3⟩
  · rw [h3, g3]; exact (X.th 0).ord
  · omega
  · omega
  · rw [h3, g3]; exact X.ref
theorem E_unstep (T : Tie S M) (X : XE S M) (hj : j < 4) (hw : ((S.2.1 j).2.2.2.2.1 ≠ 0 ∧ r = nI ((S.2.1 j).1 ((S.2.1 j).2.2.2.2.1 - 1)) ∧ S1 = xO S j (newO ((S.2.1 j).1) ((S.2.1 j).2.1) ((S.2.1 j).2.2.2.2.1 - 1) (S.2.1 j).2.2.1 (S.2.1 j).2.2.2.1)) ∨ ((S.2.1 j).2.2.2.2.1 = 0 ∧ r = -9 ∧ S1 = refT S)) (hv : ((M.2.1 j).2.2 ≠ 0 ∧ r2 = nI ((M.2.1 j).1 ((M.2.1 j).2.2 - 1)) ∧ M1 = mO (thM M 0) j ((M.2.1 j).1, (M.2.1 j).2.1, (M.2.1 j).2.2 - 1)) ∨ ((M.2.1 j).2.2 = 0 ∧ r2 = -9 ∧ M1 = refM M)) : XE S1 M1 := by
  have e := T.n hj
  rcases hw with ⟨h1, h2, h3⟩ | ⟨h1, h2, h3⟩ <;> rcases hv with ⟨g1, g2, g3⟩ | ⟨g1, g2, g3⟩
  · rw [h3, g3]; exact (X.th 0).ord
  · omega
  · omega
  · rw [h3, g3]; exact X.ref
theorem E_product {j2 j3 : Nat} (T : Tie S M) (X : XE S M) (hj : j < 4) (hj2 : j2 < 4) (hw : ((S.2.1 j).2.2.2.2.1 + (S.2.1 j2).2.2.2.2.1 ≤ 5 ∧ r = nI (copyO (S.2.1 j3) (prodO S j j2)).2.2.2.2.2 ∧ S1 = xO (xO S 4 (prodO S j j2)) j3 (copyO (S.2.1 j3) (prodO S j j2))) ∨ (5 < (S.2.1 j).2.2.2.2.1 + (S.2.1 j2).2.2.2.2.1 ∧ r = -9 ∧ S1 = refT S)) (hv : ((M.2.1 j).2.2 + (M.2.1 j2).2.2 ≤ 5 ∧ r2 = nI (classC (cM M1 j3)) ∧ M1 = mO (thM M 0) j3 (ovl (prK (M.2.1 j).1 (M.2.1 j2).1 (M.2.1 j).2.2) (M.2.1 j3).1 ((M.2.1 j).2.2 + (M.2.1 j2).2.2), ovl (prK (M.2.1 j).2.1 (M.2.1 j2).2.1 (M.2.1 j).2.2) (M.2.1 j3).2.1 ((M.2.1 j).2.2 + (M.2.1 j2).2.2), ((M.2.1 j).2.2 + (M.2.1 j2).2.2))) ∨ (5 < (M.2.1 j).2.2 + (M.2.1 j2).2.2 ∧ r2 = -9 ∧ M1 = refM M)) : XE S1 M1 := by
  have e1 := T.n hj
  have e2 := T.n hj2
  rcases hw with ⟨h1, h2, h3⟩ | ⟨h1, h2, h3⟩ <;> rcases hv with ⟨g1, g2, g3⟩ | ⟨g1, g2, g3⟩
  · rw [h3, g3]; exact ((X.spO (j := 4)).th 0).ord
  · omega
  · omega
  · rw [h3, g3]; exact X.ref
theorem E_tell {v v2 : Nat} (T : Tie S M) (X : XE S M) (T1 : Tie S1 M1) (hj : j < 4) (hw : (v ≠ v2 ∧ (S.2.1 j).2.2.1 v = (S.2.1 j).2.2.1 v2 ∧ (S.2.1 j).2.2.2.2.1 < 5 ∧ r = nI (coarse (coarseC (S.2.1 j)) (keyApart v v2) 8).2 ∧ ∃ o4, ordOK o4 ∧ S1 = xO (xO S 4 o4) j (newO (va_up (S.2.1 j).1 (S.2.1 j).2.2.2.2.1 (coarse (coarseC (S.2.1 j)) (keyApart v v2) 8).2) (va_up (S.2.1 j).2.1 (S.2.1 j).2.2.2.2.1 false) ((S.2.1 j).2.2.2.2.1 + 1) (S.2.1 j).2.2.1 (S.2.1 j).2.2.2.1)) ∨ ((v = v2 ∨ (S.2.1 j).2.2.1 v ≠ (S.2.1 j).2.2.1 v2 ∨ 5 ≤ (S.2.1 j).2.2.2.2.1) ∧ r = -9 ∧ S1 = refT S)) (hv : (v ≠ v2 ∧ cM M j v = cM M j v2 ∧ (M.2.1 j).2.2 < 5 ∧ r2 = nI (coarse (coaM M j) (keyApart v v2) 8).2 ∧ ∃ (K9 : Nat → Nat) (D9 : Nat → Bool), (∀ x, x < (M.2.1 j).2.2 → K9 x = (M.2.1 j).1 x ∧ D9 x = (M.2.1 j).2.1 x) ∧ (∀ x, x < 5 → K9 x < 8) ∧ M1 = mO (thM M 0) j (va_up K9 (M.2.1 j).2.2 (coarse (coaM M j) (keyApart v v2) 8).2, va_up D9 (M.2.1 j).2.2 false, (M.2.1 j).2.2 + 1)) ∨ ((v = v2 ∨ cM M j v ≠ cM M j v2 ∨ 5 ≤ (M.2.1 j).2.2) ∧ r2 = -9 ∧ M1 = refM M)) : XE S1 M1 := by
  have e := T.n hj
  rcases hw with ⟨h0, h1, h2, h3, o4, -, h4⟩ | ⟨h1, h2, h3⟩ <;> rcases hv with ⟨g0, g1, g2, g3, K9, D9, g4, -, g5⟩ | ⟨g1, g2, g3⟩
  · rw [h4, g5]; exact ((X.spO (j := 4)).th 0).ord
  · have h9 := T1.n hj
    rw [h4, g3, xO_ord] at h9
    have h9 : (S.2.1 j).2.2.2.2.1 + 1 = (M.2.1 j).2.2 := h9
    omega
  · have h9 := T1.n hj
    rw [h3, g5, mO_ord] at h9
    have h9 : (S.2.1 j).2.2.2.2.1 = (M.2.1 j).2.2 + 1 := h9
    omega
  · rw [h3, g3]; exact X.ref
end TIE2
theorem Tie2_0 : Tie2 S00 M00 := ⟨Tie_0, fun _ _ _ h => absurd h (Nat.not_lt_zero _), rfl⟩
end
section
/-! the claim's room: only that it holds this much is used -/
theorem le_rc {k : Nat} (h : k ≤ 116000) : k ≤ room_1.cells := Nat.le_trans h (Nat.le_of_ble_eq_true rfl)
theorem le_rs {k : Nat} (h : k ≤ 5480000) : k ≤ room_1.slots := Nat.le_trans h (Nat.le_of_ble_eq_true rfl)
/-! the law: class, reference and answers side by side -/
def LK (dC : Nat → ClassId) (dI : Nat → Nat → Nat) (cB : ClassId) (ad am : Nat → Nat) (o : Nat) (s : State) : Prop := (va_K (dC, dI) vwCl (tyX dC) s) ∧ (va_K (dC, dI) vwCl (tyM dC) s) ∧ (va_K (dC, dI) vwCl [(cB, .byte)] s) ∧ (∀ S, va_D (AX ad) (wX dC ad S)) ∧ (∀ M, va_D (AM am) (wM dC am M)) ∧ (∀ q, AX ad q → zB s.heap.size q) ∧ (∀ q, AM am q → zB s.heap.size q) ∧ (zB s.heap.size o) ∧ (∀ q, AX ad q → ¬ AM am q) ∧ (¬ AX ad o) ∧ (¬ AM am o) ∧ (ZS s) ∧ (ZT s s.heap) ∧ (ZBA (zB s.heap.size) s s.heap) ∧ (NT s) ∧ (NF9 s) ∧ (va_Nc IA IX s) ∧ (CM (zB s.heap.size) s s.heap)
theorem LK.kX {dC : Nat → ClassId} {dI : Nat → Nat → Nat} {cB : ClassId} {ad am : Nat → Nat} {o : Nat} {s : State} (h : LK dC dI cB ad am o s) : va_K (dC, dI) vwCl (tyX dC) s := h.1
theorem LK.kM {dC : Nat → ClassId} {dI : Nat → Nat → Nat} {cB : ClassId} {ad am : Nat → Nat} {o : Nat} {s : State} (h : LK dC dI cB ad am o s) : va_K (dC, dI) vwCl (tyM dC) s := h.2.1
theorem LK.kB {dC : Nat → ClassId} {dI : Nat → Nat → Nat} {cB : ClassId} {ad am : Nat → Nat} {o : Nat} {s : State} (h : LK dC dI cB ad am o s) : va_K (dC, dI) vwCl [(cB, .byte)] s := h.2.2.1
theorem LK.dX {dC : Nat → ClassId} {dI : Nat → Nat → Nat} {cB : ClassId} {ad am : Nat → Nat} {o : Nat} {s : State} (h : LK dC dI cB ad am o s) : ∀ S, va_D (AX ad) (wX dC ad S) := h.2.2.2.1
theorem LK.dM {dC : Nat → ClassId} {dI : Nat → Nat → Nat} {cB : ClassId} {ad am : Nat → Nat} {o : Nat} {s : State} (h : LK dC dI cB ad am o s) : ∀ M, va_D (AM am) (wM dC am M) := h.2.2.2.2.1
theorem LK.aX {dC : Nat → ClassId} {dI : Nat → Nat → Nat} {cB : ClassId} {ad am : Nat → Nat} {o : Nat} {s : State} (h : LK dC dI cB ad am o s) : ∀ q, AX ad q → zB s.heap.size q := h.2.2.2.2.2.1
theorem LK.aM {dC : Nat → ClassId} {dI : Nat → Nat → Nat} {cB : ClassId} {ad am : Nat → Nat} {o : Nat} {s : State} (h : LK dC dI cB ad am o s) : ∀ q, AM am q → zB s.heap.size q := h.2.2.2.2.2.2.1
theorem LK.aO {dC : Nat → ClassId} {dI : Nat → Nat → Nat} {cB : ClassId} {ad am : Nat → Nat} {o : Nat} {s : State} (h : LK dC dI cB ad am o s) : zB s.heap.size o := h.2.2.2.2.2.2.2.1
theorem LK.xm {dC : Nat → ClassId} {dI : Nat → Nat → Nat} {cB : ClassId} {ad am : Nat → Nat} {o : Nat} {s : State} (h : LK dC dI cB ad am o s) : ∀ q, AX ad q → ¬ AM am q := h.2.2.2.2.2.2.2.2.1
theorem LK.xo {dC : Nat → ClassId} {dI : Nat → Nat → Nat} {cB : ClassId} {ad am : Nat → Nat} {o : Nat} {s : State} (h : LK dC dI cB ad am o s) : ¬ AX ad o := h.2.2.2.2.2.2.2.2.2.1
theorem LK.mo {dC : Nat → ClassId} {dI : Nat → Nat → Nat} {cB : ClassId} {ad am : Nat → Nat} {o : Nat} {s : State} (h : LK dC dI cB ad am o s) : ¬ AM am o := h.2.2.2.2.2.2.2.2.2.2.1
theorem LK.zs {dC : Nat → ClassId} {dI : Nat → Nat → Nat} {cB : ClassId} {ad am : Nat → Nat} {o : Nat} {s : State} (h : LK dC dI cB ad am o s) : ZS s := h.2.2.2.2.2.2.2.2.2.2.2.1
theorem LK.zt {dC : Nat → ClassId} {dI : Nat → Nat → Nat} {cB : ClassId} {ad am : Nat → Nat} {o : Nat} {s : State} (h : LK dC dI cB ad am o s) : ZT s s.heap := h.2.2.2.2.2.2.2.2.2.2.2.2.1
theorem LK.zb {dC : Nat → ClassId} {dI : Nat → Nat → Nat} {cB : ClassId} {ad am : Nat → Nat} {o : Nat} {s : State} (h : LK dC dI cB ad am o s) : ZBA (zB s.heap.size) s s.heap := h.2.2.2.2.2.2.2.2.2.2.2.2.2.1
theorem LK.nt {dC : Nat → ClassId} {dI : Nat → Nat → Nat} {cB : ClassId} {ad am : Nat → Nat} {o : Nat} {s : State} (h : LK dC dI cB ad am o s) : NT s := h.2.2.2.2.2.2.2.2.2.2.2.2.2.2.1
theorem LK.nf {dC : Nat → ClassId} {dI : Nat → Nat → Nat} {cB : ClassId} {ad am : Nat → Nat} {o : Nat} {s : State} (h : LK dC dI cB ad am o s) : NF9 s := h.2.2.2.2.2.2.2.2.2.2.2.2.2.2.2.1
theorem LK.nc {dC : Nat → ClassId} {dI : Nat → Nat → Nat} {cB : ClassId} {ad am : Nat → Nat} {o : Nat} {s : State} (h : LK dC dI cB ad am o s) : va_Nc IA IX s := h.2.2.2.2.2.2.2.2.2.2.2.2.2.2.2.2.1
theorem LK.cm {dC : Nat → ClassId} {dI : Nat → Nat → Nat} {cB : ClassId} {ad am : Nat → Nat} {o : Nat} {s : State} (h : LK dC dI cB ad am o s) : CM (zB s.heap.size) s s.heap := h.2.2.2.2.2.2.2.2.2.2.2.2.2.2.2.2.2
def LSt (dC : Nat → ClassId) (dI : Nat → Nat → Nat) (ad am : Nat → Nat) (o : Nat) (S : XS) (M : MS) (s : State) (H : Heap) (locs : List Loc) : Prop := (va_P (dC, dI) vwCl (wX dC ad S) H) ∧ (va_P (dC, dI) vwCl (wM dC am M) H) ∧ (OC dC dI o H) ∧ (va_S (zB s.heap.size) s.heap H locs)
theorem LSt.x {dC : Nat → ClassId} {dI : Nat → Nat → Nat} {ad am : Nat → Nat} {o : Nat} {S : XS} {M : MS} {s : State} {H : Heap} {locs : List Loc} (h : LSt dC dI ad am o S M s H locs) : va_P (dC, dI) vwCl (wX dC ad S) H := h.1
theorem LSt.m {dC : Nat → ClassId} {dI : Nat → Nat → Nat} {ad am : Nat → Nat} {o : Nat} {S : XS} {M : MS} {s : State} {H : Heap} {locs : List Loc} (h : LSt dC dI ad am o S M s H locs) : va_P (dC, dI) vwCl (wM dC am M) H := h.2.1
theorem LSt.o {dC : Nat → ClassId} {dI : Nat → Nat → Nat} {ad am : Nat → Nat} {o : Nat} {S : XS} {M : MS} {s : State} {H : Heap} {locs : List Loc} (h : LSt dC dI ad am o S M s H locs) : OC dC dI o H := h.2.2.1
theorem LSt.st {dC : Nat → ClassId} {dI : Nat → Nat → Nat} {ad am : Nat → Nat} {o : Nat} {S : XS} {M : MS} {s : State} {H : Heap} {locs : List Loc} (h : LSt dC dI ad am o S M s H locs) : va_S (zB s.heap.size) s.heap H locs := h.2.2.2
section LL
variable {dC : Nat → ClassId} {dI : Nat → Nat → Nat} {cB : ClassId} {ad am : Nat → Nat} {o : Nat} {S : XS} {M : MS} {s U : State} {H : Heap} {locs : List Loc}
theorem LSt.old (h : LSt dC dI ad am o S M s H locs) : ∀ q, q < s.heap.size → H[q]? = s.heap[q]? := fun q hq => h.st.2.1 q hq (fun z => Nat.not_le.mpr hq z)
theorem LSt.wx (hK : LK dC dI cB ad am o s) (h : LSt dC dI ad am o S M s H locs) : WX dC dI ad S (zB s.heap.size) s H locs := ⟨h.x, hK.kX, (hK.dX S).weaken (fun _ _ _ h => hK.aX _ h), h.st⟩
theorem LSt.wm (hK : LK dC dI cB ad am o s) (h : LSt dC dI ad am o S M s H locs) : WM dC dI am M [] (zB s.heap.size) s H locs := ⟨by rw [List.append_nil]; exact h.m, hK.kM, by rw [List.append_nil]; exact (hK.dM M).weaken (fun _ _ _ h => hK.aM _ h), h.st⟩
theorem LSt.px (hK : LK dC dI cB ad am o s) (h : LSt dC dI ad am o S M s H locs) (hU : U.heap = H) (hW : s.WarmedH U.vm) : PX dC dI ad S U := ⟨by rw [hU]; exact h.x, va_K.moved hW.alike hK.kX, hK.dX S⟩
theorem LSt.pm (hK : LK dC dI cB ad am o s) (h : LSt dC dI ad am o S M s H locs) (hU : U.heap = H) (hW : s.WarmedH U.vm) : PM dC dI am M U := ⟨by rw [hU]; exact h.m, va_K.moved hW.alike hK.kM, hK.dM M⟩
theorem LSt.pw (hK : LK dC dI cB ad am o s) (h : LSt dC dI ad am o S M s H locs) (hU : U.heap = H) (hW : s.WarmedH U.vm) : PW dC dI cB ad o S U := by
  have h1 := h.px hK hU hW
  refine ⟨⟨h1, ZS.warm hW hK.zs, ?_⟩, ⟨h1, va_K.moved hW.alike hK.kB, ?_, NT.warm hW hK.nt⟩, by rw [hU]; exact h.o, hK.xo, va_Nc.moved hW.alike hK.nc, NF9.warm hW hK.nf⟩
  · rw [hU]
    exact ZT.moved hW.alike ⟨vx_Zq.kept hK.zt.1 (fun a ha _ => h.old a ha), vx_Zq.kept hK.zt.2 (fun a ha _ => h.old a ha)⟩
  · rw [hU]
    exact ZBA.narrow (fun q hq => hq.elim (hK.aX q) (fun z => Nat.le_trans h.st.1 z)) (ZBA.warm hW (hK.zb.kept (fun a ha _ => h.old a ha)))
theorem LSt.pmt (hK : LK dC dI cB ad am o s) (h : LSt dC dI ad am o S M s H locs) (hU : U.heap = H) (hW : s.WarmedH U.vm) : PMT dC dI cB am M U := by
  have hz : ∀ q, AY am H.size q → zB s.heap.size q := fun q hq => hq.elim (hK.aM q) (fun z => Nat.le_trans h.st.1 z)
  refine ⟨h.pm hK hU hW, va_K.moved hW.alike hK.kB, ?_, ?_⟩
  · rw [hU]
    exact ZBA.narrow hz (ZBA.warm hW (hK.zb.kept (fun a ha _ => h.old a ha)))
  · rw [hU]
    exact CM.narrow (CM.warm hW (CM.kept hK.cm (fun a ha _ => h.old a ha))) hz
theorem LSt.preW {As : List Value} (hK : LK dC dI cB ad am o s) (h : LSt dC dI ad am o S M s H locs) : PreS s H (va_Pc As (PW dC dI cB ad o S)) As := ⟨PW.blind, fun _ hU hW => ⟨rfl, h.pw hK hU hW⟩⟩
theorem LSt.preX {As : List Value} (hK : LK dC dI cB ad am o s) (h : LSt dC dI ad am o S M s H locs) : PreV s H RX4 (ad 57) (va_Pc (Value.ref (ad 57) :: As) (PX dC dI ad S)) As := (h.wx hK).preTop 57 6 (by decide) (by decide) rfl rfl
theorem LSt.preM {As : List Value} (hK : LK dC dI cB ad am o s) (h : LSt dC dI ad am o S M s H locs) : PreV s H RX6 (am 0) (va_Pc (Value.ref (am 0) :: As) (PM dC dI am M)) As := (h.wm hK).preObj
theorem LSt.preMT {As : List Value} (hK : LK dC dI cB ad am o s) (h : LSt dC dI ad am o S M s H locs) : PreV s H RX6 (am 0) (va_Pc (Value.ref (am 0) :: As) (PMT dC dI cB am M)) As :=
  ⟨PMT.blind, ((h.wm hK).preObj (As := As)).2.1, fun _ hU hW => ⟨rfl, h.pmt hK hU hW⟩⟩
theorem AO.z (hK : LK dC dI cB ad am o s) : ∀ q, AO ad o q → zB s.heap.size q := fun q hq => hq.elim (hK.aX q) (fun e => by rw [e]; exact hK.aO)
theorem LSt.mkept (hK : LK dC dI cB ad am o s) (h : LSt dC dI ad am o S M s H locs) {H1 : Heap} (hk : ∀ q : Nat, q < H.size → ¬ AO ad o q → H1[q]? = H[q]?) : va_P (dC, dI) vwCl (wM dC am M) H1 :=
  h.m.kept (fun k q hq => hk q.1 ((h.m k q hq).lt) (fun z => by
    have hA : AM am q.1 := ⟨k, (wM_in k q hq).1, (wM_in k q hq).2⟩
    exact z.elim (fun hx => hK.xm _ hx hA) (fun e => hK.mo (by rw [← e]; exact hA))))
theorem LSt.xkept (hK : LK dC dI cB ad am o s) (h : LSt dC dI ad am o S M s H locs) {H1 : Heap} (hk : ∀ q : Nat, q < H.size → ¬ AM am q → H1[q]? = H[q]?) : va_P (dC, dI) vwCl (wX dC ad S) H1 :=
  h.x.kept (fun k q hq => hk q.1 ((h.x k q hq).lt) (fun z => hK.xm _ ⟨k, (wX_in k q hq).1, (wX_in k q hq).2⟩ z))
end LL
section LL2
variable {p : Program} {l : Launch} {e : Env} {R : Room} {s : State} {m : MethodId} {args : Array Value} {below : List Frame} {meth : Method} {c : Code} {H : Heap} {locs : List Loc} {cells slots : Nat} {Q : State → Prop}
variable {pc : Nat} {ls : Array Slot} {rest st0 : List Value} {dC : Nat → ClassId} {dI : Nat → Nat → Nat} {cB : ClassId} {ad am : Nat → Nat} {o : Nat} {S : XS} {M : MS} {a : Array Value} {mc ms : Nat}
theorem ll_w {post : Int32 → XS × Int64 → Prop} (hr : va_Run p l e R s m args below meth c H locs cells slots mc ms (F0 m pc ls st0) rest (va_Qi post (PO2 dC dI ad o) (AO ad o) a) (AO ad o)) (hK : LK dC dI cB ad am o s) (h : LSt dC dI ad am o S M s H locs)
    (kk : ∀ (r : Int32) (S1 : XS) (n1 : Int64) (H1 : Heap) (locs1 : List Loc), post r (S1, n1) → OCn dC dI o n1 H1 → LSt dC dI ad am o S1 M s H1 locs1 → W p l e R s m args below meth c H1 locs1 (cells + mc) (slots + ms) Q (F0 m (pc + 3) ls (.int r :: rest))) : W p l e R s m args below meth c H locs cells slots Q (F0 m pc ls st0) :=
  va_calli hr h.st (fun q _ hq => AO.z hK q hq) (AO.z hK) (fun r u t H1 locs1 ht hvm hp hB _ hk hS => by
    obtain ⟨S1, n1⟩ := u
    subst ht
    exact kk r S1 n1 _ locs1 hp hB.2 ⟨hB.1.1, h.mkept hK hk, OCn.oc hB.2, hS⟩)
theorem ll_x {post : Int32 → XS → Prop} (hr : va_Run p l e R s m args below meth c H locs cells slots mc ms (F0 m pc ls st0) rest (va_Qi post (PX dC dI ad) (AX ad) a) (AX ad)) (hK : LK dC dI cB ad am o s) (h : LSt dC dI ad am o S M s H locs)
    (kk : ∀ (r : Int32) (S1 : XS) (H1 : Heap) (locs1 : List Loc), post r S1 → LSt dC dI ad am o S1 M s H1 locs1 → W p l e R s m args below meth c H1 locs1 (cells + mc) (slots + ms) Q (F0 m (pc + 3) ls (.int r :: rest))) : W p l e R s m args below meth c H locs cells slots Q (F0 m pc ls st0) :=
  va_calli hr h.st (fun q _ hq => hK.aX q hq) hK.aX (fun r u t H1 locs1 ht hvm hp hB _ hk hS => kk r u H1 locs1 hp ⟨by rw [← ht]; exact hB.1, h.mkept hK (fun q h1 h2 => hk q h1 (fun z => h2 (Or.inl z))), h.o.kept (hk o h.o.lt hK.xo), hS⟩)
theorem ll_xl {post : Int64 → XS → Prop} (hr : va_Run p l e R s m args below meth c H locs cells slots mc ms (F0 m pc ls st0) rest (va_Ql post (PX dC dI ad) (AX ad) a) (AX ad)) (hK : LK dC dI cB ad am o s) (h : LSt dC dI ad am o S M s H locs)
    (kk : ∀ (r : Int64) (S1 : XS) (H1 : Heap) (locs1 : List Loc), post r S1 → LSt dC dI ad am o S1 M s H1 locs1 → W p l e R s m args below meth c H1 locs1 (cells + mc) (slots + ms) Q (F0 m (pc + 3) ls (.long r :: rest))) : W p l e R s m args below meth c H locs cells slots Q (F0 m pc ls st0) :=
  va_calll hr h.st (fun q _ hq => hK.aX q hq) hK.aX (fun r u t H1 locs1 ht hvm hp hB _ hk hS => kk r u H1 locs1 hp ⟨by rw [← ht]; exact hB.1, h.mkept hK (fun q h1 h2 => hk q h1 (fun z => h2 (Or.inl z))), h.o.kept (hk o h.o.lt hK.xo), hS⟩)
theorem ll_m {post : Int32 → MS → Prop} (hr : va_Run p l e R s m args below meth c H locs cells slots mc ms (F0 m pc ls st0) rest (va_Qi post (PM dC dI am) (AM am) a) (AM am)) (hK : LK dC dI cB ad am o s) (h : LSt dC dI ad am o S M s H locs)
    (kk : ∀ (r : Int32) (M1 : MS) (H1 : Heap) (locs1 : List Loc), H1[o]? = H[o]? → post r M1 → LSt dC dI ad am o S M1 s H1 locs1 → W p l e R s m args below meth c H1 locs1 (cells + mc) (slots + ms) Q (F0 m (pc + 3) ls (.int r :: rest))) : W p l e R s m args below meth c H locs cells slots Q (F0 m pc ls st0) :=
  va_calli hr h.st (fun q _ hq => hK.aM q hq) hK.aM (fun r u t H1 locs1 ht hvm hp hB _ hk hS => kk r u H1 locs1 (hk o h.o.lt hK.mo) hp ⟨h.xkept hK hk, by rw [← ht]; exact hB.1, h.o.kept (hk o h.o.lt hK.mo), hS⟩)
theorem ll_ml {post : Int64 → MS → Prop} (hr : va_Run p l e R s m args below meth c H locs cells slots mc ms (F0 m pc ls st0) rest (va_Ql post (PM dC dI am) (AM am) a) (AM am)) (hK : LK dC dI cB ad am o s) (h : LSt dC dI ad am o S M s H locs)
    (kk : ∀ (r : Int64) (M1 : MS) (H1 : Heap) (locs1 : List Loc), H1[o]? = H[o]? → post r M1 → LSt dC dI ad am o S M1 s H1 locs1 → W p l e R s m args below meth c H1 locs1 (cells + mc) (slots + ms) Q (F0 m (pc + 3) ls (.long r :: rest))) : W p l e R s m args below meth c H locs cells slots Q (F0 m pc ls st0) :=
  va_calll hr h.st (fun q _ hq => hK.aM q hq) hK.aM (fun r u t H1 locs1 ht hvm hp hB _ hk hS => kk r u H1 locs1 (hk o h.o.lt hK.mo) hp ⟨h.xkept hK hk, by rw [← ht]; exact hB.1, h.o.kept (hk o h.o.lt hK.mo), hS⟩)
theorem ll_mr {post : MS → Prop} (hr : va_Run p l e R s m args below meth c H locs cells slots mc ms (F0 m pc ls st0) rest (va_Qr post (fun M1 _ t => PM dC dI am M1 t) (AM am) a) (AM am)) (hK : LK dC dI cB ad am o s) (h : LSt dC dI ad am o S M s H locs)
    (kk : ∀ (M1 : MS) (q : Nat) (H1 : Heap) (locs1 : List Loc), H1[o]? = H[o]? → post M1 → LSt dC dI ad am o S M1 s H1 locs1 → W p l e R s m args below meth c H1 locs1 (cells + mc) (slots + ms) Q (F0 m (pc + 3) ls (.ref q :: rest))) : W p l e R s m args below meth c H locs cells slots Q (F0 m pc ls st0) :=
  va_callr hr h.st (fun q _ hq => hK.aM q hq) hK.aM (fun u q t H1 locs1 ht hvm hp hB _ hk hS => kk u q H1 locs1 (hk o h.o.lt hK.mo) hp ⟨h.xkept hK hk, by rw [← ht]; exact hB.1, h.o.kept (hk o h.o.lt hK.mo), hS⟩)
end LL2
/-- what holds while the script is run: n calls are done -/
def LI (n : Nat) (S : XS) (M : MS) : Prop := (InvX S) ∧ (∀ j, j < 4 → (S.2.1 j).2.2.2.2.1 ≤ 5) ∧ (InvM M) ∧ (S.2.2.1 ≤ 12 * n) ∧ (S.2.2.2.1 ≤ n) ∧ (M.2.2.2.1 ≤ 12 * n) ∧ (M.2.2.2.2.1 ≤ n) ∧ (Tie2 S M) ∧ (S.2.2.2.2 ≤ n)
theorem LI.x {n : Nat} {S : XS} {M : MS} (h : LI n S M) : InvX S := h.1
theorem LI.x5 {n : Nat} {S : XS} {M : MS} (h : LI n S M) : ∀ j, j < 4 → (S.2.1 j).2.2.2.2.1 ≤ 5 := h.2.1
theorem LI.m {n : Nat} {S : XS} {M : MS} (h : LI n S M) : InvM M := h.2.2.1
theorem LI.xp {n : Nat} {S : XS} {M : MS} (h : LI n S M) : S.2.2.1 ≤ 12 * n := h.2.2.2.1
theorem LI.xr {n : Nat} {S : XS} {M : MS} (h : LI n S M) : S.2.2.2.1 ≤ n := h.2.2.2.2.1
theorem LI.mp {n : Nat} {S : XS} {M : MS} (h : LI n S M) : M.2.2.2.1 ≤ 12 * n := h.2.2.2.2.2.1
theorem LI.mr {n : Nat} {S : XS} {M : MS} (h : LI n S M) : M.2.2.2.2.1 ≤ n := h.2.2.2.2.2.2.1
theorem LI.T {n : Nat} {S : XS} {M : MS} (h : LI n S M) : Tie2 S M := h.2.2.2.2.2.2.2.1
theorem LI.kk {n : Nat} {S : XS} {M : MS} (h : LI n S M) : S.2.2.2.2 = M.2.2.2.2.2 := h.T.kn
theorem LI.kn {n : Nat} {S : XS} {M : MS} (h : LI n S M) : S.2.2.2.2 ≤ n := h.2.2.2.2.2.2.2.2
theorem LI.next {n : Nat} {S S1 : XS} {M M1 : MS} (h : LI n S M) (hq : LQ S S1) (hm : LM M M1) (hT : Tie2 S1 M1) : LI (n + 1) S1 M1 :=
  ⟨hq.1, hq.2.1, hm.1, by have := hq.2.2.1; have := h.xp; omega, by have := hq.2.2.2.1; have := h.xr; omega, by have := hm.2.1; have := h.mp; omega, by have := hm.2.2.1; have := h.mr; omega, hT, by rw [hq.2.2.2.2]; exact Nat.le_succ_of_le h.kn⟩
theorem LI.idle {n : Nat} {S : XS} {M : MS} (h : LI n S M) : LI (n + 1) S M := ⟨h.x, h.x5, h.m, by have := h.xp; omega, by have := h.xr; omega, by have := h.mp; omega, by have := h.mr; omega, h.T, Nat.le_succ_of_le h.kn⟩
def LF (p : Program) (l : Launch) (s : State) (m : MethodId) (c : Code) (b L : Nat) (xs : Nat → Int32) (dC : Nat → ClassId) (dI : Nat → Nat → Nat) (cB : ClassId) (ad am : Nat → Nat) (o : Nat) : Prop := (l.stackTraces = false) ∧ (p.tables.exec = Jvm.exec) ∧ (c.code = cL_law) ∧ (c.maxLocals = 7) ∧ (s.vm.findClass RL = some m.cls) ∧ (∀ w ∈ wsL_R, w.before #[Value.ref b] s = true) ∧ (LK dC dI cB ad am o s) ∧ (va_X b L xs s s.heap) ∧ (b < s.heap.size) ∧ (L ≤ 2560)
theorem LF.st {p : Program} {l : Launch} {s : State} {m : MethodId} {c : Code} {b L : Nat} {xs : Nat → Int32} {dC : Nat → ClassId} {dI : Nat → Nat → Nat} {cB : ClassId} {ad am : Nat → Nat} {o : Nat} (h : LF p l s m c b L xs dC dI cB ad am o) : l.stackTraces = false := h.1
theorem LF.x {p : Program} {l : Launch} {s : State} {m : MethodId} {c : Code} {b L : Nat} {xs : Nat → Int32} {dC : Nat → ClassId} {dI : Nat → Nat → Nat} {cB : ClassId} {ad am : Nat → Nat} {o : Nat} (h : LF p l s m c b L xs dC dI cB ad am o) : p.tables.exec = Jvm.exec := h.2.1
theorem LF.b {p : Program} {l : Launch} {s : State} {m : MethodId} {c : Code} {b L : Nat} {xs : Nat → Int32} {dC : Nat → ClassId} {dI : Nat → Nat → Nat} {cB : ClassId} {ad am : Nat → Nat} {o : Nat} (h : LF p l s m c b L xs dC dI cB ad am o) : c.code = cL_law := h.2.2.1
theorem LF.ml {p : Program} {l : Launch} {s : State} {m : MethodId} {c : Code} {b L : Nat} {xs : Nat → Int32} {dC : Nat → ClassId} {dI : Nat → Nat → Nat} {cB : ClassId} {ad am : Nat → Nat} {o : Nat} (h : LF p l s m c b L xs dC dI cB ad am o) : c.maxLocals = 7 := h.2.2.2.1
theorem LF.own {p : Program} {l : Launch} {s : State} {m : MethodId} {c : Code} {b L : Nat} {xs : Nat → Int32} {dC : Nat → ClassId} {dI : Nat → Nat → Nat} {cB : ClassId} {ad am : Nat → Nat} {o : Nat} (h : LF p l s m c b L xs dC dI cB ad am o) : s.vm.findClass RL = some m.cls := h.2.2.2.2.1
theorem LF.ts {p : Program} {l : Launch} {s : State} {m : MethodId} {c : Code} {b L : Nat} {xs : Nat → Int32} {dC : Nat → ClassId} {dI : Nat → Nat → Nat} {cB : ClassId} {ad am : Nat → Nat} {o : Nat} (h : LF p l s m c b L xs dC dI cB ad am o) : ∀ w ∈ wsL_R, w.before #[Value.ref b] s = true := h.2.2.2.2.2.1
theorem LF.K {p : Program} {l : Launch} {s : State} {m : MethodId} {c : Code} {b L : Nat} {xs : Nat → Int32} {dC : Nat → ClassId} {dI : Nat → Nat → Nat} {cB : ClassId} {ad am : Nat → Nat} {o : Nat} (h : LF p l s m c b L xs dC dI cB ad am o) : LK dC dI cB ad am o s := h.2.2.2.2.2.2.1
theorem LF.sc {p : Program} {l : Launch} {s : State} {m : MethodId} {c : Code} {b L : Nat} {xs : Nat → Int32} {dC : Nat → ClassId} {dI : Nat → Nat → Nat} {cB : ClassId} {ad am : Nat → Nat} {o : Nat} (h : LF p l s m c b L xs dC dI cB ad am o) : va_X b L xs s s.heap := h.2.2.2.2.2.2.2.1
theorem LF.bl {p : Program} {l : Launch} {s : State} {m : MethodId} {c : Code} {b L : Nat} {xs : Nat → Int32} {dC : Nat → ClassId} {dI : Nat → Nat → Nat} {cB : ClassId} {ad am : Nat → Nat} {o : Nat} (h : LF p l s m c b L xs dC dI cB ad am o) : b < s.heap.size := h.2.2.2.2.2.2.2.2.1
theorem LF.hL {p : Program} {l : Launch} {s : State} {m : MethodId} {c : Code} {b L : Nat} {xs : Nat → Int32} {dC : Nat → ClassId} {dI : Nat → Nat → Nat} {cB : ClassId} {ad am : Nat → Nat} {o : Nat} (h : LF p l s m c b L xs dC dI cB ad am o) : L ≤ 2560 := h.2.2.2.2.2.2.2.2.2
theorem law_X5 : ∀ w ∈ u_ws RX5 TX5 2, w ∈ wsL_R := tu0 1332 (by decide +kernel) rfl
theorem ll_getn {p : Program} {l : Launch} {e : Env} {R : Room} {s : State} {m : MethodId} {below : List Frame} {meth : Method} {c : Code} {H : Heap} {locs : List Loc} {cells slots : Nat} {Q : State → Prop} {pc : Nat} {ls : Array Slot} {rest : List Value} {b L : Nat} {xs : Nat → Int32} {dC : Nat → ClassId} {dI : Nat → Nat → Nat} {cB : ClassId} {ad am : Nat → Nat} {o : Nat} {n1 : Int64} (F : LF p l s m c b L xs dC dI cB ad am o) (hN : OCn dC dI o n1 H) (hdg : decode cL_law pc = .ok (.getfield 13, 3))
    (kk : W p l e R s m #[Value.ref b] below meth c H locs cells slots Q (F0 m (pc + 3) ls (.long n1 :: rest))) : W p l e R s m #[Value.ref b] below meth c H locs cells slots Q (F0 m pc ls (.ref o :: rest)) := by
  obtain ⟨v0, -, hP⟩ := hN
  exact va_getN (D := (dC, dI)) (C := RX5) (T := TX5) (N := 2) (ci := 7) F.x F.b F.ts law_X5 F.own F.K.kX hP 0 rfl rfl 0 (by decide) (va_Nw.use rfl F.K.nf.1) (fun _ h => h) rfl hdg kk
/-- a case of the law's switch, from its first instruction to the end of its round -/
def LCase (p : Program) (l : Launch) (e : Env) (s : State) (m : MethodId) (below : List Frame) (meth : Method) (c : Code) (b : Nat) (dC : Nat → ClassId) (dI : Nat → Nat → Nat) (ad am : Nat → Nat) (o n i : Nat) (Q : State → Prop) (pc : Nat) : Prop :=
  ∀ (S : XS) (M : MS) (H : Heap) (locs : List Loc), LI n S M → LSt dC dI ad am o S M s H locs →
    (∀ (S1 : XS) (M1 : MS) (H1 : Heap) (locs1 : List Loc) (ls1 : Array Slot), LI (n + 1) S1 M1 → LSt dC dI ad am o S1 M1 s H1 locs1 → lv_has ls1 7 [(0, .ref b), (1, .ref (ad 57)), (2, .ref (am 0)), (3, .ref o), (4, .int (nI i))] → W p l e room_1 s m #[Value.ref b] below meth c H1 locs1 (100 + 224 * (n + 1)) (1200 + 10680 * (n + 1)) Q (F0 m 2052 ls1 [])) →
    ∀ ls : Array Slot, lv_has ls 7 [(0, .ref b), (1, .ref (ad 57)), (2, .ref (am 0)), (3, .ref o), (4, .int (nI i))] → W p l e room_1 s m #[Value.ref b] below meth c H locs (100 + 224 * n) (1200 + 10680 * n) Q (F0 m pc ls [])
end
section
theorem ggL_law_X4_init : GoodIn wsL_R wsX4_init := tgCall0 981 e_X4_init (by decide +kernel)
theorem gL_law_X4_init : GoodIn wsL_R (wsX4_init) := ggL_law_X4_init
theorem ggL_law_X6_init : GoodIn wsL_R wsX6_init := tgCall0 984 e_X6_init (by decide +kernel)
theorem gL_law_X6_init : GoodIn wsL_R (wsX6_init) := ggL_law_X6_init
theorem ggL_law_X5_init : GoodIn wsL_R wsX5_init := tgCall0 989 e_X5_init (by decide +kernel)
theorem gL_law_X5_init_n156 : GoodIn wsL_R (wsX5_init) := ggL_law_X5_init
theorem ggL_law_L_put : GoodIn wsL_R wsL_put := tgCall0 994 e_L_put (by decide +kernel)
theorem gL_law_L_put : GoodIn wsL_R (va_wsS RL 157 yL_put wsL_put) := goodIn_app (tgIn0 [991, 992, 993] (by decide +kernel) rfl) ggL_law_L_put
theorem ggL_law_X6_put : GoodIn wsL_R wsX6_put := tgCall0 998 e_X6_put (by decide +kernel)
theorem gL_law_X6_put : GoodIn wsL_R (wsV RL 162 RX6 yX6_put wsX6_put) := goodIn_app (tgIn0 [995, 996, 997, 684] (by decide +kernel) rfl) ggL_law_X6_put
theorem ggL_law_L_putAt : GoodIn wsL_R wsL_putAt := tgCall0 1001 e_L_putAt (by decide +kernel)
theorem gL_law_L_putAt : GoodIn wsL_R (va_wsS RL 163 yL_putAt wsL_putAt) := goodIn_app (tgIn0 [999, 1000, 993] (by decide +kernel) rfl) ggL_law_L_putAt
theorem ggL_law_X6_putAt : GoodIn wsL_R wsX6_putAt := tgCall0 1005 e_X6_putAt (by decide +kernel)
theorem gL_law_X6_putAt : GoodIn wsL_R (wsV RL 166 RX6 yX6_putAt wsX6_putAt) := goodIn_app (tgIn0 [1002, 1003, 1004, 684] (by decide +kernel) rfl) ggL_law_X6_putAt
theorem ggL_law_L_fill : GoodIn wsL_R wsL_fill := tgCall0 1008 e_L_fill (by decide +kernel)
theorem gL_law_L_fill : GoodIn wsL_R (va_wsS RL 167 yL_fill wsL_fill) := goodIn_app (tgIn0 [1006, 1007, 993] (by decide +kernel) rfl) ggL_law_L_fill
theorem ggL_law_X6_fill : GoodIn wsL_R wsX6_fill := tgCall0 1012 e_X6_fill (by decide +kernel)
theorem gL_law_X6_fill : GoodIn wsL_R (wsV RL 170 RX6 yX6_fill wsX6_fill) := goodIn_app (tgIn0 [1009, 1010, 1011, 684] (by decide +kernel) rfl) ggL_law_X6_fill
theorem ggL_law_L_drop : GoodIn wsL_R wsL_drop := tgCall0 1015 e_L_drop (by decide +kernel)
theorem gL_law_L_drop : GoodIn wsL_R (va_wsS RL 171 yL_drop wsL_drop) := goodIn_app (tgIn0 [1013, 1014, 993] (by decide +kernel) rfl) ggL_law_L_drop
theorem ggL_law_X6_drop : GoodIn wsL_R wsX6_drop := tgCall0 1019 e_X6_drop (by decide +kernel)
theorem gL_law_X6_drop : GoodIn wsL_R (wsV RL 173 RX6 yX6_drop wsX6_drop) := goodIn_app (tgIn0 [1016, 1017, 1018, 684] (by decide +kernel) rfl) ggL_law_X6_drop
theorem ggL_law_L_clear : GoodIn wsL_R wsL_clear := tgCall0 1022 e_L_clear (by decide +kernel)
theorem gL_law_L_clear : GoodIn wsL_R (va_wsS RL 174 yL_clear wsL_clear) := goodIn_app (tgIn0 [1020, 1021, 993] (by decide +kernel) rfl) ggL_law_L_clear
theorem ggL_law_X6_clear : GoodIn wsL_R wsX6_clear := tgCall0 1031 e_X6_clear (by decide +kernel)
theorem gL_law_X6_clear : GoodIn wsL_R (wsV RL 177 RX6 yX6_clear wsX6_clear) := goodIn_app (tgIn0 [1028, 1029, 1030, 684] (by decide +kernel) rfl) ggL_law_X6_clear
theorem ggL_law_L_copyRow : GoodIn wsL_R wsL_copyRow := tgCall0 1034 e_L_copyRow (by decide +kernel)
theorem gL_law_L_copyRow : GoodIn wsL_R (va_wsS RL 178 yL_copyRow wsL_copyRow) := goodIn_app (tgIn0 [1032, 1033, 993] (by decide +kernel) rfl) ggL_law_L_copyRow
theorem ggL_law_X6_copyRow : GoodIn wsL_R wsX6_copyRow := tgCall0 1038 e_X6_copyRow (by decide +kernel)
theorem gL_law_X6_copyRow : GoodIn wsL_R (wsV RL 180 RX6 yX6_copyRow wsX6_copyRow) := goodIn_app (tgIn0 [1035, 1036, 1037, 684] (by decide +kernel) rfl) ggL_law_X6_copyRow
theorem ggL_law_L_turnRow : GoodIn wsL_R wsL_turnRow := tgCall0 1041 e_L_turnRow (by decide +kernel)
theorem gL_law_L_turnRow : GoodIn wsL_R (va_wsS RL 181 yL_turnRow wsL_turnRow) := goodIn_app (tgIn0 [1039, 1040, 993] (by decide +kernel) rfl) ggL_law_L_turnRow
theorem ggL_law_X6_turnRow : GoodIn wsL_R wsX6_turnRow := tgCall0 1045 e_X6_turnRow (by decide +kernel)
theorem gL_law_X6_turnRow : GoodIn wsL_R (wsV RL 183 RX6 yX6_turnRow wsX6_turnRow) := goodIn_app (tgIn0 [1042, 1043, 1044, 684] (by decide +kernel) rfl) ggL_law_X6_turnRow
theorem ggL_law_L_wheel : GoodIn wsL_R wsL_wheel := tgCall0 1048 e_L_wheel (by decide +kernel)
theorem gL_law_L_wheel : GoodIn wsL_R (va_wsS RL 184 yL_wheel wsL_wheel) := goodIn_app (tgIn0 [1046, 1047, 993] (by decide +kernel) rfl) ggL_law_L_wheel
theorem ggL_law_X6_wheel : GoodIn wsL_R wsX6_wheel := tgCall0 1052 e_X6_wheel (by decide +kernel)
theorem gL_law_X6_wheel : GoodIn wsL_R (wsV RL 186 RX6 yX6_wheel wsX6_wheel) := goodIn_app (tgIn0 [1049, 1050, 1051, 684] (by decide +kernel) rfl) ggL_law_X6_wheel
theorem ggL_law_L_swap : GoodIn wsL_R wsL_swap := tgCall0 1055 e_L_swap (by decide +kernel)
theorem gL_law_L_swap : GoodIn wsL_R (va_wsS RL 187 yL_swap wsL_swap) := goodIn_app (tgIn0 [1053, 1054, 993] (by decide +kernel) rfl) ggL_law_L_swap
theorem ggL_law_X6_swap : GoodIn wsL_R wsX6_swap := tgCall0 1059 e_X6_swap (by decide +kernel)
theorem gL_law_X6_swap : GoodIn wsL_R (wsV RL 189 RX6 yX6_swap wsX6_swap) := goodIn_app (tgIn0 [1056, 1057, 1058, 684] (by decide +kernel) rfl) ggL_law_X6_swap
theorem ggL_law_L_sort : GoodIn wsL_R wsL_sort := tgCall0 1062 e_L_sort (by decide +kernel)
theorem gL_law_L_sort : GoodIn wsL_R (va_wsS RL 190 yL_sort wsL_sort) := goodIn_app (tgIn0 [1060, 1061, 993] (by decide +kernel) rfl) ggL_law_L_sort
theorem ggL_law_X6_sort : GoodIn wsL_R wsX6_sort := tgCall0 1066 e_X6_sort (by decide +kernel)
theorem gL_law_X6_sort : GoodIn wsL_R (wsV RL 192 RX6 yX6_sort wsX6_sort) := goodIn_app (tgIn0 [1063, 1064, 1065, 684] (by decide +kernel) rfl) ggL_law_X6_sort
theorem ggL_law_L_sortPart : GoodIn wsL_R wsL_sortPart := tgCall0 1069 e_L_sortPart (by decide +kernel)
theorem gL_law_L_sortPart : GoodIn wsL_R (va_wsS RL 193 yL_sortPart wsL_sortPart) := goodIn_app (tgIn0 [1067, 1068, 993] (by decide +kernel) rfl) ggL_law_L_sortPart
theorem ggL_law_X6_sortPart : GoodIn wsL_R wsX6_sortPart := tgCall0 1073 e_X6_sortPart (by decide +kernel)
theorem gL_law_X6_sortPart : GoodIn wsL_R (wsV RL 195 RX6 yX6_sortPart wsX6_sortPart) := goodIn_app (tgIn0 [1070, 1071, 1072, 684] (by decide +kernel) rfl) ggL_law_X6_sortPart
theorem ggL_law_L_isSorted : GoodIn wsL_R wsL_isSorted := tgCall0 1076 e_L_isSorted (by decide +kernel)
theorem gL_law_L_isSorted : GoodIn wsL_R (va_wsS RL 196 yL_isSorted wsL_isSorted) := goodIn_app (tgIn0 [1074, 1075, 993] (by decide +kernel) rfl) ggL_law_L_isSorted
theorem ggL_law_X6_isSorted : GoodIn wsL_R wsX6_isSorted := tgCall0 1080 e_X6_isSorted (by decide +kernel)
theorem gL_law_X6_isSorted : GoodIn wsL_R (wsV RL 198 RX6 yX6_isSorted wsX6_isSorted) := goodIn_app (tgIn0 [1077, 1078, 1079, 684] (by decide +kernel) rfl) ggL_law_X6_isSorted
theorem ggL_law_L_size : GoodIn wsL_R wsL_size := tgCall0 1083 e_L_size (by decide +kernel)
theorem gL_law_L_size : GoodIn wsL_R (va_wsS RL 199 yL_size wsL_size) := goodIn_app (tgIn0 [1081, 1082, 993] (by decide +kernel) rfl) ggL_law_L_size
theorem ggL_law_X6_size : GoodIn wsL_R wsX6_size := tgCall0 1091 e_X6_size (by decide +kernel)
theorem gL_law_X6_size : GoodIn wsL_R (wsV RL 201 RX6 yX6_size wsX6_size) := goodIn_app (tgIn0 [1088, 1089, 1090, 684] (by decide +kernel) rfl) ggL_law_X6_size
theorem ggL_law_L_valueAt : GoodIn wsL_R wsL_valueAt := tgCall0 1094 e_L_valueAt (by decide +kernel)
theorem gL_law_L_valueAt : GoodIn wsL_R (va_wsS RL 202 yL_valueAt wsL_valueAt) := goodIn_app (tgIn0 [1092, 1093, 993] (by decide +kernel) rfl) ggL_law_L_valueAt
theorem ggL_law_X6_valueAt : GoodIn wsL_R wsX6_valueAt := tgCall0 1098 e_X6_valueAt (by decide +kernel)
theorem gL_law_X6_valueAt : GoodIn wsL_R (wsV RL 204 RX6 yX6_valueAt wsX6_valueAt) := goodIn_app (tgIn0 [1095, 1096, 1097, 684] (by decide +kernel) rfl) ggL_law_X6_valueAt
theorem ggL_law_L_markAt : GoodIn wsL_R wsL_markAt := tgCall0 1101 e_L_markAt (by decide +kernel)
theorem gL_law_L_markAt : GoodIn wsL_R (va_wsS RL 205 yL_markAt wsL_markAt) := goodIn_app (tgIn0 [1099, 1100, 993] (by decide +kernel) rfl) ggL_law_L_markAt
theorem ggL_law_X6_markAt : GoodIn wsL_R wsX6_markAt := tgCall0 1105 e_X6_markAt (by decide +kernel)
theorem gL_law_X6_markAt : GoodIn wsL_R (wsV RL 207 RX6 yX6_markAt wsX6_markAt) := goodIn_app (tgIn0 [1102, 1103, 1104, 684] (by decide +kernel) rfl) ggL_law_X6_markAt
theorem ggL_law_L_text : GoodIn wsL_R wsL_text := tgCall0 1108 e_L_text (by decide +kernel)
theorem gL_law_L_text : GoodIn wsL_R (va_wsS RL 208 yL_text wsL_text) := goodIn_app (tgIn0 [1106, 1107, 993] (by decide +kernel) rfl) ggL_law_L_text
theorem ggL_law_X6_text : GoodIn wsL_R wsX6_text := tgCall0 1112 e_X6_text (by decide +kernel)
theorem gL_law_X6_text : GoodIn wsL_R (wsV RL 210 RX6 yX6_text wsX6_text) := goodIn_app (tgIn0 [1109, 1110, 1111, 684] (by decide +kernel) rfl) ggL_law_X6_text
theorem ggL_law_L_extreme : GoodIn wsL_R wsL_extreme := tgCall0 1115 e_L_extreme (by decide +kernel)
theorem gL_law_L_extreme : GoodIn wsL_R (va_wsS RL 211 yL_extreme wsL_extreme) := goodIn_app (tgIn0 [1113, 1114, 993] (by decide +kernel) rfl) ggL_law_L_extreme
theorem ggL_law_X6_extreme : GoodIn wsL_R wsX6_extreme := tgCall0 1119 e_X6_extreme (by decide +kernel)
theorem gL_law_X6_extreme : GoodIn wsL_R (wsV RL 214 RX6 yX6_extreme wsX6_extreme) := goodIn_app (tgIn0 [1116, 1117, 1118, 684] (by decide +kernel) rfl) ggL_law_X6_extreme
theorem ggL_law_L_search : GoodIn wsL_R wsL_search := tgCall0 1122 e_L_search (by decide +kernel)
theorem gL_law_L_search : GoodIn wsL_R (va_wsS RL 215 yL_search wsL_search) := goodIn_app (tgIn0 [1120, 1121, 993] (by decide +kernel) rfl) ggL_law_L_search
theorem ggL_law_X6_search : GoodIn wsL_R wsX6_search := tgCall0 1126 e_X6_search (by decide +kernel)
theorem gL_law_X6_search : GoodIn wsL_R (wsV RL 217 RX6 yX6_search wsX6_search) := goodIn_app (tgIn0 [1123, 1124, 1125, 684] (by decide +kernel) rfl) ggL_law_X6_search
theorem ggL_law_L_near : GoodIn wsL_R wsL_near := tgCall0 1129 e_L_near (by decide +kernel)
theorem gL_law_L_near : GoodIn wsL_R (va_wsS RL 218 yL_near wsL_near) := goodIn_app (tgIn0 [1127, 1128, 993] (by decide +kernel) rfl) ggL_law_L_near
theorem ggL_law_X6_near : GoodIn wsL_R wsX6_near := tgCall0 1133 e_X6_near (by decide +kernel)
theorem gL_law_X6_near : GoodIn wsL_R (wsV RL 220 RX6 yX6_near wsX6_near) := goodIn_app (tgIn0 [1130, 1131, 1132, 684] (by decide +kernel) rfl) ggL_law_X6_near
theorem ggL_law_L_kinds : GoodIn wsL_R wsL_kinds := tgCall0 1136 e_L_kinds (by decide +kernel)
theorem gL_law_L_kinds : GoodIn wsL_R (va_wsS RL 221 yL_kinds wsL_kinds) := goodIn_app (tgIn0 [1134, 1135, 993] (by decide +kernel) rfl) ggL_law_L_kinds
theorem ggL_law_X6_kinds : GoodIn wsL_R wsX6_kinds := tgCall0 1140 e_X6_kinds (by decide +kernel)
theorem gL_law_X6_kinds : GoodIn wsL_R (wsV RL 223 RX6 yX6_kinds wsX6_kinds) := goodIn_app (tgIn0 [1137, 1138, 1139, 684] (by decide +kernel) rfl) ggL_law_X6_kinds
theorem ggL_law_L_ahead : GoodIn wsL_R wsL_ahead := tgCall0 1143 e_L_ahead (by decide +kernel)
theorem gL_law_L_ahead : GoodIn wsL_R (va_wsS RL 224 yL_ahead wsL_ahead) := goodIn_app (tgIn0 [1141, 1142, 993] (by decide +kernel) rfl) ggL_law_L_ahead
theorem ggL_law_X6_ahead : GoodIn wsL_R wsX6_ahead := tgCall0 1147 e_X6_ahead (by decide +kernel)
theorem gL_law_X6_ahead : GoodIn wsL_R (wsV RL 226 RX6 yX6_ahead wsX6_ahead) := goodIn_app (tgIn0 [1144, 1145, 1146, 684] (by decide +kernel) rfl) ggL_law_X6_ahead
theorem ggL_law_L_groups : GoodIn wsL_R wsL_groups := tgCall0 1150 e_L_groups (by decide +kernel)
theorem gL_law_L_groups : GoodIn wsL_R (va_wsS RL 227 yL_groups wsL_groups) := goodIn_app (tgIn0 [1148, 1149, 993] (by decide +kernel) rfl) ggL_law_L_groups
theorem ggL_law_X6_groups : GoodIn wsL_R wsX6_groups := tgCall0 1154 e_X6_groups (by decide +kernel)
theorem gL_law_X6_groups : GoodIn wsL_R (wsV RL 229 RX6 yX6_groups wsX6_groups) := goodIn_app (tgIn0 [1151, 1152, 1153, 684] (by decide +kernel) rfl) ggL_law_X6_groups
theorem ggL_law_L_ranks : GoodIn wsL_R wsL_ranks := tgCall0 1157 e_L_ranks (by decide +kernel)
theorem gL_law_L_ranks : GoodIn wsL_R (va_wsS RL 230 yL_ranks wsL_ranks) := goodIn_app (tgIn0 [1155, 1156, 993] (by decide +kernel) rfl) ggL_law_L_ranks
theorem ggL_law_X6_ranks : GoodIn wsL_R wsX6_ranks := tgCall0 1161 e_X6_ranks (by decide +kernel)
theorem gL_law_X6_ranks : GoodIn wsL_R (wsV RL 232 RX6 yX6_ranks wsX6_ranks) := goodIn_app (tgIn0 [1158, 1159, 1160, 684] (by decide +kernel) rfl) ggL_law_X6_ranks
theorem ggL_law_L_step : GoodIn wsL_R wsL_step := tgCall0 1164 e_L_step (by decide +kernel)
theorem gL_law_L_step : GoodIn wsL_R (va_wsS RL 233 yL_step wsL_step) := goodIn_app (tgIn0 [1162, 1163, 993] (by decide +kernel) rfl) ggL_law_L_step
theorem ggL_law_X6_step : GoodIn wsL_R wsX6_step := tgCall0 1168 e_X6_step (by decide +kernel)
theorem gL_law_X6_step : GoodIn wsL_R (wsV RL 235 RX6 yX6_step wsX6_step) := goodIn_app (tgIn0 [1165, 1166, 1167, 684] (by decide +kernel) rfl) ggL_law_X6_step
theorem ggL_law_L_unstep : GoodIn wsL_R wsL_unstep := tgCall0 1171 e_L_unstep (by decide +kernel)
theorem gL_law_L_unstep : GoodIn wsL_R (va_wsS RL 236 yL_unstep wsL_unstep) := goodIn_app (tgIn0 [1169, 1170, 993] (by decide +kernel) rfl) ggL_law_L_unstep
theorem ggL_law_X6_unstep : GoodIn wsL_R wsX6_unstep := tgCall0 1175 e_X6_unstep (by decide +kernel)
theorem gL_law_X6_unstep : GoodIn wsL_R (wsV RL 238 RX6 yX6_unstep wsX6_unstep) := goodIn_app (tgIn0 [1172, 1173, 1174, 684] (by decide +kernel) rfl) ggL_law_X6_unstep
theorem ggL_law_L_wipe : GoodIn wsL_R wsL_wipe := tgCall0 1178 e_L_wipe (by decide +kernel)
theorem gL_law_L_wipe : GoodIn wsL_R (va_wsS RL 239 yL_wipe wsL_wipe) := goodIn_app (tgIn0 [1176, 1177, 993] (by decide +kernel) rfl) ggL_law_L_wipe
theorem ggL_law_X6_wipe : GoodIn wsL_R wsX6_wipe := tgCall0 1182 e_X6_wipe (by decide +kernel)
theorem gL_law_X6_wipe : GoodIn wsL_R (wsV RL 241 RX6 yX6_wipe wsX6_wipe) := goodIn_app (tgIn0 [1179, 1180, 1181, 684] (by decide +kernel) rfl) ggL_law_X6_wipe
theorem ggL_law_L_copyOrder : GoodIn wsL_R wsL_copyOrder := tgCall0 1185 e_L_copyOrder (by decide +kernel)
theorem gL_law_L_copyOrder : GoodIn wsL_R (va_wsS RL 242 yL_copyOrder wsL_copyOrder) := goodIn_app (tgIn0 [1183, 1184, 993] (by decide +kernel) rfl) ggL_law_L_copyOrder
theorem ggL_law_X6_copyOrder : GoodIn wsL_R wsX6_copyOrder := tgCall0 1189 e_X6_copyOrder (by decide +kernel)
theorem gL_law_X6_copyOrder : GoodIn wsL_R (wsV RL 244 RX6 yX6_copyOrder wsX6_copyOrder) := goodIn_app (tgIn0 [1186, 1187, 1188, 684] (by decide +kernel) rfl) ggL_law_X6_copyOrder
theorem ggL_law_L_turn : GoodIn wsL_R wsL_turn := tgCall0 1192 e_L_turn (by decide +kernel)
theorem gL_law_L_turn : GoodIn wsL_R (va_wsS RL 245 yL_turn wsL_turn) := goodIn_app (tgIn0 [1190, 1191, 993] (by decide +kernel) rfl) ggL_law_L_turn
theorem ggL_law_X6_turn : GoodIn wsL_R wsX6_turn := tgCall0 1196 e_X6_turn (by decide +kernel)
theorem gL_law_X6_turn : GoodIn wsL_R (wsV RL 247 RX6 yX6_turn wsX6_turn) := goodIn_app (tgIn0 [1193, 1194, 1195, 684] (by decide +kernel) rfl) ggL_law_X6_turn
theorem ggL_law_L_product : GoodIn wsL_R wsL_product := tgCall0 1199 e_L_product (by decide +kernel)
theorem gL_law_L_product : GoodIn wsL_R (va_wsS RL 248 yL_product wsL_product) := goodIn_app (tgIn0 [1197, 1198, 993] (by decide +kernel) rfl) ggL_law_L_product
theorem ggL_law_X6_product : GoodIn wsL_R wsX6_product := tgCall0 1203 e_X6_product (by decide +kernel)
theorem gL_law_X6_product : GoodIn wsL_R (wsV RL 250 RX6 yX6_product wsX6_product) := goodIn_app (tgIn0 [1200, 1201, 1202, 684] (by decide +kernel) rfl) ggL_law_X6_product
theorem ggL_law_L_tellApart : GoodIn wsL_R wsL_tellApart := tgCall0 1206 e_L_tellApart (by decide +kernel)
theorem gL_law_L_tellApart : GoodIn wsL_R (va_wsS RL 251 yL_tellApart wsL_tellApart) := goodIn_app (tgIn0 [1204, 1205, 993] (by decide +kernel) rfl) ggL_law_L_tellApart
theorem ggL_law_X6_tellApart : GoodIn wsL_R wsX6_tellApart := tgCall0 1210 e_X6_tellApart (by decide +kernel)
theorem gL_law_X6_tellApart : GoodIn wsL_R (wsV RL 253 RX6 yX6_tellApart wsX6_tellApart) := goodIn_app (tgIn0 [1207, 1208, 1209, 684] (by decide +kernel) rfl) ggL_law_X6_tellApart
theorem ggL_law_L_orderText : GoodIn wsL_R wsL_orderText := tgCall0 1213 e_L_orderText (by decide +kernel)
theorem gL_law_L_orderText : GoodIn wsL_R (va_wsS RL 254 yL_orderText wsL_orderText) := goodIn_app (tgIn0 [1211, 1212, 993] (by decide +kernel) rfl) ggL_law_L_orderText
theorem ggL_law_X6_orderText : GoodIn wsL_R wsX6_orderText := tgCall0 1217 e_X6_orderText (by decide +kernel)
theorem gL_law_X6_orderText : GoodIn wsL_R (wsV RL 256 RX6 yX6_orderText wsX6_orderText) := goodIn_app (tgIn0 [1214, 1215, 1216, 684] (by decide +kernel) rfl) ggL_law_X6_orderText
theorem ggL_law_L_compare : GoodIn wsL_R wsL_compare := tgCall0 1220 e_L_compare (by decide +kernel)
theorem gL_law_L_compare : GoodIn wsL_R (va_wsS RL 257 yL_compare wsL_compare) := goodIn_app (tgIn0 [1218, 1219, 993] (by decide +kernel) rfl) ggL_law_L_compare
theorem ggL_law_X6_compare : GoodIn wsL_R wsX6_compare := tgCall0 1224 e_X6_compare (by decide +kernel)
theorem gL_law_X6_compare : GoodIn wsL_R (wsV RL 259 RX6 yX6_compare wsX6_compare) := goodIn_app (tgIn0 [1221, 1222, 1223, 684] (by decide +kernel) rfl) ggL_law_X6_compare
theorem ggL_law_L_both : GoodIn wsL_R wsL_both := tgCall0 1227 e_L_both (by decide +kernel)
theorem gL_law_L_both : GoodIn wsL_R (va_wsS RL 260 yL_both wsL_both) := goodIn_app (tgIn0 [1225, 1226, 993] (by decide +kernel) rfl) ggL_law_L_both
theorem ggL_law_X6_both : GoodIn wsL_R wsX6_both := tgCall0 1231 e_X6_both (by decide +kernel)
theorem gL_law_X6_both : GoodIn wsL_R (wsV RL 262 RX6 yX6_both wsX6_both) := goodIn_app (tgIn0 [1228, 1229, 1230, 684] (by decide +kernel) rfl) ggL_law_X6_both
theorem ggL_law_L_refines : GoodIn wsL_R wsL_refines := tgCall0 1234 e_L_refines (by decide +kernel)
theorem gL_law_L_refines : GoodIn wsL_R (va_wsS RL 263 yL_refines wsL_refines) := goodIn_app (tgIn0 [1232, 1233, 993] (by decide +kernel) rfl) ggL_law_L_refines
theorem ggL_law_X6_refines : GoodIn wsL_R wsX6_refines := tgCall0 1242 e_X6_refines (by decide +kernel)
theorem gL_law_X6_refines : GoodIn wsL_R (wsV RL 265 RX6 yX6_refines wsX6_refines) := goodIn_app (tgIn0 [1239, 1240, 1241, 684] (by decide +kernel) rfl) ggL_law_X6_refines
theorem ggL_law_L_areSame : GoodIn wsL_R wsL_areSame := tgCall0 1245 e_L_areSame (by decide +kernel)
theorem gL_law_L_areSame : GoodIn wsL_R (va_wsS RL 266 yL_areSame wsL_areSame) := goodIn_app (tgIn0 [1243, 1244, 993] (by decide +kernel) rfl) ggL_law_L_areSame
theorem ggL_law_X6_areSame : GoodIn wsL_R wsX6_areSame := tgCall0 1257 e_X6_areSame (by decide +kernel)
theorem gL_law_X6_areSame : GoodIn wsL_R (wsV RL 268 RX6 yX6_areSame wsX6_areSame) := goodIn_app (tgIn0 [1254, 1255, 1256, 684] (by decide +kernel) rfl) ggL_law_X6_areSame
theorem ggL_law_L_apart : GoodIn wsL_R wsL_apart := tgCall0 1260 e_L_apart (by decide +kernel)
theorem gL_law_L_apart : GoodIn wsL_R (va_wsS RL 269 yL_apart wsL_apart) := goodIn_app (tgIn0 [1258, 1259, 993] (by decide +kernel) rfl) ggL_law_L_apart
theorem ggL_law_X6_apart : GoodIn wsL_R wsX6_apart := tgCall0 1264 e_X6_apart (by decide +kernel)
theorem gL_law_X6_apart : GoodIn wsL_R (wsV RL 271 RX6 yX6_apart wsX6_apart) := goodIn_app (tgIn0 [1261, 1262, 1263, 684] (by decide +kernel) rfl) ggL_law_X6_apart
theorem ggL_law_L_classes : GoodIn wsL_R wsL_classes := tgCall0 1267 e_L_classes (by decide +kernel)
theorem gL_law_L_classes : GoodIn wsL_R (va_wsS RL 272 yL_classes wsL_classes) := goodIn_app (tgIn0 [1265, 1266, 993] (by decide +kernel) rfl) ggL_law_L_classes
theorem ggL_law_X6_classes : GoodIn wsL_R wsX6_classes := tgCall0 1275 e_X6_classes (by decide +kernel)
theorem gL_law_X6_classes : GoodIn wsL_R (wsV RL 274 RX6 yX6_classes wsX6_classes) := goodIn_app (tgIn0 [1272, 1273, 1274, 684] (by decide +kernel) rfl) ggL_law_X6_classes
theorem ggL_law_L_rank : GoodIn wsL_R wsL_rank := tgCall0 1278 e_L_rank (by decide +kernel)
theorem gL_law_L_rank : GoodIn wsL_R (va_wsS RL 275 yL_rank wsL_rank) := goodIn_app (tgIn0 [1276, 1277, 993] (by decide +kernel) rfl) ggL_law_L_rank
theorem ggL_law_X6_rank : GoodIn wsL_R wsX6_rank := tgCall0 1282 e_X6_rank (by decide +kernel)
theorem gL_law_X6_rank : GoodIn wsL_R (wsV RL 277 RX6 yX6_rank wsX6_rank) := goodIn_app (tgIn0 [1279, 1280, 1281, 684] (by decide +kernel) rfl) ggL_law_X6_rank
theorem ggL_law_X6_thrown : GoodIn wsL_R wsX6_thrown := tgCall0 1286 e_X6_thrown (by decide +kernel)
theorem gL_law_X6_thrown : GoodIn wsL_R (wsV RL 278 RX6 yX6_thrown wsX6_thrown) := goodIn_app (tgIn0 [1283, 1284, 1285, 684] (by decide +kernel) rfl) ggL_law_X6_thrown
theorem ggL_law_L_keyOf : GoodIn wsL_R wsL_keyOf := tgCall0 1289 e_L_keyOf (by decide +kernel)
theorem gL_law_L_keyOf : GoodIn wsL_R (va_wsS RL 282 yL_keyOf wsL_keyOf) := goodIn_app (tgIn0 [1287, 1288, 993] (by decide +kernel) rfl) ggL_law_L_keyOf
theorem ggL_law_X6_keyOf : GoodIn wsL_R wsX6_keyOf := tgCall0 1293 e_X6_keyOf (by decide +kernel)
theorem gL_law_X6_keyOf : GoodIn wsL_R (wsV RL 284 RX6 yX6_keyOf wsX6_keyOf) := goodIn_app (tgIn0 [1290, 1291, 1292, 684] (by decide +kernel) rfl) ggL_law_X6_keyOf
theorem ggL_law_X4_knock : GoodIn wsL_R wsX4_knock := tgCall0 1297 e_X4_knock (by decide +kernel)
theorem gL_law_X4_knock : GoodIn wsL_R (wsV RL 285 RX4 yX4_knock wsX4_knock) := goodIn_app (tgIn0 [1294, 1295, 1296, 421] (by decide +kernel) rfl) ggL_law_X4_knock
theorem ggL_law_X6_knock : GoodIn wsL_R wsX6_knock := tgCall0 1301 e_X6_knock (by decide +kernel)
theorem gL_law_X6_knock : GoodIn wsL_R (wsV RL 288 RX6 yX6_knock wsX6_knock) := goodIn_app (tgIn0 [1298, 1299, 1300, 684] (by decide +kernel) rfl) ggL_law_X6_knock
theorem ggL_law_L_house : GoodIn wsL_R wsL_house := tgCall0 1304 e_L_house (by decide +kernel)
theorem gL_law_L_house : GoodIn wsL_R (va_wsS RL 289 yL_house wsL_house) := goodIn_app (tgIn0 [1302, 1303, 993] (by decide +kernel) rfl) ggL_law_L_house
theorem ggL_law_X6_house : GoodIn wsL_R wsX6_house := tgCall0 1308 e_X6_house (by decide +kernel)
theorem gL_law_X6_house : GoodIn wsL_R (wsV RL 291 RX6 yX6_house wsX6_house) := goodIn_app (tgIn0 [1305, 1306, 1307, 684] (by decide +kernel) rfl) ggL_law_X6_house
theorem ggL_law_X4_isSound : GoodIn wsL_R wsX4_isSound := tgCall0 680 e_X4_isSound (by decide +kernel)
theorem gL_law_X4_isSound : GoodIn wsL_R (wsV RL 292 RX4 yX4_isSound wsX4_isSound) := goodIn_app (tgIn0 [1309, 678, 679, 421] (by decide +kernel) rfl) ggL_law_X4_isSound
theorem ggL_law_X6_isSound : GoodIn wsL_R wsX6_isSound := tgCall0 1313 e_X6_isSound (by decide +kernel)
theorem gL_law_X6_isSound : GoodIn wsL_R (wsV RL 296 RX6 yX6_isSound wsX6_isSound) := goodIn_app (tgIn0 [1310, 1311, 1312, 684] (by decide +kernel) rfl) ggL_law_X6_isSound
theorem ggL_law_X4_digest : GoodIn wsL_R wsX4_digest := tgCall0 1317 e_X4_digest (by decide +kernel)
theorem gL_law_X4_digest : GoodIn wsL_R (wsV RL 297 RX4 yX4_digest wsX4_digest) := goodIn_app (tgIn0 [1314, 1315, 1316, 421] (by decide +kernel) rfl) ggL_law_X4_digest
theorem ggL_law_X6_digest : GoodIn wsL_R wsX6_digest := tgCall0 1321 e_X6_digest (by decide +kernel)
theorem gL_law_X6_digest : GoodIn wsL_R (wsV RL 301 RX6 yX6_digest wsX6_digest) := goodIn_app (tgIn0 [1318, 1319, 1320, 684] (by decide +kernel) rfl) ggL_law_X6_digest
end
section
theorem ovl_key {K K2 : Nat → Nat} {n : Nat} (h : ∀ x, x < 5 → K x < 8) (h2 : ∀ x, x < 5 → K2 x < 8) : ∀ x, x < 5 → ovl K K2 n x < 8 := fun x hx => by
  unfold ovl
  split
  · exact h x hx
  · exact h2 x hx
theorem lg_self (a : Int64) : lg_cmp a a = nI 0 := by
  unfold lg_cmp
  rw [if_neg (Int64.lt_irrefl), if_pos rfl]
  rfl
theorem LI.knock {n : Nat} {S S1 : XS} {M M1 : MS} (h : LI n S M) (h1 : S1 = xN S (S.2.2.1, S.2.2.2.1, S.2.2.2.2 + 1)) (h2 : M1 = mN M (0, M.2.2.2.1, M.2.2.2.2.1, M.2.2.2.2.2 + 1)) : LI (n + 1) S1 M1 := by
  subst h1; subst h2
  refine ⟨h.x, h.x5, h.m, ?_, ?_, ?_, ?_, ⟨⟨h.T.1.1, h.T.1.2.1, h.T.1.2.2.1, congrArg (· + 1) h.T.1.2.2.2⟩, h.T.2.1, h.T.2.2⟩, ?_⟩
  · show S.2.2.1 ≤ 12 * (n + 1); have := h.xp; omega
  · show S.2.2.2.1 ≤ n + 1; have := h.xr; omega
  · show M.2.2.2.1 ≤ 12 * (n + 1); have := h.mp; omega
  · show M.2.2.2.2.1 ≤ n + 1; have := h.mr; omega
  · show S.2.2.2.2 + 1 ≤ n + 1; have := h.kn; omega
set_option maxHeartbeats 4000000 in
set_option maxRecDepth 100000 in
theorem lc_0 {p : Program} {l : Launch} {e : Env} {s : State} {m : MethodId} {below : List Frame} {meth : Method} {c : Code} {b L : Nat} {xs : Nat → Int32} {dC : Nat → ClassId} {dI : Nat → Nat → Nat} {cB : ClassId} {ad am : Nat → Nat} {o n iL : Nat} {Q : State → Prop} (F : LF p l s m c b L xs dC dI cB ad am o) (hni : iL = 5 * n) (hiL : iL + 5 ≤ L) : LCase p l e s m below meth c b dC dI ad am o n iL Q 228 := by
  intro S M H locs hI9 hS kk9 ls hl
  have hx := F.x
  have hb := F.b
  have hml := F.ml
  have hown := F.own
  have hts := F.ts
  have hL := F.hL
  have hn9 : n ≤ 511 := by omega
  refine lv_aload_n hx hb dL_law_228 rfl (lv_at hl 1 rfl) ?_
  refine lv_aload_n hx hb dL_law_229 rfl (lv_at hl 0 rfl) ?_
  refine lv_iload hx hb dL_law_230 (lv_at hl 4 rfl) ?_
  refine lv_iconst (v := nI 1) hx hb dL_law_232 (by decide) ?_
  refine kn_iadd hx hb dL_law_233 ?_
  refine va_sld hx hb F.sc F.bl (fun z => Nat.not_le.mpr F.bl z) hS.st (vp_in_nI (show iL + 1 < L by omega) (by omega)) dL_law_234 ?_
  obtain ⟨x1, hx1⟩ : ∃ z, z = xs (nI (iL + 1)).toNatClampNeg := ⟨_, rfl⟩
  rw [← hx1]
  refine lv_aload_n hx hb dL_law_235 rfl (lv_at hl 0 rfl) ?_
  refine lv_iload hx hb dL_law_236 (lv_at hl 4 rfl) ?_
  refine lv_iconst (v := nI 2) hx hb dL_law_238 (by decide) ?_
  refine kn_iadd hx hb dL_law_239 ?_
  refine va_sld hx hb F.sc F.bl (fun z => Nat.not_le.mpr F.bl z) hS.st (vp_in_nI (show iL + 2 < L by omega) (by omega)) dL_law_240 ?_
  obtain ⟨x2, hx2⟩ : ∃ z, z = xs (nI (iL + 2)).toNatClampNeg := ⟨_, rfl⟩
  rw [← hx2]
  refine lv_aload_n hx hb dL_law_241 rfl (lv_at hl 3 rfl) ?_
  refine ll_w (vx_runSW (As := [.ref (ad 57), .int x1, .int x2, .ref o]) (rest := []) ⟨hx, hb, hml, hown, hts⟩ (m_L_put l F.st dC dI cB ad o S x1 x2 hI9.x hI9.x5 (by have := hI9.xp; omega)) (vx_cwSW 4 hts gL_law_L_put rfl rfl rfl hdL_put_4.2 ⟨Nat.le_of_ble_eq_true rfl, Nat.le_of_ble_eq_true rfl⟩) (hS.preW F.K) rfl rfl hl.1 rfl (lv_room (Nat.le_of_ble_eq_true rfl)) dL_law_242 ⟨le_rc (by omega), le_rs (by omega)⟩) F.K hS (fun r0 S1 n1 H locs hq9 hN hS => ?_)
  have hLQ : LQ S S1 := hq9.1
  have hR : R_put x1 x2 S r0 S1 n1 := hq9.2
  clear hq9
  rcases hR with ⟨hb9, rfl, rfl⟩ | ⟨i, hi, rfl, hb9, rfl, rfl⟩ | ⟨i, v, r7, hi, hv9, rfl, rfl, rfl, rfl, hw⟩
  · skip
    refine lv_istore (lv' := [(5, .int (nI 1)), (0, .ref b), (1, .ref (ad 57)), (2, .ref (am 0)), (3, .ref o), (4, .int (nI iL))]) hx hb dL_law_245 hl (by decide) rfl (fun ls hl => ?_)
    refine lv_aload_n hx hb dL_law_247 rfl (lv_at hl 3 rfl) ?_
    refine lv_aload_n hx hb dL_law_248 rfl (lv_at hl 1 rfl) ?_
    refine lv_iload hx hb dL_law_249 (lv_at hl 5 rfl) ?_
    refine lv_iconst (v := nI 1) hx hb dL_law_251 (by decide) ?_
    refine kn_iadd hx hb dL_law_252 ?_
    refine va_sld hx hb F.sc F.bl (fun z => Nat.not_le.mpr F.bl z) hS.st (vp_in_nI (show iL + 1 < L by omega) (by omega)) dL_law_253 ?_
    rw [← hx1]
    refine lv_aload_n hx hb dL_law_254 rfl (lv_at hl 1 rfl) ?_
    refine lv_iload hx hb dL_law_255 (lv_at hl 5 rfl) ?_
    refine lv_iconst (v := nI 2) hx hb dL_law_257 (by decide) ?_
    refine kn_iadd hx hb dL_law_258 ?_
    refine va_sld hx hb F.sc F.bl (fun z => Nat.not_le.mpr F.bl z) hS.st (vp_in_nI (show iL + 2 < L by omega) (by omega)) dL_law_259 ?_
    rw [← hx2]
    have hI := hI9.m
    have T := hI9.T
    have hc : M.2.2.2.1 + 12 < 1000000 := by have := hI9.mp; omega
    refine ll_m (va_runV (As := [.int x1, .int x2]) (rest := []) ⟨hx, hb, hml, hown, hts⟩ (o_X6_put_1 l dC dI am M x1 x2 hb9 hI) (cwV 2 hts gL_law_X6_put rfl rfl rfl hdX6_put_2 ⟨Nat.le_of_ble_eq_true rfl, Nat.le_of_ble_eq_true rfl⟩) (hS.preM F.K) rfl rfl hl.1 rfl (lv_room (Nat.le_of_ble_eq_true rfl)) dL_law_260 ⟨le_rc (by omega), le_rs (by omega)⟩) F.K hS (fun r8 M1 H locs hko hv hS => ?_)
    have hLM : LM M M1 := by rw [hv]; exact LM_th hI _
    have hT : Tie2 S M1 := by rw [hv]; exact T.th _
    refine lv_istore (lv' := [(6, .int r8), (5, .int (nI 1)), (0, .ref b), (1, .ref (ad 57)), (2, .ref (am 0)), (3, .ref o), (4, .int (nI iL))]) hx hb dL_law_263 hl (by decide) rfl (fun ls hl => ?_)
    refine lv_goto (tgt := 2052) hx hb dL_law_265 (by decide) ?_
    exact W.widen (k := 100 + 224 * (n + 1)) (n := 1200 + 10680 * (n + 1)) (by omega) (by omega) (kk9 S M1 _ _ _ (hI9.next hLQ hLM hT) hS (lv_sub hl [2, 3, 4, 5, 6] rfl))
  · skip
    refine lv_istore (lv' := [(5, .int (nI 2)), (0, .ref b), (1, .ref (ad 57)), (2, .ref (am 0)), (3, .ref o), (4, .int (nI iL))]) hx hb dL_law_245 hl (by decide) rfl (fun ls hl => ?_)
    refine lv_aload_n hx hb dL_law_247 rfl (lv_at hl 3 rfl) ?_
    refine lv_aload_n hx hb dL_law_248 rfl (lv_at hl 1 rfl) ?_
    refine lv_iload hx hb dL_law_249 (lv_at hl 5 rfl) ?_
    refine lv_iconst (v := nI 1) hx hb dL_law_251 (by decide) ?_
    refine kn_iadd hx hb dL_law_252 ?_
    refine va_sld hx hb F.sc F.bl (fun z => Nat.not_le.mpr F.bl z) hS.st (vp_in_nI (show iL + 1 < L by omega) (by omega)) dL_law_253 ?_
    rw [← hx1]
    refine lv_aload_n hx hb dL_law_254 rfl (lv_at hl 1 rfl) ?_
    refine lv_iload hx hb dL_law_255 (lv_at hl 5 rfl) ?_
    refine lv_iconst (v := nI 2) hx hb dL_law_257 (by decide) ?_
    refine kn_iadd hx hb dL_law_258 ?_
    refine va_sld hx hb F.sc F.bl (fun z => Nat.not_le.mpr F.bl z) hS.st (vp_in_nI (show iL + 2 < L by omega) (by omega)) dL_law_259 ?_
    rw [← hx2]
    have hI := hI9.m
    have T := hI9.T
    have hc : M.2.2.2.1 + 12 < 1000000 := by have := hI9.mp; omega
    have hn := (hI.1 i hi).1
    refine ll_m (va_runV (As := [.int (nI i), .int x2]) (rest := []) ⟨hx, hb, hml, hown, hts⟩ (o_X6_put_2 l dC dI am M i x2 hi hb9 hI) (cwV 2 hts gL_law_X6_put rfl rfl rfl hdX6_put_2 ⟨Nat.le_of_ble_eq_true rfl, Nat.le_of_ble_eq_true rfl⟩) (hS.preM F.K) rfl rfl hl.1 rfl (lv_room (Nat.le_of_ble_eq_true rfl)) dL_law_260 ⟨le_rc (by omega), le_rs (by omega)⟩) F.K hS (fun r8 M1 H locs hko hv hS => ?_)
    have hLM : LM M M1 := by rw [hv]; exact LM_th hI _
    have hT : Tie2 S M1 := by rw [hv]; exact T.th _
    refine lv_istore (lv' := [(6, .int r8), (5, .int (nI 2)), (0, .ref b), (1, .ref (ad 57)), (2, .ref (am 0)), (3, .ref o), (4, .int (nI iL))]) hx hb dL_law_263 hl (by decide) rfl (fun ls hl => ?_)
    refine lv_goto (tgt := 2052) hx hb dL_law_265 (by decide) ?_
    exact W.widen (k := 100 + 224 * (n + 1)) (n := 1200 + 10680 * (n + 1)) (by omega) (by omega) (kk9 S M1 _ _ _ (hI9.next hLQ hLM hT) hS (lv_sub hl [2, 3, 4, 5, 6] rfl))
  · skip
    refine lv_istore (lv' := [(5, .int (nI 0)), (0, .ref b), (1, .ref (ad 57)), (2, .ref (am 0)), (3, .ref o), (4, .int (nI iL))]) hx hb dL_law_245 hl (by decide) rfl (fun ls hl => ?_)
    refine lv_aload_n hx hb dL_law_247 rfl (lv_at hl 3 rfl) ?_
    refine lv_aload_n hx hb dL_law_248 rfl (lv_at hl 1 rfl) ?_
    refine lv_iload hx hb dL_law_249 (lv_at hl 5 rfl) ?_
    refine lv_iconst (v := nI 1) hx hb dL_law_251 (by decide) ?_
    refine kn_iadd hx hb dL_law_252 ?_
    refine va_sld hx hb F.sc F.bl (fun z => Nat.not_le.mpr F.bl z) hS.st (vp_in_nI (show iL + 1 < L by omega) (by omega)) dL_law_253 ?_
    rw [← hx1]
    refine lv_aload_n hx hb dL_law_254 rfl (lv_at hl 1 rfl) ?_
    refine lv_iload hx hb dL_law_255 (lv_at hl 5 rfl) ?_
    refine lv_iconst (v := nI 2) hx hb dL_law_257 (by decide) ?_
    refine kn_iadd hx hb dL_law_258 ?_
    refine va_sld hx hb F.sc F.bl (fun z => Nat.not_le.mpr F.bl z) hS.st (vp_in_nI (show iL + 2 < L by omega) (by omega)) dL_law_259 ?_
    rw [← hx2]
    have hI := hI9.m
    have T := hI9.T
    have hc : M.2.2.2.1 + 12 < 1000000 := by have := hI9.mp; omega
    have hn := (hI.1 i hi).1
    refine ll_m (va_runV (As := [.int (nI i), .int (nI v)]) (rest := []) ⟨hx, hb, hml, hown, hts⟩ (m_X6_put l dC dI am M i v hi hv9 hI) (cwV 2 hts gL_law_X6_put rfl rfl rfl hdX6_put_2 ⟨Nat.le_of_ble_eq_true rfl, Nat.le_of_ble_eq_true rfl⟩) (hS.preM F.K) rfl rfl hl.1 rfl (lv_room (Nat.le_of_ble_eq_true rfl)) dL_law_260 ⟨le_rc (by omega), le_rs (by omega)⟩) F.K hS (fun r8 M1 H locs hko hv hS => ?_)
    have hLM : LM M M1 := LM_put hI hc hi hv9 hv
    obtain ⟨hT, he9, ht9⟩ := (A_put T.1 hi hw hv).two (E_put T.1 T.2 hi (T.1.sz hi) (Nat.le_refl _) hw hv)
    refine lv_istore (lv' := [(6, .int r8), (5, .int (nI 0)), (0, .ref b), (1, .ref (ad 57)), (2, .ref (am 0)), (3, .ref o), (4, .int (nI iL))]) hx hb dL_law_263 hl (by decide) rfl (fun ls hl => ?_)
    refine lv_goto (tgt := 2052) hx hb dL_law_265 (by decide) ?_
    exact W.widen (k := 100 + 224 * (n + 1)) (n := 1200 + 10680 * (n + 1)) (by omega) (by omega) (kk9 S1 M1 _ _ _ (hI9.next hLQ hLM hT) hS (lv_sub hl [2, 3, 4, 5, 6] rfl))
set_option maxHeartbeats 4000000 in
set_option maxRecDepth 100000 in
theorem lc_1 {p : Program} {l : Launch} {e : Env} {s : State} {m : MethodId} {below : List Frame} {meth : Method} {c : Code} {b L : Nat} {xs : Nat → Int32} {dC : Nat → ClassId} {dI : Nat → Nat → Nat} {cB : ClassId} {ad am : Nat → Nat} {o n iL : Nat} {Q : State → Prop} (F : LF p l s m c b L xs dC dI cB ad am o) (hni : iL = 5 * n) (hiL : iL + 5 ≤ L) : LCase p l e s m below meth c b dC dI ad am o n iL Q 268 := by
  intro S M H locs hI9 hS kk9 ls hl
  have hx := F.x
  have hb := F.b
  have hml := F.ml
  have hown := F.own
  have hts := F.ts
  have hL := F.hL
  have hn9 : n ≤ 511 := by omega
  refine lv_aload_n hx hb dL_law_268 rfl (lv_at hl 1 rfl) ?_
  refine lv_aload_n hx hb dL_law_269 rfl (lv_at hl 0 rfl) ?_
  refine lv_iload hx hb dL_law_270 (lv_at hl 4 rfl) ?_
  refine lv_iconst (v := nI 1) hx hb dL_law_272 (by decide) ?_
  refine kn_iadd hx hb dL_law_273 ?_
  refine va_sld hx hb F.sc F.bl (fun z => Nat.not_le.mpr F.bl z) hS.st (vp_in_nI (show iL + 1 < L by omega) (by omega)) dL_law_274 ?_
  obtain ⟨x1, hx1⟩ : ∃ z, z = xs (nI (iL + 1)).toNatClampNeg := ⟨_, rfl⟩
  rw [← hx1]
  refine lv_aload_n hx hb dL_law_275 rfl (lv_at hl 0 rfl) ?_
  refine lv_iload hx hb dL_law_276 (lv_at hl 4 rfl) ?_
  refine lv_iconst (v := nI 2) hx hb dL_law_278 (by decide) ?_
  refine kn_iadd hx hb dL_law_279 ?_
  refine va_sld hx hb F.sc F.bl (fun z => Nat.not_le.mpr F.bl z) hS.st (vp_in_nI (show iL + 2 < L by omega) (by omega)) dL_law_280 ?_
  obtain ⟨x2, hx2⟩ : ∃ z, z = xs (nI (iL + 2)).toNatClampNeg := ⟨_, rfl⟩
  rw [← hx2]
  refine lv_aload_n hx hb dL_law_281 rfl (lv_at hl 0 rfl) ?_
  refine lv_iload hx hb dL_law_282 (lv_at hl 4 rfl) ?_
  refine lv_iconst (v := nI 3) hx hb dL_law_284 (by decide) ?_
  refine kn_iadd hx hb dL_law_285 ?_
  refine va_sld hx hb F.sc F.bl (fun z => Nat.not_le.mpr F.bl z) hS.st (vp_in_nI (show iL + 3 < L by omega) (by omega)) dL_law_286 ?_
  obtain ⟨x3, hx3⟩ : ∃ z, z = xs (nI (iL + 3)).toNatClampNeg := ⟨_, rfl⟩
  rw [← hx3]
  refine lv_aload_n hx hb dL_law_287 rfl (lv_at hl 3 rfl) ?_
  refine ll_w (vx_runSW (As := [.ref (ad 57), .int x1, .int x2, .int x3, .ref o]) (rest := []) ⟨hx, hb, hml, hown, hts⟩ (m_L_putAt l F.st dC dI cB ad o S x1 x2 x3 hI9.x hI9.x5 (by have := hI9.xp; omega)) (vx_cwSW 5 hts gL_law_L_putAt rfl rfl rfl hdL_putAt_5.2 ⟨Nat.le_of_ble_eq_true rfl, Nat.le_of_ble_eq_true rfl⟩) (hS.preW F.K) rfl rfl hl.1 rfl (lv_room (Nat.le_of_ble_eq_true rfl)) dL_law_288 ⟨le_rc (by omega), le_rs (by omega)⟩) F.K hS (fun r0 S1 n1 H locs hq9 hN hS => ?_)
  have hLQ : LQ S S1 := hq9.1
  have hR : R_putAt x1 x2 x3 S r0 S1 n1 := hq9.2
  clear hq9
  rcases hR with ⟨hb9, rfl, rfl⟩ | ⟨i, hi, rfl, hb9, rfl, rfl⟩ | ⟨i, q, hi, hq, rfl, rfl, hb9, rfl, rfl⟩ | ⟨i, q, v, r7, hi, hq, hv9, rfl, rfl, rfl, rfl, rfl, hw⟩
  · skip
    refine lv_istore (lv' := [(5, .int (nI 1)), (0, .ref b), (1, .ref (ad 57)), (2, .ref (am 0)), (3, .ref o), (4, .int (nI iL))]) hx hb dL_law_291 hl (by decide) rfl (fun ls hl => ?_)
    refine lv_aload_n hx hb dL_law_293 rfl (lv_at hl 3 rfl) ?_
    refine lv_aload_n hx hb dL_law_294 rfl (lv_at hl 1 rfl) ?_
    refine lv_iload hx hb dL_law_295 (lv_at hl 5 rfl) ?_
    refine lv_iconst (v := nI 1) hx hb dL_law_297 (by decide) ?_
    refine kn_iadd hx hb dL_law_298 ?_
    refine va_sld hx hb F.sc F.bl (fun z => Nat.not_le.mpr F.bl z) hS.st (vp_in_nI (show iL + 1 < L by omega) (by omega)) dL_law_299 ?_
    rw [← hx1]
    refine lv_aload_n hx hb dL_law_300 rfl (lv_at hl 1 rfl) ?_
    refine lv_iload hx hb dL_law_301 (lv_at hl 5 rfl) ?_
    refine lv_iconst (v := nI 2) hx hb dL_law_303 (by decide) ?_
    refine kn_iadd hx hb dL_law_304 ?_
    refine va_sld hx hb F.sc F.bl (fun z => Nat.not_le.mpr F.bl z) hS.st (vp_in_nI (show iL + 2 < L by omega) (by omega)) dL_law_305 ?_
    rw [← hx2]
    refine lv_aload_n hx hb dL_law_306 rfl (lv_at hl 1 rfl) ?_
    refine lv_iload hx hb dL_law_307 (lv_at hl 5 rfl) ?_
    refine lv_iconst (v := nI 3) hx hb dL_law_309 (by decide) ?_
    refine kn_iadd hx hb dL_law_310 ?_
    refine va_sld hx hb F.sc F.bl (fun z => Nat.not_le.mpr F.bl z) hS.st (vp_in_nI (show iL + 3 < L by omega) (by omega)) dL_law_311 ?_
    rw [← hx3]
    have hI := hI9.m
    have T := hI9.T
    have hc : M.2.2.2.1 + 12 < 1000000 := by have := hI9.mp; omega
    refine ll_m (va_runV (As := [.int x1, .int x2, .int x3]) (rest := []) ⟨hx, hb, hml, hown, hts⟩ (o_X6_putAt_1 l dC dI am M x1 x2 x3 hb9 hI) (cwV 3 hts gL_law_X6_putAt rfl rfl rfl hdX6_putAt_3 ⟨Nat.le_of_ble_eq_true rfl, Nat.le_of_ble_eq_true rfl⟩) (hS.preM F.K) rfl rfl hl.1 rfl (lv_room (Nat.le_of_ble_eq_true rfl)) dL_law_312 ⟨le_rc (by omega), le_rs (by omega)⟩) F.K hS (fun r8 M1 H locs hko hv hS => ?_)
    have hLM : LM M M1 := by rw [hv]; exact LM_th hI _
    have hT : Tie2 S M1 := by rw [hv]; exact T.th _
    refine lv_istore (lv' := [(6, .int r8), (5, .int (nI 1)), (0, .ref b), (1, .ref (ad 57)), (2, .ref (am 0)), (3, .ref o), (4, .int (nI iL))]) hx hb dL_law_315 hl (by decide) rfl (fun ls hl => ?_)
    refine lv_goto (tgt := 2052) hx hb dL_law_317 (by decide) ?_
    exact W.widen (k := 100 + 224 * (n + 1)) (n := 1200 + 10680 * (n + 1)) (by omega) (by omega) (kk9 S M1 _ _ _ (hI9.next hLQ hLM hT) hS (lv_sub hl [2, 3, 4, 5, 6] rfl))
  · skip
    refine lv_istore (lv' := [(5, .int (nI 1)), (0, .ref b), (1, .ref (ad 57)), (2, .ref (am 0)), (3, .ref o), (4, .int (nI iL))]) hx hb dL_law_291 hl (by decide) rfl (fun ls hl => ?_)
    refine lv_aload_n hx hb dL_law_293 rfl (lv_at hl 3 rfl) ?_
    refine lv_aload_n hx hb dL_law_294 rfl (lv_at hl 1 rfl) ?_
    refine lv_iload hx hb dL_law_295 (lv_at hl 5 rfl) ?_
    refine lv_iconst (v := nI 1) hx hb dL_law_297 (by decide) ?_
    refine kn_iadd hx hb dL_law_298 ?_
    refine va_sld hx hb F.sc F.bl (fun z => Nat.not_le.mpr F.bl z) hS.st (vp_in_nI (show iL + 1 < L by omega) (by omega)) dL_law_299 ?_
    rw [← hx1]
    refine lv_aload_n hx hb dL_law_300 rfl (lv_at hl 1 rfl) ?_
    refine lv_iload hx hb dL_law_301 (lv_at hl 5 rfl) ?_
    refine lv_iconst (v := nI 2) hx hb dL_law_303 (by decide) ?_
    refine kn_iadd hx hb dL_law_304 ?_
    refine va_sld hx hb F.sc F.bl (fun z => Nat.not_le.mpr F.bl z) hS.st (vp_in_nI (show iL + 2 < L by omega) (by omega)) dL_law_305 ?_
    rw [← hx2]
    refine lv_aload_n hx hb dL_law_306 rfl (lv_at hl 1 rfl) ?_
    refine lv_iload hx hb dL_law_307 (lv_at hl 5 rfl) ?_
    refine lv_iconst (v := nI 3) hx hb dL_law_309 (by decide) ?_
    refine kn_iadd hx hb dL_law_310 ?_
    refine va_sld hx hb F.sc F.bl (fun z => Nat.not_le.mpr F.bl z) hS.st (vp_in_nI (show iL + 3 < L by omega) (by omega)) dL_law_311 ?_
    rw [← hx3]
    have hI := hI9.m
    have T := hI9.T
    have hc : M.2.2.2.1 + 12 < 1000000 := by have := hI9.mp; omega
    have hn := (hI.1 i hi).1
    rw [T.sz hi] at hb9
    refine ll_m (va_runV (As := [.int (nI i), .int x2, .int x3]) (rest := []) ⟨hx, hb, hml, hown, hts⟩ (o_X6_putAt_2 l dC dI am M i x2 x3 hi hb9 hI) (cwV 3 hts gL_law_X6_putAt rfl rfl rfl hdX6_putAt_3 ⟨Nat.le_of_ble_eq_true rfl, Nat.le_of_ble_eq_true rfl⟩) (hS.preM F.K) rfl rfl hl.1 rfl (lv_room (Nat.le_of_ble_eq_true rfl)) dL_law_312 ⟨le_rc (by omega), le_rs (by omega)⟩) F.K hS (fun r8 M1 H locs hko hv hS => ?_)
    have hLM : LM M M1 := by rw [hv]; exact LM_th hI _
    have hT : Tie2 S M1 := by rw [hv]; exact T.th _
    refine lv_istore (lv' := [(6, .int r8), (5, .int (nI 1)), (0, .ref b), (1, .ref (ad 57)), (2, .ref (am 0)), (3, .ref o), (4, .int (nI iL))]) hx hb dL_law_315 hl (by decide) rfl (fun ls hl => ?_)
    refine lv_goto (tgt := 2052) hx hb dL_law_317 (by decide) ?_
    exact W.widen (k := 100 + 224 * (n + 1)) (n := 1200 + 10680 * (n + 1)) (by omega) (by omega) (kk9 S M1 _ _ _ (hI9.next hLQ hLM hT) hS (lv_sub hl [2, 3, 4, 5, 6] rfl))
  · skip
    refine lv_istore (lv' := [(5, .int (nI 2)), (0, .ref b), (1, .ref (ad 57)), (2, .ref (am 0)), (3, .ref o), (4, .int (nI iL))]) hx hb dL_law_291 hl (by decide) rfl (fun ls hl => ?_)
    refine lv_aload_n hx hb dL_law_293 rfl (lv_at hl 3 rfl) ?_
    refine lv_aload_n hx hb dL_law_294 rfl (lv_at hl 1 rfl) ?_
    refine lv_iload hx hb dL_law_295 (lv_at hl 5 rfl) ?_
    refine lv_iconst (v := nI 1) hx hb dL_law_297 (by decide) ?_
    refine kn_iadd hx hb dL_law_298 ?_
    refine va_sld hx hb F.sc F.bl (fun z => Nat.not_le.mpr F.bl z) hS.st (vp_in_nI (show iL + 1 < L by omega) (by omega)) dL_law_299 ?_
    rw [← hx1]
    refine lv_aload_n hx hb dL_law_300 rfl (lv_at hl 1 rfl) ?_
    refine lv_iload hx hb dL_law_301 (lv_at hl 5 rfl) ?_
    refine lv_iconst (v := nI 2) hx hb dL_law_303 (by decide) ?_
    refine kn_iadd hx hb dL_law_304 ?_
    refine va_sld hx hb F.sc F.bl (fun z => Nat.not_le.mpr F.bl z) hS.st (vp_in_nI (show iL + 2 < L by omega) (by omega)) dL_law_305 ?_
    rw [← hx2]
    refine lv_aload_n hx hb dL_law_306 rfl (lv_at hl 1 rfl) ?_
    refine lv_iload hx hb dL_law_307 (lv_at hl 5 rfl) ?_
    refine lv_iconst (v := nI 3) hx hb dL_law_309 (by decide) ?_
    refine kn_iadd hx hb dL_law_310 ?_
    refine va_sld hx hb F.sc F.bl (fun z => Nat.not_le.mpr F.bl z) hS.st (vp_in_nI (show iL + 3 < L by omega) (by omega)) dL_law_311 ?_
    rw [← hx3]
    have hI := hI9.m
    have T := hI9.T
    have hc : M.2.2.2.1 + 12 < 1000000 := by have := hI9.mp; omega
    have hqM : q ≤ (M.1 i).2.2 := by rw [← T.sz hi]; exact hq
    have hn := (hI.1 i hi).1
    refine ll_m (va_runV (As := [.int (nI i), .int (nI q), .int x3]) (rest := []) ⟨hx, hb, hml, hown, hts⟩ (o_X6_putAt_3 l dC dI am M i q x3 hi hqM hb9 hI) (cwV 3 hts gL_law_X6_putAt rfl rfl rfl hdX6_putAt_3 ⟨Nat.le_of_ble_eq_true rfl, Nat.le_of_ble_eq_true rfl⟩) (hS.preM F.K) rfl rfl hl.1 rfl (lv_room (Nat.le_of_ble_eq_true rfl)) dL_law_312 ⟨le_rc (by omega), le_rs (by omega)⟩) F.K hS (fun r8 M1 H locs hko hv hS => ?_)
    have hLM : LM M M1 := by rw [hv]; exact LM_th hI _
    have hT : Tie2 S M1 := by rw [hv]; exact T.th _
    refine lv_istore (lv' := [(6, .int r8), (5, .int (nI 2)), (0, .ref b), (1, .ref (ad 57)), (2, .ref (am 0)), (3, .ref o), (4, .int (nI iL))]) hx hb dL_law_315 hl (by decide) rfl (fun ls hl => ?_)
    refine lv_goto (tgt := 2052) hx hb dL_law_317 (by decide) ?_
    exact W.widen (k := 100 + 224 * (n + 1)) (n := 1200 + 10680 * (n + 1)) (by omega) (by omega) (kk9 S M1 _ _ _ (hI9.next hLQ hLM hT) hS (lv_sub hl [2, 3, 4, 5, 6] rfl))
  · skip
    refine lv_istore (lv' := [(5, .int (nI 0)), (0, .ref b), (1, .ref (ad 57)), (2, .ref (am 0)), (3, .ref o), (4, .int (nI iL))]) hx hb dL_law_291 hl (by decide) rfl (fun ls hl => ?_)
    refine lv_aload_n hx hb dL_law_293 rfl (lv_at hl 3 rfl) ?_
    refine lv_aload_n hx hb dL_law_294 rfl (lv_at hl 1 rfl) ?_
    refine lv_iload hx hb dL_law_295 (lv_at hl 5 rfl) ?_
    refine lv_iconst (v := nI 1) hx hb dL_law_297 (by decide) ?_
    refine kn_iadd hx hb dL_law_298 ?_
    refine va_sld hx hb F.sc F.bl (fun z => Nat.not_le.mpr F.bl z) hS.st (vp_in_nI (show iL + 1 < L by omega) (by omega)) dL_law_299 ?_
    rw [← hx1]
    refine lv_aload_n hx hb dL_law_300 rfl (lv_at hl 1 rfl) ?_
    refine lv_iload hx hb dL_law_301 (lv_at hl 5 rfl) ?_
    refine lv_iconst (v := nI 2) hx hb dL_law_303 (by decide) ?_
    refine kn_iadd hx hb dL_law_304 ?_
    refine va_sld hx hb F.sc F.bl (fun z => Nat.not_le.mpr F.bl z) hS.st (vp_in_nI (show iL + 2 < L by omega) (by omega)) dL_law_305 ?_
    rw [← hx2]
    refine lv_aload_n hx hb dL_law_306 rfl (lv_at hl 1 rfl) ?_
    refine lv_iload hx hb dL_law_307 (lv_at hl 5 rfl) ?_
    refine lv_iconst (v := nI 3) hx hb dL_law_309 (by decide) ?_
    refine kn_iadd hx hb dL_law_310 ?_
    refine va_sld hx hb F.sc F.bl (fun z => Nat.not_le.mpr F.bl z) hS.st (vp_in_nI (show iL + 3 < L by omega) (by omega)) dL_law_311 ?_
    rw [← hx3]
    have hI := hI9.m
    have T := hI9.T
    have hc : M.2.2.2.1 + 12 < 1000000 := by have := hI9.mp; omega
    have hqM : q ≤ (M.1 i).2.2 := by rw [← T.sz hi]; exact hq
    have hn := (hI.1 i hi).1
    refine ll_m (va_runV (As := [.int (nI i), .int (nI q), .int (nI v)]) (rest := []) ⟨hx, hb, hml, hown, hts⟩ (m_X6_putAt l dC dI am M i q v hi hqM hv9 hI) (cwV 3 hts gL_law_X6_putAt rfl rfl rfl hdX6_putAt_3 ⟨Nat.le_of_ble_eq_true rfl, Nat.le_of_ble_eq_true rfl⟩) (hS.preM F.K) rfl rfl hl.1 rfl (lv_room (Nat.le_of_ble_eq_true rfl)) dL_law_312 ⟨le_rc (by omega), le_rs (by omega)⟩) F.K hS (fun r8 M1 H locs hko hv hS => ?_)
    have hLM : LM M M1 := LM_put hI hc hi hv9 hv
    obtain ⟨hT, he9, ht9⟩ := (A_put T.1 hi hw hv).two (E_put T.1 T.2 hi rfl hq hw hv)
    refine lv_istore (lv' := [(6, .int r8), (5, .int (nI 0)), (0, .ref b), (1, .ref (ad 57)), (2, .ref (am 0)), (3, .ref o), (4, .int (nI iL))]) hx hb dL_law_315 hl (by decide) rfl (fun ls hl => ?_)
    refine lv_goto (tgt := 2052) hx hb dL_law_317 (by decide) ?_
    exact W.widen (k := 100 + 224 * (n + 1)) (n := 1200 + 10680 * (n + 1)) (by omega) (by omega) (kk9 S1 M1 _ _ _ (hI9.next hLQ hLM hT) hS (lv_sub hl [2, 3, 4, 5, 6] rfl))
set_option maxHeartbeats 4000000 in
set_option maxRecDepth 100000 in
theorem lc_2 {p : Program} {l : Launch} {e : Env} {s : State} {m : MethodId} {below : List Frame} {meth : Method} {c : Code} {b L : Nat} {xs : Nat → Int32} {dC : Nat → ClassId} {dI : Nat → Nat → Nat} {cB : ClassId} {ad am : Nat → Nat} {o n iL : Nat} {Q : State → Prop} (F : LF p l s m c b L xs dC dI cB ad am o) (hni : iL = 5 * n) (hiL : iL + 5 ≤ L) : LCase p l e s m below meth c b dC dI ad am o n iL Q 320 := by
  intro S M H locs hI9 hS kk9 ls hl
  have hx := F.x
  have hb := F.b
  have hml := F.ml
  have hown := F.own
  have hts := F.ts
  have hL := F.hL
  have hn9 : n ≤ 511 := by omega
  refine lv_aload_n hx hb dL_law_320 rfl (lv_at hl 1 rfl) ?_
  refine lv_aload_n hx hb dL_law_321 rfl (lv_at hl 0 rfl) ?_
  refine lv_iload hx hb dL_law_322 (lv_at hl 4 rfl) ?_
  refine lv_iconst (v := nI 1) hx hb dL_law_324 (by decide) ?_
  refine kn_iadd hx hb dL_law_325 ?_
  refine va_sld hx hb F.sc F.bl (fun z => Nat.not_le.mpr F.bl z) hS.st (vp_in_nI (show iL + 1 < L by omega) (by omega)) dL_law_326 ?_
  obtain ⟨x1, hx1⟩ : ∃ z, z = xs (nI (iL + 1)).toNatClampNeg := ⟨_, rfl⟩
  rw [← hx1]
  refine lv_aload_n hx hb dL_law_327 rfl (lv_at hl 0 rfl) ?_
  refine lv_iload hx hb dL_law_328 (lv_at hl 4 rfl) ?_
  refine lv_iconst (v := nI 2) hx hb dL_law_330 (by decide) ?_
  refine kn_iadd hx hb dL_law_331 ?_
  refine va_sld hx hb F.sc F.bl (fun z => Nat.not_le.mpr F.bl z) hS.st (vp_in_nI (show iL + 2 < L by omega) (by omega)) dL_law_332 ?_
  obtain ⟨x2, hx2⟩ : ∃ z, z = xs (nI (iL + 2)).toNatClampNeg := ⟨_, rfl⟩
  rw [← hx2]
  refine lv_aload_n hx hb dL_law_333 rfl (lv_at hl 0 rfl) ?_
  refine lv_iload hx hb dL_law_334 (lv_at hl 4 rfl) ?_
  refine lv_iconst (v := nI 3) hx hb dL_law_336 (by decide) ?_
  refine kn_iadd hx hb dL_law_337 ?_
  refine va_sld hx hb F.sc F.bl (fun z => Nat.not_le.mpr F.bl z) hS.st (vp_in_nI (show iL + 3 < L by omega) (by omega)) dL_law_338 ?_
  obtain ⟨x3, hx3⟩ : ∃ z, z = xs (nI (iL + 3)).toNatClampNeg := ⟨_, rfl⟩
  rw [← hx3]
  refine lv_aload_n hx hb dL_law_339 rfl (lv_at hl 0 rfl) ?_
  refine lv_iload hx hb dL_law_340 (lv_at hl 4 rfl) ?_
  refine lv_iconst (v := nI 4) hx hb dL_law_342 (by decide) ?_
  refine kn_iadd hx hb dL_law_343 ?_
  refine va_sld hx hb F.sc F.bl (fun z => Nat.not_le.mpr F.bl z) hS.st (vp_in_nI (show iL + 4 < L by omega) (by omega)) dL_law_344 ?_
  obtain ⟨x4, hx4⟩ : ∃ z, z = xs (nI (iL + 4)).toNatClampNeg := ⟨_, rfl⟩
  rw [← hx4]
  refine lv_aload_n hx hb dL_law_345 rfl (lv_at hl 3 rfl) ?_
  refine ll_w (vx_runSW (As := [.ref (ad 57), .int x1, .int x2, .int x3, .int x4, .ref o]) (rest := []) ⟨hx, hb, hml, hown, hts⟩ (m_L_fill l F.st dC dI cB ad o S x1 x2 x3 x4 hI9.x hI9.x5 (by have := hI9.xp; omega)) (vx_cwSW 6 hts gL_law_L_fill rfl rfl rfl hdL_fill_6.2 ⟨Nat.le_of_ble_eq_true rfl, Nat.le_of_ble_eq_true rfl⟩) (hS.preW F.K) rfl rfl hl.1 rfl (lv_room (Nat.le_of_ble_eq_true rfl)) dL_law_346 ⟨le_rc (by omega), le_rs (by omega)⟩) F.K hS (fun r0 S1 n1 H locs hq9 hN hS => ?_)
  have hLQ : LQ S S1 := hq9.1
  have hR : R_fill x1 x2 x3 x4 S r0 S1 n1 := hq9.2
  clear hq9
  rcases hR with ⟨hb9, rfl, rfl⟩ | ⟨i, hi, rfl, hb9, rfl, rfl⟩ | ⟨i, k, hi, hk, rfl, rfl, hb9, rfl, rfl⟩ | ⟨i, k, k2, hi, hk, hk2, rfl, rfl, rfl, hb9, rfl, rfl⟩ | ⟨i, k, k2, k3, r7, hi, hk, hk2, hk3, rfl, rfl, rfl, rfl, rfl, rfl, hw⟩
  · skip
    refine lv_istore (lv' := [(5, .int (nI 1)), (0, .ref b), (1, .ref (ad 57)), (2, .ref (am 0)), (3, .ref o), (4, .int (nI iL))]) hx hb dL_law_349 hl (by decide) rfl (fun ls hl => ?_)
    refine lv_aload_n hx hb dL_law_351 rfl (lv_at hl 3 rfl) ?_
    refine lv_aload_n hx hb dL_law_352 rfl (lv_at hl 1 rfl) ?_
    refine lv_iload hx hb dL_law_353 (lv_at hl 5 rfl) ?_
    refine lv_iconst (v := nI 1) hx hb dL_law_355 (by decide) ?_
    refine kn_iadd hx hb dL_law_356 ?_
    refine va_sld hx hb F.sc F.bl (fun z => Nat.not_le.mpr F.bl z) hS.st (vp_in_nI (show iL + 1 < L by omega) (by omega)) dL_law_357 ?_
    rw [← hx1]
    refine lv_aload_n hx hb dL_law_358 rfl (lv_at hl 1 rfl) ?_
    refine lv_iload hx hb dL_law_359 (lv_at hl 5 rfl) ?_
    refine lv_iconst (v := nI 2) hx hb dL_law_361 (by decide) ?_
    refine kn_iadd hx hb dL_law_362 ?_
    refine va_sld hx hb F.sc F.bl (fun z => Nat.not_le.mpr F.bl z) hS.st (vp_in_nI (show iL + 2 < L by omega) (by omega)) dL_law_363 ?_
    rw [← hx2]
    refine lv_aload_n hx hb dL_law_364 rfl (lv_at hl 1 rfl) ?_
    refine lv_iload hx hb dL_law_365 (lv_at hl 5 rfl) ?_
    refine lv_iconst (v := nI 3) hx hb dL_law_367 (by decide) ?_
    refine kn_iadd hx hb dL_law_368 ?_
    refine va_sld hx hb F.sc F.bl (fun z => Nat.not_le.mpr F.bl z) hS.st (vp_in_nI (show iL + 3 < L by omega) (by omega)) dL_law_369 ?_
    rw [← hx3]
    refine lv_aload_n hx hb dL_law_370 rfl (lv_at hl 1 rfl) ?_
    refine lv_iload hx hb dL_law_371 (lv_at hl 5 rfl) ?_
    refine lv_iconst (v := nI 4) hx hb dL_law_373 (by decide) ?_
    refine kn_iadd hx hb dL_law_374 ?_
    refine va_sld hx hb F.sc F.bl (fun z => Nat.not_le.mpr F.bl z) hS.st (vp_in_nI (show iL + 4 < L by omega) (by omega)) dL_law_375 ?_
    rw [← hx4]
    have hI := hI9.m
    have T := hI9.T
    have hc : M.2.2.2.1 + 12 < 1000000 := by have := hI9.mp; omega
    refine ll_m (va_runV (As := [.int x1, .int x2, .int x3, .int x4]) (rest := []) ⟨hx, hb, hml, hown, hts⟩ (o_X6_fill_1 l dC dI am M x1 x2 x3 x4 hb9 hI) (cwV 4 hts gL_law_X6_fill rfl rfl rfl hdX6_fill_4 ⟨Nat.le_of_ble_eq_true rfl, Nat.le_of_ble_eq_true rfl⟩) (hS.preM F.K) rfl rfl hl.1 rfl (lv_room (Nat.le_of_ble_eq_true rfl)) dL_law_376 ⟨le_rc (by omega), le_rs (by omega)⟩) F.K hS (fun r8 M1 H locs hko hv hS => ?_)
    have hLM : LM M M1 := by rw [hv]; exact LM_th hI _
    have hT : Tie2 S M1 := by rw [hv]; exact T.th _
    refine lv_istore (lv' := [(6, .int r8), (5, .int (nI 1)), (0, .ref b), (1, .ref (ad 57)), (2, .ref (am 0)), (3, .ref o), (4, .int (nI iL))]) hx hb dL_law_379 hl (by decide) rfl (fun ls hl => ?_)
    refine lv_goto (tgt := 2052) hx hb dL_law_381 (by decide) ?_
    exact W.widen (k := 100 + 224 * (n + 1)) (n := 1200 + 10680 * (n + 1)) (by omega) (by omega) (kk9 S M1 _ _ _ (hI9.next hLQ hLM hT) hS (lv_sub hl [2, 3, 4, 5, 6] rfl))
  · skip
    refine lv_istore (lv' := [(5, .int (nI 2)), (0, .ref b), (1, .ref (ad 57)), (2, .ref (am 0)), (3, .ref o), (4, .int (nI iL))]) hx hb dL_law_349 hl (by decide) rfl (fun ls hl => ?_)
    refine lv_aload_n hx hb dL_law_351 rfl (lv_at hl 3 rfl) ?_
    refine lv_aload_n hx hb dL_law_352 rfl (lv_at hl 1 rfl) ?_
    refine lv_iload hx hb dL_law_353 (lv_at hl 5 rfl) ?_
    refine lv_iconst (v := nI 1) hx hb dL_law_355 (by decide) ?_
    refine kn_iadd hx hb dL_law_356 ?_
    refine va_sld hx hb F.sc F.bl (fun z => Nat.not_le.mpr F.bl z) hS.st (vp_in_nI (show iL + 1 < L by omega) (by omega)) dL_law_357 ?_
    rw [← hx1]
    refine lv_aload_n hx hb dL_law_358 rfl (lv_at hl 1 rfl) ?_
    refine lv_iload hx hb dL_law_359 (lv_at hl 5 rfl) ?_
    refine lv_iconst (v := nI 2) hx hb dL_law_361 (by decide) ?_
    refine kn_iadd hx hb dL_law_362 ?_
    refine va_sld hx hb F.sc F.bl (fun z => Nat.not_le.mpr F.bl z) hS.st (vp_in_nI (show iL + 2 < L by omega) (by omega)) dL_law_363 ?_
    rw [← hx2]
    refine lv_aload_n hx hb dL_law_364 rfl (lv_at hl 1 rfl) ?_
    refine lv_iload hx hb dL_law_365 (lv_at hl 5 rfl) ?_
    refine lv_iconst (v := nI 3) hx hb dL_law_367 (by decide) ?_
    refine kn_iadd hx hb dL_law_368 ?_
    refine va_sld hx hb F.sc F.bl (fun z => Nat.not_le.mpr F.bl z) hS.st (vp_in_nI (show iL + 3 < L by omega) (by omega)) dL_law_369 ?_
    rw [← hx3]
    refine lv_aload_n hx hb dL_law_370 rfl (lv_at hl 1 rfl) ?_
    refine lv_iload hx hb dL_law_371 (lv_at hl 5 rfl) ?_
    refine lv_iconst (v := nI 4) hx hb dL_law_373 (by decide) ?_
    refine kn_iadd hx hb dL_law_374 ?_
    refine va_sld hx hb F.sc F.bl (fun z => Nat.not_le.mpr F.bl z) hS.st (vp_in_nI (show iL + 4 < L by omega) (by omega)) dL_law_375 ?_
    rw [← hx4]
    have hI := hI9.m
    have T := hI9.T
    have hc : M.2.2.2.1 + 12 < 1000000 := by have := hI9.mp; omega
    have hn := (hI.1 i hi).1
    refine ll_m (va_runV (As := [.int (nI i), .int x2, .int x3, .int x4]) (rest := []) ⟨hx, hb, hml, hown, hts⟩ (o_X6_fill_2 l dC dI am M i x2 x3 x4 hi hb9 hI) (cwV 4 hts gL_law_X6_fill rfl rfl rfl hdX6_fill_4 ⟨Nat.le_of_ble_eq_true rfl, Nat.le_of_ble_eq_true rfl⟩) (hS.preM F.K) rfl rfl hl.1 rfl (lv_room (Nat.le_of_ble_eq_true rfl)) dL_law_376 ⟨le_rc (by omega), le_rs (by omega)⟩) F.K hS (fun r8 M1 H locs hko hv hS => ?_)
    have hLM : LM M M1 := by rw [hv]; exact LM_th hI _
    have hT : Tie2 S M1 := by rw [hv]; exact T.th _
    refine lv_istore (lv' := [(6, .int r8), (5, .int (nI 2)), (0, .ref b), (1, .ref (ad 57)), (2, .ref (am 0)), (3, .ref o), (4, .int (nI iL))]) hx hb dL_law_379 hl (by decide) rfl (fun ls hl => ?_)
    refine lv_goto (tgt := 2052) hx hb dL_law_381 (by decide) ?_
    exact W.widen (k := 100 + 224 * (n + 1)) (n := 1200 + 10680 * (n + 1)) (by omega) (by omega) (kk9 S M1 _ _ _ (hI9.next hLQ hLM hT) hS (lv_sub hl [2, 3, 4, 5, 6] rfl))
  · skip
    refine lv_istore (lv' := [(5, .int (nI 2)), (0, .ref b), (1, .ref (ad 57)), (2, .ref (am 0)), (3, .ref o), (4, .int (nI iL))]) hx hb dL_law_349 hl (by decide) rfl (fun ls hl => ?_)
    refine lv_aload_n hx hb dL_law_351 rfl (lv_at hl 3 rfl) ?_
    refine lv_aload_n hx hb dL_law_352 rfl (lv_at hl 1 rfl) ?_
    refine lv_iload hx hb dL_law_353 (lv_at hl 5 rfl) ?_
    refine lv_iconst (v := nI 1) hx hb dL_law_355 (by decide) ?_
    refine kn_iadd hx hb dL_law_356 ?_
    refine va_sld hx hb F.sc F.bl (fun z => Nat.not_le.mpr F.bl z) hS.st (vp_in_nI (show iL + 1 < L by omega) (by omega)) dL_law_357 ?_
    rw [← hx1]
    refine lv_aload_n hx hb dL_law_358 rfl (lv_at hl 1 rfl) ?_
    refine lv_iload hx hb dL_law_359 (lv_at hl 5 rfl) ?_
    refine lv_iconst (v := nI 2) hx hb dL_law_361 (by decide) ?_
    refine kn_iadd hx hb dL_law_362 ?_
    refine va_sld hx hb F.sc F.bl (fun z => Nat.not_le.mpr F.bl z) hS.st (vp_in_nI (show iL + 2 < L by omega) (by omega)) dL_law_363 ?_
    rw [← hx2]
    refine lv_aload_n hx hb dL_law_364 rfl (lv_at hl 1 rfl) ?_
    refine lv_iload hx hb dL_law_365 (lv_at hl 5 rfl) ?_
    refine lv_iconst (v := nI 3) hx hb dL_law_367 (by decide) ?_
    refine kn_iadd hx hb dL_law_368 ?_
    refine va_sld hx hb F.sc F.bl (fun z => Nat.not_le.mpr F.bl z) hS.st (vp_in_nI (show iL + 3 < L by omega) (by omega)) dL_law_369 ?_
    rw [← hx3]
    refine lv_aload_n hx hb dL_law_370 rfl (lv_at hl 1 rfl) ?_
    refine lv_iload hx hb dL_law_371 (lv_at hl 5 rfl) ?_
    refine lv_iconst (v := nI 4) hx hb dL_law_373 (by decide) ?_
    refine kn_iadd hx hb dL_law_374 ?_
    refine va_sld hx hb F.sc F.bl (fun z => Nat.not_le.mpr F.bl z) hS.st (vp_in_nI (show iL + 4 < L by omega) (by omega)) dL_law_375 ?_
    rw [← hx4]
    have hI := hI9.m
    have T := hI9.T
    have hc : M.2.2.2.1 + 12 < 1000000 := by have := hI9.mp; omega
    have hn := (hI.1 i hi).1
    refine ll_m (va_runV (As := [.int (nI i), .int (nI k), .int x3, .int x4]) (rest := []) ⟨hx, hb, hml, hown, hts⟩ (o_X6_fill_3 l dC dI am M i k x3 x4 hi hk hb9 hI) (cwV 4 hts gL_law_X6_fill rfl rfl rfl hdX6_fill_4 ⟨Nat.le_of_ble_eq_true rfl, Nat.le_of_ble_eq_true rfl⟩) (hS.preM F.K) rfl rfl hl.1 rfl (lv_room (Nat.le_of_ble_eq_true rfl)) dL_law_376 ⟨le_rc (by omega), le_rs (by omega)⟩) F.K hS (fun r8 M1 H locs hko hv hS => ?_)
    have hLM : LM M M1 := by rw [hv]; exact LM_th hI _
    have hT : Tie2 S M1 := by rw [hv]; exact T.th _
    refine lv_istore (lv' := [(6, .int r8), (5, .int (nI 2)), (0, .ref b), (1, .ref (ad 57)), (2, .ref (am 0)), (3, .ref o), (4, .int (nI iL))]) hx hb dL_law_379 hl (by decide) rfl (fun ls hl => ?_)
    refine lv_goto (tgt := 2052) hx hb dL_law_381 (by decide) ?_
    exact W.widen (k := 100 + 224 * (n + 1)) (n := 1200 + 10680 * (n + 1)) (by omega) (by omega) (kk9 S M1 _ _ _ (hI9.next hLQ hLM hT) hS (lv_sub hl [2, 3, 4, 5, 6] rfl))
  · skip
    refine lv_istore (lv' := [(5, .int (nI 2)), (0, .ref b), (1, .ref (ad 57)), (2, .ref (am 0)), (3, .ref o), (4, .int (nI iL))]) hx hb dL_law_349 hl (by decide) rfl (fun ls hl => ?_)
    refine lv_aload_n hx hb dL_law_351 rfl (lv_at hl 3 rfl) ?_
    refine lv_aload_n hx hb dL_law_352 rfl (lv_at hl 1 rfl) ?_
    refine lv_iload hx hb dL_law_353 (lv_at hl 5 rfl) ?_
    refine lv_iconst (v := nI 1) hx hb dL_law_355 (by decide) ?_
    refine kn_iadd hx hb dL_law_356 ?_
    refine va_sld hx hb F.sc F.bl (fun z => Nat.not_le.mpr F.bl z) hS.st (vp_in_nI (show iL + 1 < L by omega) (by omega)) dL_law_357 ?_
    rw [← hx1]
    refine lv_aload_n hx hb dL_law_358 rfl (lv_at hl 1 rfl) ?_
    refine lv_iload hx hb dL_law_359 (lv_at hl 5 rfl) ?_
    refine lv_iconst (v := nI 2) hx hb dL_law_361 (by decide) ?_
    refine kn_iadd hx hb dL_law_362 ?_
    refine va_sld hx hb F.sc F.bl (fun z => Nat.not_le.mpr F.bl z) hS.st (vp_in_nI (show iL + 2 < L by omega) (by omega)) dL_law_363 ?_
    rw [← hx2]
    refine lv_aload_n hx hb dL_law_364 rfl (lv_at hl 1 rfl) ?_
    refine lv_iload hx hb dL_law_365 (lv_at hl 5 rfl) ?_
    refine lv_iconst (v := nI 3) hx hb dL_law_367 (by decide) ?_
    refine kn_iadd hx hb dL_law_368 ?_
    refine va_sld hx hb F.sc F.bl (fun z => Nat.not_le.mpr F.bl z) hS.st (vp_in_nI (show iL + 3 < L by omega) (by omega)) dL_law_369 ?_
    rw [← hx3]
    refine lv_aload_n hx hb dL_law_370 rfl (lv_at hl 1 rfl) ?_
    refine lv_iload hx hb dL_law_371 (lv_at hl 5 rfl) ?_
    refine lv_iconst (v := nI 4) hx hb dL_law_373 (by decide) ?_
    refine kn_iadd hx hb dL_law_374 ?_
    refine va_sld hx hb F.sc F.bl (fun z => Nat.not_le.mpr F.bl z) hS.st (vp_in_nI (show iL + 4 < L by omega) (by omega)) dL_law_375 ?_
    rw [← hx4]
    have hI := hI9.m
    have T := hI9.T
    have hc : M.2.2.2.1 + 12 < 1000000 := by have := hI9.mp; omega
    have hn := (hI.1 i hi).1
    refine ll_m (va_runV (As := [.int (nI i), .int (nI k), .int (nI k2), .int x4]) (rest := []) ⟨hx, hb, hml, hown, hts⟩ (o_X6_fill_4 l dC dI am M i k k2 x4 hi hk hk2 hb9 hI) (cwV 4 hts gL_law_X6_fill rfl rfl rfl hdX6_fill_4 ⟨Nat.le_of_ble_eq_true rfl, Nat.le_of_ble_eq_true rfl⟩) (hS.preM F.K) rfl rfl hl.1 rfl (lv_room (Nat.le_of_ble_eq_true rfl)) dL_law_376 ⟨le_rc (by omega), le_rs (by omega)⟩) F.K hS (fun r8 M1 H locs hko hv hS => ?_)
    have hLM : LM M M1 := by rw [hv]; exact LM_th hI _
    have hT : Tie2 S M1 := by rw [hv]; exact T.th _
    refine lv_istore (lv' := [(6, .int r8), (5, .int (nI 2)), (0, .ref b), (1, .ref (ad 57)), (2, .ref (am 0)), (3, .ref o), (4, .int (nI iL))]) hx hb dL_law_379 hl (by decide) rfl (fun ls hl => ?_)
    refine lv_goto (tgt := 2052) hx hb dL_law_381 (by decide) ?_
    exact W.widen (k := 100 + 224 * (n + 1)) (n := 1200 + 10680 * (n + 1)) (by omega) (by omega) (kk9 S M1 _ _ _ (hI9.next hLQ hLM hT) hS (lv_sub hl [2, 3, 4, 5, 6] rfl))
  · skip
    refine lv_istore (lv' := [(5, .int (nI 0)), (0, .ref b), (1, .ref (ad 57)), (2, .ref (am 0)), (3, .ref o), (4, .int (nI iL))]) hx hb dL_law_349 hl (by decide) rfl (fun ls hl => ?_)
    refine lv_aload_n hx hb dL_law_351 rfl (lv_at hl 3 rfl) ?_
    refine lv_aload_n hx hb dL_law_352 rfl (lv_at hl 1 rfl) ?_
    refine lv_iload hx hb dL_law_353 (lv_at hl 5 rfl) ?_
    refine lv_iconst (v := nI 1) hx hb dL_law_355 (by decide) ?_
    refine kn_iadd hx hb dL_law_356 ?_
    refine va_sld hx hb F.sc F.bl (fun z => Nat.not_le.mpr F.bl z) hS.st (vp_in_nI (show iL + 1 < L by omega) (by omega)) dL_law_357 ?_
    rw [← hx1]
    refine lv_aload_n hx hb dL_law_358 rfl (lv_at hl 1 rfl) ?_
    refine lv_iload hx hb dL_law_359 (lv_at hl 5 rfl) ?_
    refine lv_iconst (v := nI 2) hx hb dL_law_361 (by decide) ?_
    refine kn_iadd hx hb dL_law_362 ?_
    refine va_sld hx hb F.sc F.bl (fun z => Nat.not_le.mpr F.bl z) hS.st (vp_in_nI (show iL + 2 < L by omega) (by omega)) dL_law_363 ?_
    rw [← hx2]
    refine lv_aload_n hx hb dL_law_364 rfl (lv_at hl 1 rfl) ?_
    refine lv_iload hx hb dL_law_365 (lv_at hl 5 rfl) ?_
    refine lv_iconst (v := nI 3) hx hb dL_law_367 (by decide) ?_
    refine kn_iadd hx hb dL_law_368 ?_
    refine va_sld hx hb F.sc F.bl (fun z => Nat.not_le.mpr F.bl z) hS.st (vp_in_nI (show iL + 3 < L by omega) (by omega)) dL_law_369 ?_
    rw [← hx3]
    refine lv_aload_n hx hb dL_law_370 rfl (lv_at hl 1 rfl) ?_
    refine lv_iload hx hb dL_law_371 (lv_at hl 5 rfl) ?_
    refine lv_iconst (v := nI 4) hx hb dL_law_373 (by decide) ?_
    refine kn_iadd hx hb dL_law_374 ?_
    refine va_sld hx hb F.sc F.bl (fun z => Nat.not_le.mpr F.bl z) hS.st (vp_in_nI (show iL + 4 < L by omega) (by omega)) dL_law_375 ?_
    rw [← hx4]
    have hI := hI9.m
    have T := hI9.T
    have hc : M.2.2.2.1 + 12 < 1000000 := by have := hI9.mp; omega
    have hn := (hI.1 i hi).1
    refine ll_m (va_runV (As := [.int (nI i), .int (nI k), .int (nI k2), .int (nI k3)]) (rest := []) ⟨hx, hb, hml, hown, hts⟩ (m_X6_fill l dC dI am M i k k2 k3 hi hk hk2 hk3 hI) (cwV 4 hts gL_law_X6_fill rfl rfl rfl hdX6_fill_4 ⟨Nat.le_of_ble_eq_true rfl, Nat.le_of_ble_eq_true rfl⟩) (hS.preM F.K) rfl rfl hl.1 rfl (lv_room (Nat.le_of_ble_eq_true rfl)) dL_law_376 ⟨le_rc (by omega), le_rs (by omega)⟩) F.K hS (fun r8 M1 H locs hko hv hS => ?_)
    have hLM : LM M M1 := LM_fill hI hc hi hk hv
    obtain ⟨hT, he9, ht9⟩ := (A_fill T.1 hi hw hv).two (E_fill T.1 T.2 hi hw hv)
    refine lv_istore (lv' := [(6, .int r8), (5, .int (nI 0)), (0, .ref b), (1, .ref (ad 57)), (2, .ref (am 0)), (3, .ref o), (4, .int (nI iL))]) hx hb dL_law_379 hl (by decide) rfl (fun ls hl => ?_)
    refine lv_goto (tgt := 2052) hx hb dL_law_381 (by decide) ?_
    exact W.widen (k := 100 + 224 * (n + 1)) (n := 1200 + 10680 * (n + 1)) (by omega) (by omega) (kk9 S1 M1 _ _ _ (hI9.next hLQ hLM hT) hS (lv_sub hl [2, 3, 4, 5, 6] rfl))
set_option maxHeartbeats 4000000 in
set_option maxRecDepth 100000 in
theorem lc_3 {p : Program} {l : Launch} {e : Env} {s : State} {m : MethodId} {below : List Frame} {meth : Method} {c : Code} {b L : Nat} {xs : Nat → Int32} {dC : Nat → ClassId} {dI : Nat → Nat → Nat} {cB : ClassId} {ad am : Nat → Nat} {o n iL : Nat} {Q : State → Prop} (F : LF p l s m c b L xs dC dI cB ad am o) (hni : iL = 5 * n) (hiL : iL + 5 ≤ L) : LCase p l e s m below meth c b dC dI ad am o n iL Q 384 := by
  intro S M H locs hI9 hS kk9 ls hl
  have hx := F.x
  have hb := F.b
  have hml := F.ml
  have hown := F.own
  have hts := F.ts
  have hL := F.hL
  have hn9 : n ≤ 511 := by omega
  refine lv_aload_n hx hb dL_law_384 rfl (lv_at hl 1 rfl) ?_
  refine lv_aload_n hx hb dL_law_385 rfl (lv_at hl 0 rfl) ?_
  refine lv_iload hx hb dL_law_386 (lv_at hl 4 rfl) ?_
  refine lv_iconst (v := nI 1) hx hb dL_law_388 (by decide) ?_
  refine kn_iadd hx hb dL_law_389 ?_
  refine va_sld hx hb F.sc F.bl (fun z => Nat.not_le.mpr F.bl z) hS.st (vp_in_nI (show iL + 1 < L by omega) (by omega)) dL_law_390 ?_
  obtain ⟨x1, hx1⟩ : ∃ z, z = xs (nI (iL + 1)).toNatClampNeg := ⟨_, rfl⟩
  rw [← hx1]
  refine lv_aload_n hx hb dL_law_391 rfl (lv_at hl 0 rfl) ?_
  refine lv_iload hx hb dL_law_392 (lv_at hl 4 rfl) ?_
  refine lv_iconst (v := nI 2) hx hb dL_law_394 (by decide) ?_
  refine kn_iadd hx hb dL_law_395 ?_
  refine va_sld hx hb F.sc F.bl (fun z => Nat.not_le.mpr F.bl z) hS.st (vp_in_nI (show iL + 2 < L by omega) (by omega)) dL_law_396 ?_
  obtain ⟨x2, hx2⟩ : ∃ z, z = xs (nI (iL + 2)).toNatClampNeg := ⟨_, rfl⟩
  rw [← hx2]
  refine lv_aload_n hx hb dL_law_397 rfl (lv_at hl 3 rfl) ?_
  refine ll_w (vx_runSW (As := [.ref (ad 57), .int x1, .int x2, .ref o]) (rest := []) ⟨hx, hb, hml, hown, hts⟩ (m_L_drop l F.st dC dI cB ad o S x1 x2 hI9.x hI9.x5 (by have := hI9.xp; omega)) (vx_cwSW 4 hts gL_law_L_drop rfl rfl rfl hdL_drop_4.2 ⟨Nat.le_of_ble_eq_true rfl, Nat.le_of_ble_eq_true rfl⟩) (hS.preW F.K) rfl rfl hl.1 rfl (lv_room (Nat.le_of_ble_eq_true rfl)) dL_law_398 ⟨le_rc (by omega), le_rs (by omega)⟩) F.K hS (fun r0 S1 n1 H locs hq9 hN hS => ?_)
  have hLQ : LQ S S1 := hq9.1
  have hR : R_drop x1 x2 S r0 S1 n1 := hq9.2
  clear hq9
  rcases hR with ⟨hb9, rfl, rfl⟩ | ⟨i, hi, rfl, hb9, rfl, rfl⟩ | ⟨i, q, r7, hi, hq, rfl, rfl, rfl, rfl, hw⟩
  · skip
    refine lv_istore (lv' := [(5, .int (nI 1)), (0, .ref b), (1, .ref (ad 57)), (2, .ref (am 0)), (3, .ref o), (4, .int (nI iL))]) hx hb dL_law_401 hl (by decide) rfl (fun ls hl => ?_)
    refine lv_aload_n hx hb dL_law_403 rfl (lv_at hl 3 rfl) ?_
    refine lv_aload_n hx hb dL_law_404 rfl (lv_at hl 1 rfl) ?_
    refine lv_iload hx hb dL_law_405 (lv_at hl 5 rfl) ?_
    refine lv_iconst (v := nI 1) hx hb dL_law_407 (by decide) ?_
    refine kn_iadd hx hb dL_law_408 ?_
    refine va_sld hx hb F.sc F.bl (fun z => Nat.not_le.mpr F.bl z) hS.st (vp_in_nI (show iL + 1 < L by omega) (by omega)) dL_law_409 ?_
    rw [← hx1]
    refine lv_aload_n hx hb dL_law_410 rfl (lv_at hl 1 rfl) ?_
    refine lv_iload hx hb dL_law_411 (lv_at hl 5 rfl) ?_
    refine lv_iconst (v := nI 2) hx hb dL_law_413 (by decide) ?_
    refine kn_iadd hx hb dL_law_414 ?_
    refine va_sld hx hb F.sc F.bl (fun z => Nat.not_le.mpr F.bl z) hS.st (vp_in_nI (show iL + 2 < L by omega) (by omega)) dL_law_415 ?_
    rw [← hx2]
    have hI := hI9.m
    have T := hI9.T
    have hc : M.2.2.2.1 + 12 < 1000000 := by have := hI9.mp; omega
    refine ll_m (va_runV (As := [.int x1, .int x2]) (rest := []) ⟨hx, hb, hml, hown, hts⟩ (o_X6_drop_1 l dC dI am M x1 x2 hb9 hI) (cwV 2 hts gL_law_X6_drop rfl rfl rfl hdX6_drop_2 ⟨Nat.le_of_ble_eq_true rfl, Nat.le_of_ble_eq_true rfl⟩) (hS.preM F.K) rfl rfl hl.1 rfl (lv_room (Nat.le_of_ble_eq_true rfl)) dL_law_416 ⟨le_rc (by omega), le_rs (by omega)⟩) F.K hS (fun r8 M1 H locs hko hv hS => ?_)
    have hLM : LM M M1 := by rw [hv]; exact LM_th hI _
    have hT : Tie2 S M1 := by rw [hv]; exact T.th _
    refine lv_istore (lv' := [(6, .int r8), (5, .int (nI 1)), (0, .ref b), (1, .ref (ad 57)), (2, .ref (am 0)), (3, .ref o), (4, .int (nI iL))]) hx hb dL_law_419 hl (by decide) rfl (fun ls hl => ?_)
    refine lv_goto (tgt := 2052) hx hb dL_law_421 (by decide) ?_
    exact W.widen (k := 100 + 224 * (n + 1)) (n := 1200 + 10680 * (n + 1)) (by omega) (by omega) (kk9 S M1 _ _ _ (hI9.next hLQ hLM hT) hS (lv_sub hl [2, 3, 4, 5, 6] rfl))
  · skip
    refine lv_istore (lv' := [(5, .int (nI 1)), (0, .ref b), (1, .ref (ad 57)), (2, .ref (am 0)), (3, .ref o), (4, .int (nI iL))]) hx hb dL_law_401 hl (by decide) rfl (fun ls hl => ?_)
    refine lv_aload_n hx hb dL_law_403 rfl (lv_at hl 3 rfl) ?_
    refine lv_aload_n hx hb dL_law_404 rfl (lv_at hl 1 rfl) ?_
    refine lv_iload hx hb dL_law_405 (lv_at hl 5 rfl) ?_
    refine lv_iconst (v := nI 1) hx hb dL_law_407 (by decide) ?_
    refine kn_iadd hx hb dL_law_408 ?_
    refine va_sld hx hb F.sc F.bl (fun z => Nat.not_le.mpr F.bl z) hS.st (vp_in_nI (show iL + 1 < L by omega) (by omega)) dL_law_409 ?_
    rw [← hx1]
    refine lv_aload_n hx hb dL_law_410 rfl (lv_at hl 1 rfl) ?_
    refine lv_iload hx hb dL_law_411 (lv_at hl 5 rfl) ?_
    refine lv_iconst (v := nI 2) hx hb dL_law_413 (by decide) ?_
    refine kn_iadd hx hb dL_law_414 ?_
    refine va_sld hx hb F.sc F.bl (fun z => Nat.not_le.mpr F.bl z) hS.st (vp_in_nI (show iL + 2 < L by omega) (by omega)) dL_law_415 ?_
    rw [← hx2]
    have hI := hI9.m
    have T := hI9.T
    have hc : M.2.2.2.1 + 12 < 1000000 := by have := hI9.mp; omega
    have hn := (hI.1 i hi).1
    rw [T.sz hi] at hb9
    refine ll_m (va_runV (As := [.int (nI i), .int x2]) (rest := []) ⟨hx, hb, hml, hown, hts⟩ (o_X6_drop_2 l dC dI am M i x2 hi hb9 hI) (cwV 2 hts gL_law_X6_drop rfl rfl rfl hdX6_drop_2 ⟨Nat.le_of_ble_eq_true rfl, Nat.le_of_ble_eq_true rfl⟩) (hS.preM F.K) rfl rfl hl.1 rfl (lv_room (Nat.le_of_ble_eq_true rfl)) dL_law_416 ⟨le_rc (by omega), le_rs (by omega)⟩) F.K hS (fun r8 M1 H locs hko hv hS => ?_)
    have hLM : LM M M1 := by rw [hv]; exact LM_th hI _
    have hT : Tie2 S M1 := by rw [hv]; exact T.th _
    refine lv_istore (lv' := [(6, .int r8), (5, .int (nI 1)), (0, .ref b), (1, .ref (ad 57)), (2, .ref (am 0)), (3, .ref o), (4, .int (nI iL))]) hx hb dL_law_419 hl (by decide) rfl (fun ls hl => ?_)
    refine lv_goto (tgt := 2052) hx hb dL_law_421 (by decide) ?_
    exact W.widen (k := 100 + 224 * (n + 1)) (n := 1200 + 10680 * (n + 1)) (by omega) (by omega) (kk9 S M1 _ _ _ (hI9.next hLQ hLM hT) hS (lv_sub hl [2, 3, 4, 5, 6] rfl))
  · skip
    refine lv_istore (lv' := [(5, .int (nI 0)), (0, .ref b), (1, .ref (ad 57)), (2, .ref (am 0)), (3, .ref o), (4, .int (nI iL))]) hx hb dL_law_401 hl (by decide) rfl (fun ls hl => ?_)
    refine lv_aload_n hx hb dL_law_403 rfl (lv_at hl 3 rfl) ?_
    refine lv_aload_n hx hb dL_law_404 rfl (lv_at hl 1 rfl) ?_
    refine lv_iload hx hb dL_law_405 (lv_at hl 5 rfl) ?_
    refine lv_iconst (v := nI 1) hx hb dL_law_407 (by decide) ?_
    refine kn_iadd hx hb dL_law_408 ?_
    refine va_sld hx hb F.sc F.bl (fun z => Nat.not_le.mpr F.bl z) hS.st (vp_in_nI (show iL + 1 < L by omega) (by omega)) dL_law_409 ?_
    rw [← hx1]
    refine lv_aload_n hx hb dL_law_410 rfl (lv_at hl 1 rfl) ?_
    refine lv_iload hx hb dL_law_411 (lv_at hl 5 rfl) ?_
    refine lv_iconst (v := nI 2) hx hb dL_law_413 (by decide) ?_
    refine kn_iadd hx hb dL_law_414 ?_
    refine va_sld hx hb F.sc F.bl (fun z => Nat.not_le.mpr F.bl z) hS.st (vp_in_nI (show iL + 2 < L by omega) (by omega)) dL_law_415 ?_
    rw [← hx2]
    have hI := hI9.m
    have T := hI9.T
    have hc : M.2.2.2.1 + 12 < 1000000 := by have := hI9.mp; omega
    have hqM : q < (M.1 i).2.2 := by rw [← T.sz hi]; exact hq
    have hn := (hI.1 i hi).1
    refine ll_m (va_runV (As := [.int (nI i), .int (nI q)]) (rest := []) ⟨hx, hb, hml, hown, hts⟩ (m_X6_drop l dC dI am M i q hi hqM hI) (cwV 2 hts gL_law_X6_drop rfl rfl rfl hdX6_drop_2 ⟨Nat.le_of_ble_eq_true rfl, Nat.le_of_ble_eq_true rfl⟩) (hS.preM F.K) rfl rfl hl.1 rfl (lv_room (Nat.le_of_ble_eq_true rfl)) dL_law_416 ⟨le_rc (by omega), le_rs (by omega)⟩) F.K hS (fun r8 M1 H locs hko hv hS => ?_)
    have hLM : LM M M1 := by rw [hv.2]; exact LM_row0 hI (rowM_rem (hI.1 i hi) hqM)
    obtain ⟨hT, he9, ht9⟩ := A_drop T.1 T.2 hi hq hw hv
    refine lv_istore (lv' := [(6, .int r8), (5, .int (nI 0)), (0, .ref b), (1, .ref (ad 57)), (2, .ref (am 0)), (3, .ref o), (4, .int (nI iL))]) hx hb dL_law_419 hl (by decide) rfl (fun ls hl => ?_)
    refine lv_goto (tgt := 2052) hx hb dL_law_421 (by decide) ?_
    exact W.widen (k := 100 + 224 * (n + 1)) (n := 1200 + 10680 * (n + 1)) (by omega) (by omega) (kk9 S1 M1 _ _ _ (hI9.next hLQ hLM hT) hS (lv_sub hl [2, 3, 4, 5, 6] rfl))
set_option maxHeartbeats 4000000 in
set_option maxRecDepth 100000 in
theorem lc_4 {p : Program} {l : Launch} {e : Env} {s : State} {m : MethodId} {below : List Frame} {meth : Method} {c : Code} {b L : Nat} {xs : Nat → Int32} {dC : Nat → ClassId} {dI : Nat → Nat → Nat} {cB : ClassId} {ad am : Nat → Nat} {o n iL : Nat} {Q : State → Prop} (F : LF p l s m c b L xs dC dI cB ad am o) (hni : iL = 5 * n) (hiL : iL + 5 ≤ L) : LCase p l e s m below meth c b dC dI ad am o n iL Q 424 := by
  intro S M H locs hI9 hS kk9 ls hl
  have hx := F.x
  have hb := F.b
  have hml := F.ml
  have hown := F.own
  have hts := F.ts
  have hL := F.hL
  have hn9 : n ≤ 511 := by omega
  refine lv_aload_n hx hb dL_law_424 rfl (lv_at hl 1 rfl) ?_
  refine lv_aload_n hx hb dL_law_425 rfl (lv_at hl 0 rfl) ?_
  refine lv_iload hx hb dL_law_426 (lv_at hl 4 rfl) ?_
  refine lv_iconst (v := nI 1) hx hb dL_law_428 (by decide) ?_
  refine kn_iadd hx hb dL_law_429 ?_
  refine va_sld hx hb F.sc F.bl (fun z => Nat.not_le.mpr F.bl z) hS.st (vp_in_nI (show iL + 1 < L by omega) (by omega)) dL_law_430 ?_
  obtain ⟨x1, hx1⟩ : ∃ z, z = xs (nI (iL + 1)).toNatClampNeg := ⟨_, rfl⟩
  rw [← hx1]
  refine lv_aload_n hx hb dL_law_431 rfl (lv_at hl 3 rfl) ?_
  refine ll_w (vx_runSW (As := [.ref (ad 57), .int x1, .ref o]) (rest := []) ⟨hx, hb, hml, hown, hts⟩ (m_L_clear l F.st dC dI cB ad o S x1 hI9.x hI9.x5 (by have := hI9.xp; omega)) (vx_cwSW 3 hts gL_law_L_clear rfl rfl rfl hdL_clear_3.2 ⟨Nat.le_of_ble_eq_true rfl, Nat.le_of_ble_eq_true rfl⟩) (hS.preW F.K) rfl rfl hl.1 rfl (lv_room (Nat.le_of_ble_eq_true rfl)) dL_law_432 ⟨le_rc (by omega), le_rs (by omega)⟩) F.K hS (fun r0 S1 n1 H locs hq9 hN hS => ?_)
  have hLQ : LQ S S1 := hq9.1
  have hR : R_clear x1 S r0 S1 n1 := hq9.2
  clear hq9
  rcases hR with ⟨hb9, rfl, rfl⟩ | ⟨i, r7, hi, rfl, rfl, rfl, hw⟩
  · skip
    refine lv_istore (lv' := [(5, .int (nI 1)), (0, .ref b), (1, .ref (ad 57)), (2, .ref (am 0)), (3, .ref o), (4, .int (nI iL))]) hx hb dL_law_435 hl (by decide) rfl (fun ls hl => ?_)
    refine lv_aload_n hx hb dL_law_437 rfl (lv_at hl 3 rfl) ?_
    refine lv_aload_n hx hb dL_law_438 rfl (lv_at hl 1 rfl) ?_
    refine lv_iload hx hb dL_law_439 (lv_at hl 5 rfl) ?_
    refine lv_iconst (v := nI 1) hx hb dL_law_441 (by decide) ?_
    refine kn_iadd hx hb dL_law_442 ?_
    refine va_sld hx hb F.sc F.bl (fun z => Nat.not_le.mpr F.bl z) hS.st (vp_in_nI (show iL + 1 < L by omega) (by omega)) dL_law_443 ?_
    rw [← hx1]
    have hI := hI9.m
    have T := hI9.T
    have hc : M.2.2.2.1 + 12 < 1000000 := by have := hI9.mp; omega
    refine ll_m (va_runV (As := [.int x1]) (rest := []) ⟨hx, hb, hml, hown, hts⟩ (o_X6_clear_1 l dC dI am M x1 hb9 hI) (cwV 1 hts gL_law_X6_clear rfl rfl rfl hdX6_clear_1 ⟨Nat.le_of_ble_eq_true rfl, Nat.le_of_ble_eq_true rfl⟩) (hS.preM F.K) rfl rfl hl.1 rfl (lv_room (Nat.le_of_ble_eq_true rfl)) dL_law_444 ⟨le_rc (by omega), le_rs (by omega)⟩) F.K hS (fun r8 M1 H locs hko hv hS => ?_)
    have hLM : LM M M1 := by rw [hv]; exact LM_th hI _
    have hT : Tie2 S M1 := by rw [hv]; exact T.th _
    refine lv_istore (lv' := [(6, .int r8), (5, .int (nI 1)), (0, .ref b), (1, .ref (ad 57)), (2, .ref (am 0)), (3, .ref o), (4, .int (nI iL))]) hx hb dL_law_447 hl (by decide) rfl (fun ls hl => ?_)
    refine lv_goto (tgt := 2052) hx hb dL_law_449 (by decide) ?_
    exact W.widen (k := 100 + 224 * (n + 1)) (n := 1200 + 10680 * (n + 1)) (by omega) (by omega) (kk9 S M1 _ _ _ (hI9.next hLQ hLM hT) hS (lv_sub hl [2, 3, 4, 5, 6] rfl))
  · skip
    refine lv_istore (lv' := [(5, .int (nI 0)), (0, .ref b), (1, .ref (ad 57)), (2, .ref (am 0)), (3, .ref o), (4, .int (nI iL))]) hx hb dL_law_435 hl (by decide) rfl (fun ls hl => ?_)
    refine lv_aload_n hx hb dL_law_437 rfl (lv_at hl 3 rfl) ?_
    refine lv_aload_n hx hb dL_law_438 rfl (lv_at hl 1 rfl) ?_
    refine lv_iload hx hb dL_law_439 (lv_at hl 5 rfl) ?_
    refine lv_iconst (v := nI 1) hx hb dL_law_441 (by decide) ?_
    refine kn_iadd hx hb dL_law_442 ?_
    refine va_sld hx hb F.sc F.bl (fun z => Nat.not_le.mpr F.bl z) hS.st (vp_in_nI (show iL + 1 < L by omega) (by omega)) dL_law_443 ?_
    rw [← hx1]
    have hI := hI9.m
    have T := hI9.T
    have hc : M.2.2.2.1 + 12 < 1000000 := by have := hI9.mp; omega
    have hn := (hI.1 i hi).1
    refine ll_m (va_runV (As := [.int (nI i)]) (rest := []) ⟨hx, hb, hml, hown, hts⟩ (m_X6_clear l dC dI am M i hi hI) (cwV 1 hts gL_law_X6_clear rfl rfl rfl hdX6_clear_1 ⟨Nat.le_of_ble_eq_true rfl, Nat.le_of_ble_eq_true rfl⟩) (hS.preM F.K) rfl rfl hl.1 rfl (lv_room (Nat.le_of_ble_eq_true rfl)) dL_law_444 ⟨le_rc (by omega), le_rs (by omega)⟩) F.K hS (fun r8 M1 H locs hko hv hS => ?_)
    have hLM : LM M M1 := by rw [hv.2]; exact LM_row0 hI (rowM_0 (hI.1 i hi))
    obtain ⟨hT, he9, ht9⟩ := (A_clear T.1 hi hw hv).two (E_clear T.2 hw hv)
    refine lv_istore (lv' := [(6, .int r8), (5, .int (nI 0)), (0, .ref b), (1, .ref (ad 57)), (2, .ref (am 0)), (3, .ref o), (4, .int (nI iL))]) hx hb dL_law_447 hl (by decide) rfl (fun ls hl => ?_)
    refine lv_goto (tgt := 2052) hx hb dL_law_449 (by decide) ?_
    exact W.widen (k := 100 + 224 * (n + 1)) (n := 1200 + 10680 * (n + 1)) (by omega) (by omega) (kk9 S1 M1 _ _ _ (hI9.next hLQ hLM hT) hS (lv_sub hl [2, 3, 4, 5, 6] rfl))
set_option maxHeartbeats 4000000 in
set_option maxRecDepth 100000 in
theorem lc_5 {p : Program} {l : Launch} {e : Env} {s : State} {m : MethodId} {below : List Frame} {meth : Method} {c : Code} {b L : Nat} {xs : Nat → Int32} {dC : Nat → ClassId} {dI : Nat → Nat → Nat} {cB : ClassId} {ad am : Nat → Nat} {o n iL : Nat} {Q : State → Prop} (F : LF p l s m c b L xs dC dI cB ad am o) (hni : iL = 5 * n) (hiL : iL + 5 ≤ L) : LCase p l e s m below meth c b dC dI ad am o n iL Q 452 := by
  intro S M H locs hI9 hS kk9 ls hl
  have hx := F.x
  have hb := F.b
  have hml := F.ml
  have hown := F.own
  have hts := F.ts
  have hL := F.hL
  have hn9 : n ≤ 511 := by omega
  refine lv_aload_n hx hb dL_law_452 rfl (lv_at hl 1 rfl) ?_
  refine lv_aload_n hx hb dL_law_453 rfl (lv_at hl 0 rfl) ?_
  refine lv_iload hx hb dL_law_454 (lv_at hl 4 rfl) ?_
  refine lv_iconst (v := nI 1) hx hb dL_law_456 (by decide) ?_
  refine kn_iadd hx hb dL_law_457 ?_
  refine va_sld hx hb F.sc F.bl (fun z => Nat.not_le.mpr F.bl z) hS.st (vp_in_nI (show iL + 1 < L by omega) (by omega)) dL_law_458 ?_
  obtain ⟨x1, hx1⟩ : ∃ z, z = xs (nI (iL + 1)).toNatClampNeg := ⟨_, rfl⟩
  rw [← hx1]
  refine lv_aload_n hx hb dL_law_459 rfl (lv_at hl 0 rfl) ?_
  refine lv_iload hx hb dL_law_460 (lv_at hl 4 rfl) ?_
  refine lv_iconst (v := nI 2) hx hb dL_law_462 (by decide) ?_
  refine kn_iadd hx hb dL_law_463 ?_
  refine va_sld hx hb F.sc F.bl (fun z => Nat.not_le.mpr F.bl z) hS.st (vp_in_nI (show iL + 2 < L by omega) (by omega)) dL_law_464 ?_
  obtain ⟨x2, hx2⟩ : ∃ z, z = xs (nI (iL + 2)).toNatClampNeg := ⟨_, rfl⟩
  rw [← hx2]
  refine lv_aload_n hx hb dL_law_465 rfl (lv_at hl 3 rfl) ?_
  refine ll_w (vx_runSW (As := [.ref (ad 57), .int x1, .int x2, .ref o]) (rest := []) ⟨hx, hb, hml, hown, hts⟩ (m_L_copyRow l F.st dC dI cB ad o S x1 x2 hI9.x hI9.x5 (by have := hI9.xp; omega)) (vx_cwSW 4 hts gL_law_L_copyRow rfl rfl rfl hdL_copyRow_4.2 ⟨Nat.le_of_ble_eq_true rfl, Nat.le_of_ble_eq_true rfl⟩) (hS.preW F.K) rfl rfl hl.1 rfl (lv_room (Nat.le_of_ble_eq_true rfl)) dL_law_466 ⟨le_rc (by omega), le_rs (by omega)⟩) F.K hS (fun r0 S1 n1 H locs hq9 hN hS => ?_)
  have hLQ : LQ S S1 := hq9.1
  have hR : R_copyRow x1 x2 S r0 S1 n1 := hq9.2
  clear hq9
  rcases hR with ⟨hb9, rfl, rfl⟩ | ⟨i, hi, rfl, hb9, rfl, rfl⟩ | ⟨i, i2, r7, hi, hi2, rfl, rfl, rfl, rfl, hw⟩
  · skip
    refine lv_istore (lv' := [(5, .int (nI 1)), (0, .ref b), (1, .ref (ad 57)), (2, .ref (am 0)), (3, .ref o), (4, .int (nI iL))]) hx hb dL_law_469 hl (by decide) rfl (fun ls hl => ?_)
    refine lv_aload_n hx hb dL_law_471 rfl (lv_at hl 3 rfl) ?_
    refine lv_aload_n hx hb dL_law_472 rfl (lv_at hl 1 rfl) ?_
    refine lv_iload hx hb dL_law_473 (lv_at hl 5 rfl) ?_
    refine lv_iconst (v := nI 1) hx hb dL_law_475 (by decide) ?_
    refine kn_iadd hx hb dL_law_476 ?_
    refine va_sld hx hb F.sc F.bl (fun z => Nat.not_le.mpr F.bl z) hS.st (vp_in_nI (show iL + 1 < L by omega) (by omega)) dL_law_477 ?_
    rw [← hx1]
    refine lv_aload_n hx hb dL_law_478 rfl (lv_at hl 1 rfl) ?_
    refine lv_iload hx hb dL_law_479 (lv_at hl 5 rfl) ?_
    refine lv_iconst (v := nI 2) hx hb dL_law_481 (by decide) ?_
    refine kn_iadd hx hb dL_law_482 ?_
    refine va_sld hx hb F.sc F.bl (fun z => Nat.not_le.mpr F.bl z) hS.st (vp_in_nI (show iL + 2 < L by omega) (by omega)) dL_law_483 ?_
    rw [← hx2]
    have hI := hI9.m
    have T := hI9.T
    have hc : M.2.2.2.1 + 12 < 1000000 := by have := hI9.mp; omega
    refine ll_m (va_runV (As := [.int x1, .int x2]) (rest := []) ⟨hx, hb, hml, hown, hts⟩ (o_X6_copyRow_1 l dC dI am M x1 x2 hb9 hI) (cwV 2 hts gL_law_X6_copyRow rfl rfl rfl hdX6_copyRow_2 ⟨Nat.le_of_ble_eq_true rfl, Nat.le_of_ble_eq_true rfl⟩) (hS.preM F.K) rfl rfl hl.1 rfl (lv_room (Nat.le_of_ble_eq_true rfl)) dL_law_484 ⟨le_rc (by omega), le_rs (by omega)⟩) F.K hS (fun r8 M1 H locs hko hv hS => ?_)
    have hLM : LM M M1 := by rw [hv]; exact LM_th hI _
    have hT : Tie2 S M1 := by rw [hv]; exact T.th _
    refine lv_istore (lv' := [(6, .int r8), (5, .int (nI 1)), (0, .ref b), (1, .ref (ad 57)), (2, .ref (am 0)), (3, .ref o), (4, .int (nI iL))]) hx hb dL_law_487 hl (by decide) rfl (fun ls hl => ?_)
    refine lv_goto (tgt := 2052) hx hb dL_law_489 (by decide) ?_
    exact W.widen (k := 100 + 224 * (n + 1)) (n := 1200 + 10680 * (n + 1)) (by omega) (by omega) (kk9 S M1 _ _ _ (hI9.next hLQ hLM hT) hS (lv_sub hl [2, 3, 4, 5, 6] rfl))
  · skip
    refine lv_istore (lv' := [(5, .int (nI 1)), (0, .ref b), (1, .ref (ad 57)), (2, .ref (am 0)), (3, .ref o), (4, .int (nI iL))]) hx hb dL_law_469 hl (by decide) rfl (fun ls hl => ?_)
    refine lv_aload_n hx hb dL_law_471 rfl (lv_at hl 3 rfl) ?_
    refine lv_aload_n hx hb dL_law_472 rfl (lv_at hl 1 rfl) ?_
    refine lv_iload hx hb dL_law_473 (lv_at hl 5 rfl) ?_
    refine lv_iconst (v := nI 1) hx hb dL_law_475 (by decide) ?_
    refine kn_iadd hx hb dL_law_476 ?_
    refine va_sld hx hb F.sc F.bl (fun z => Nat.not_le.mpr F.bl z) hS.st (vp_in_nI (show iL + 1 < L by omega) (by omega)) dL_law_477 ?_
    rw [← hx1]
    refine lv_aload_n hx hb dL_law_478 rfl (lv_at hl 1 rfl) ?_
    refine lv_iload hx hb dL_law_479 (lv_at hl 5 rfl) ?_
    refine lv_iconst (v := nI 2) hx hb dL_law_481 (by decide) ?_
    refine kn_iadd hx hb dL_law_482 ?_
    refine va_sld hx hb F.sc F.bl (fun z => Nat.not_le.mpr F.bl z) hS.st (vp_in_nI (show iL + 2 < L by omega) (by omega)) dL_law_483 ?_
    rw [← hx2]
    have hI := hI9.m
    have T := hI9.T
    have hc : M.2.2.2.1 + 12 < 1000000 := by have := hI9.mp; omega
    have hn := (hI.1 i hi).1
    refine ll_m (va_runV (As := [.int (nI i), .int x2]) (rest := []) ⟨hx, hb, hml, hown, hts⟩ (o_X6_copyRow_2 l dC dI am M i x2 hi hb9 hI) (cwV 2 hts gL_law_X6_copyRow rfl rfl rfl hdX6_copyRow_2 ⟨Nat.le_of_ble_eq_true rfl, Nat.le_of_ble_eq_true rfl⟩) (hS.preM F.K) rfl rfl hl.1 rfl (lv_room (Nat.le_of_ble_eq_true rfl)) dL_law_484 ⟨le_rc (by omega), le_rs (by omega)⟩) F.K hS (fun r8 M1 H locs hko hv hS => ?_)
    have hLM : LM M M1 := by rw [hv]; exact LM_th hI _
    have hT : Tie2 S M1 := by rw [hv]; exact T.th _
    refine lv_istore (lv' := [(6, .int r8), (5, .int (nI 1)), (0, .ref b), (1, .ref (ad 57)), (2, .ref (am 0)), (3, .ref o), (4, .int (nI iL))]) hx hb dL_law_487 hl (by decide) rfl (fun ls hl => ?_)
    refine lv_goto (tgt := 2052) hx hb dL_law_489 (by decide) ?_
    exact W.widen (k := 100 + 224 * (n + 1)) (n := 1200 + 10680 * (n + 1)) (by omega) (by omega) (kk9 S M1 _ _ _ (hI9.next hLQ hLM hT) hS (lv_sub hl [2, 3, 4, 5, 6] rfl))
  · skip
    refine lv_istore (lv' := [(5, .int (nI 0)), (0, .ref b), (1, .ref (ad 57)), (2, .ref (am 0)), (3, .ref o), (4, .int (nI iL))]) hx hb dL_law_469 hl (by decide) rfl (fun ls hl => ?_)
    refine lv_aload_n hx hb dL_law_471 rfl (lv_at hl 3 rfl) ?_
    refine lv_aload_n hx hb dL_law_472 rfl (lv_at hl 1 rfl) ?_
    refine lv_iload hx hb dL_law_473 (lv_at hl 5 rfl) ?_
    refine lv_iconst (v := nI 1) hx hb dL_law_475 (by decide) ?_
    refine kn_iadd hx hb dL_law_476 ?_
    refine va_sld hx hb F.sc F.bl (fun z => Nat.not_le.mpr F.bl z) hS.st (vp_in_nI (show iL + 1 < L by omega) (by omega)) dL_law_477 ?_
    rw [← hx1]
    refine lv_aload_n hx hb dL_law_478 rfl (lv_at hl 1 rfl) ?_
    refine lv_iload hx hb dL_law_479 (lv_at hl 5 rfl) ?_
    refine lv_iconst (v := nI 2) hx hb dL_law_481 (by decide) ?_
    refine kn_iadd hx hb dL_law_482 ?_
    refine va_sld hx hb F.sc F.bl (fun z => Nat.not_le.mpr F.bl z) hS.st (vp_in_nI (show iL + 2 < L by omega) (by omega)) dL_law_483 ?_
    rw [← hx2]
    have hI := hI9.m
    have T := hI9.T
    have hc : M.2.2.2.1 + 12 < 1000000 := by have := hI9.mp; omega
    have hn := (hI.1 i hi).1
    refine ll_m (va_runV (As := [.int (nI i), .int (nI i2)]) (rest := []) ⟨hx, hb, hml, hown, hts⟩ (m_X6_copyRow l dC dI am M i i2 hi hi2 hI) (cwV 2 hts gL_law_X6_copyRow rfl rfl rfl hdX6_copyRow_2 ⟨Nat.le_of_ble_eq_true rfl, Nat.le_of_ble_eq_true rfl⟩) (hS.preM F.K) rfl rfl hl.1 rfl (lv_room (Nat.le_of_ble_eq_true rfl)) dL_law_484 ⟨le_rc (by omega), le_rs (by omega)⟩) F.K hS (fun r8 M1 H locs hko hv hS => ?_)
    have hLM : LM M M1 := by rw [hv.2]; exact LM_row0 hI (rowM_ovl (hI.1 i2 hi2) (hI.1 i hi))
    obtain ⟨hT, he9, ht9⟩ := (A_copyRow T.1 hi hw hv).two (E_copyRow T.1 T.2 hi hw hv)
    refine lv_istore (lv' := [(6, .int r8), (5, .int (nI 0)), (0, .ref b), (1, .ref (ad 57)), (2, .ref (am 0)), (3, .ref o), (4, .int (nI iL))]) hx hb dL_law_487 hl (by decide) rfl (fun ls hl => ?_)
    refine lv_goto (tgt := 2052) hx hb dL_law_489 (by decide) ?_
    exact W.widen (k := 100 + 224 * (n + 1)) (n := 1200 + 10680 * (n + 1)) (by omega) (by omega) (kk9 S1 M1 _ _ _ (hI9.next hLQ hLM hT) hS (lv_sub hl [2, 3, 4, 5, 6] rfl))
set_option maxHeartbeats 4000000 in
set_option maxRecDepth 100000 in
theorem lc_6 {p : Program} {l : Launch} {e : Env} {s : State} {m : MethodId} {below : List Frame} {meth : Method} {c : Code} {b L : Nat} {xs : Nat → Int32} {dC : Nat → ClassId} {dI : Nat → Nat → Nat} {cB : ClassId} {ad am : Nat → Nat} {o n iL : Nat} {Q : State → Prop} (F : LF p l s m c b L xs dC dI cB ad am o) (hni : iL = 5 * n) (hiL : iL + 5 ≤ L) : LCase p l e s m below meth c b dC dI ad am o n iL Q 492 := by
  intro S M H locs hI9 hS kk9 ls hl
  have hx := F.x
  have hb := F.b
  have hml := F.ml
  have hown := F.own
  have hts := F.ts
  have hL := F.hL
  have hn9 : n ≤ 511 := by omega
  refine lv_aload_n hx hb dL_law_492 rfl (lv_at hl 1 rfl) ?_
  refine lv_aload_n hx hb dL_law_493 rfl (lv_at hl 0 rfl) ?_
  refine lv_iload hx hb dL_law_494 (lv_at hl 4 rfl) ?_
  refine lv_iconst (v := nI 1) hx hb dL_law_496 (by decide) ?_
  refine kn_iadd hx hb dL_law_497 ?_
  refine va_sld hx hb F.sc F.bl (fun z => Nat.not_le.mpr F.bl z) hS.st (vp_in_nI (show iL + 1 < L by omega) (by omega)) dL_law_498 ?_
  obtain ⟨x1, hx1⟩ : ∃ z, z = xs (nI (iL + 1)).toNatClampNeg := ⟨_, rfl⟩
  rw [← hx1]
  refine lv_aload_n hx hb dL_law_499 rfl (lv_at hl 3 rfl) ?_
  refine ll_w (vx_runSW (As := [.ref (ad 57), .int x1, .ref o]) (rest := []) ⟨hx, hb, hml, hown, hts⟩ (m_L_turnRow l F.st dC dI cB ad o S x1 hI9.x hI9.x5 (by have := hI9.xp; omega)) (vx_cwSW 3 hts gL_law_L_turnRow rfl rfl rfl hdL_turnRow_3.2 ⟨Nat.le_of_ble_eq_true rfl, Nat.le_of_ble_eq_true rfl⟩) (hS.preW F.K) rfl rfl hl.1 rfl (lv_room (Nat.le_of_ble_eq_true rfl)) dL_law_500 ⟨le_rc (by omega), le_rs (by omega)⟩) F.K hS (fun r0 S1 n1 H locs hq9 hN hS => ?_)
  have hLQ : LQ S S1 := hq9.1
  have hR : R_turnRow x1 S r0 S1 n1 := hq9.2
  clear hq9
  rcases hR with ⟨hb9, rfl, rfl⟩ | ⟨i, r7, hi, rfl, rfl, rfl, hw⟩
  · skip
    refine lv_istore (lv' := [(5, .int (nI 1)), (0, .ref b), (1, .ref (ad 57)), (2, .ref (am 0)), (3, .ref o), (4, .int (nI iL))]) hx hb dL_law_503 hl (by decide) rfl (fun ls hl => ?_)
    refine lv_aload_n hx hb dL_law_505 rfl (lv_at hl 3 rfl) ?_
    refine lv_aload_n hx hb dL_law_506 rfl (lv_at hl 1 rfl) ?_
    refine lv_iload hx hb dL_law_507 (lv_at hl 5 rfl) ?_
    refine lv_iconst (v := nI 1) hx hb dL_law_509 (by decide) ?_
    refine kn_iadd hx hb dL_law_510 ?_
    refine va_sld hx hb F.sc F.bl (fun z => Nat.not_le.mpr F.bl z) hS.st (vp_in_nI (show iL + 1 < L by omega) (by omega)) dL_law_511 ?_
    rw [← hx1]
    have hI := hI9.m
    have T := hI9.T
    have hc : M.2.2.2.1 + 12 < 1000000 := by have := hI9.mp; omega
    refine ll_m (va_runV (As := [.int x1]) (rest := []) ⟨hx, hb, hml, hown, hts⟩ (o_X6_turnRow_1 l dC dI am M x1 hb9 hI) (cwV 1 hts gL_law_X6_turnRow rfl rfl rfl hdX6_turnRow_1 ⟨Nat.le_of_ble_eq_true rfl, Nat.le_of_ble_eq_true rfl⟩) (hS.preM F.K) rfl rfl hl.1 rfl (lv_room (Nat.le_of_ble_eq_true rfl)) dL_law_512 ⟨le_rc (by omega), le_rs (by omega)⟩) F.K hS (fun r8 M1 H locs hko hv hS => ?_)
    have hLM : LM M M1 := by rw [hv]; exact LM_th hI _
    have hT : Tie2 S M1 := by rw [hv]; exact T.th _
    refine lv_istore (lv' := [(6, .int r8), (5, .int (nI 1)), (0, .ref b), (1, .ref (ad 57)), (2, .ref (am 0)), (3, .ref o), (4, .int (nI iL))]) hx hb dL_law_515 hl (by decide) rfl (fun ls hl => ?_)
    refine lv_goto (tgt := 2052) hx hb dL_law_517 (by decide) ?_
    exact W.widen (k := 100 + 224 * (n + 1)) (n := 1200 + 10680 * (n + 1)) (by omega) (by omega) (kk9 S M1 _ _ _ (hI9.next hLQ hLM hT) hS (lv_sub hl [2, 3, 4, 5, 6] rfl))
  · skip
    refine lv_istore (lv' := [(5, .int (nI 0)), (0, .ref b), (1, .ref (ad 57)), (2, .ref (am 0)), (3, .ref o), (4, .int (nI iL))]) hx hb dL_law_503 hl (by decide) rfl (fun ls hl => ?_)
    refine lv_aload_n hx hb dL_law_505 rfl (lv_at hl 3 rfl) ?_
    refine lv_aload_n hx hb dL_law_506 rfl (lv_at hl 1 rfl) ?_
    refine lv_iload hx hb dL_law_507 (lv_at hl 5 rfl) ?_
    refine lv_iconst (v := nI 1) hx hb dL_law_509 (by decide) ?_
    refine kn_iadd hx hb dL_law_510 ?_
    refine va_sld hx hb F.sc F.bl (fun z => Nat.not_le.mpr F.bl z) hS.st (vp_in_nI (show iL + 1 < L by omega) (by omega)) dL_law_511 ?_
    rw [← hx1]
    have hI := hI9.m
    have T := hI9.T
    have hc : M.2.2.2.1 + 12 < 1000000 := by have := hI9.mp; omega
    have hn := (hI.1 i hi).1
    refine ll_m (va_runV (As := [.int (nI i)]) (rest := []) ⟨hx, hb, hml, hown, hts⟩ (m_X6_turnRow l dC dI am M i hi hI) (cwV 1 hts gL_law_X6_turnRow rfl rfl rfl hdX6_turnRow_1 ⟨Nat.le_of_ble_eq_true rfl, Nat.le_of_ble_eq_true rfl⟩) (hS.preM F.K) rfl rfl hl.1 rfl (lv_room (Nat.le_of_ble_eq_true rfl)) dL_law_512 ⟨le_rc (by omega), le_rs (by omega)⟩) F.K hS (fun r8 M1 H locs hko hv hS => ?_)
    have hLM : LM M M1 := by rw [hv.2]; exact LM_row0 hI (rowM_rev (hI.1 i hi))
    obtain ⟨hT, he9, ht9⟩ := (A_turnRow T.1 hi hw hv).two (E_turnRow T.1 T.2 hi hw hv)
    refine lv_istore (lv' := [(6, .int r8), (5, .int (nI 0)), (0, .ref b), (1, .ref (ad 57)), (2, .ref (am 0)), (3, .ref o), (4, .int (nI iL))]) hx hb dL_law_515 hl (by decide) rfl (fun ls hl => ?_)
    refine lv_goto (tgt := 2052) hx hb dL_law_517 (by decide) ?_
    exact W.widen (k := 100 + 224 * (n + 1)) (n := 1200 + 10680 * (n + 1)) (by omega) (by omega) (kk9 S1 M1 _ _ _ (hI9.next hLQ hLM hT) hS (lv_sub hl [2, 3, 4, 5, 6] rfl))
set_option maxHeartbeats 4000000 in
set_option maxRecDepth 100000 in
theorem lc_7 {p : Program} {l : Launch} {e : Env} {s : State} {m : MethodId} {below : List Frame} {meth : Method} {c : Code} {b L : Nat} {xs : Nat → Int32} {dC : Nat → ClassId} {dI : Nat → Nat → Nat} {cB : ClassId} {ad am : Nat → Nat} {o n iL : Nat} {Q : State → Prop} (F : LF p l s m c b L xs dC dI cB ad am o) (hni : iL = 5 * n) (hiL : iL + 5 ≤ L) : LCase p l e s m below meth c b dC dI ad am o n iL Q 520 := by
  intro S M H locs hI9 hS kk9 ls hl
  have hx := F.x
  have hb := F.b
  have hml := F.ml
  have hown := F.own
  have hts := F.ts
  have hL := F.hL
  have hn9 : n ≤ 511 := by omega
  refine lv_aload_n hx hb dL_law_520 rfl (lv_at hl 1 rfl) ?_
  refine lv_aload_n hx hb dL_law_521 rfl (lv_at hl 0 rfl) ?_
  refine lv_iload hx hb dL_law_522 (lv_at hl 4 rfl) ?_
  refine lv_iconst (v := nI 1) hx hb dL_law_524 (by decide) ?_
  refine kn_iadd hx hb dL_law_525 ?_
  refine va_sld hx hb F.sc F.bl (fun z => Nat.not_le.mpr F.bl z) hS.st (vp_in_nI (show iL + 1 < L by omega) (by omega)) dL_law_526 ?_
  obtain ⟨x1, hx1⟩ : ∃ z, z = xs (nI (iL + 1)).toNatClampNeg := ⟨_, rfl⟩
  rw [← hx1]
  refine lv_aload_n hx hb dL_law_527 rfl (lv_at hl 0 rfl) ?_
  refine lv_iload hx hb dL_law_528 (lv_at hl 4 rfl) ?_
  refine lv_iconst (v := nI 2) hx hb dL_law_530 (by decide) ?_
  refine kn_iadd hx hb dL_law_531 ?_
  refine va_sld hx hb F.sc F.bl (fun z => Nat.not_le.mpr F.bl z) hS.st (vp_in_nI (show iL + 2 < L by omega) (by omega)) dL_law_532 ?_
  obtain ⟨x2, hx2⟩ : ∃ z, z = xs (nI (iL + 2)).toNatClampNeg := ⟨_, rfl⟩
  rw [← hx2]
  refine lv_aload_n hx hb dL_law_533 rfl (lv_at hl 3 rfl) ?_
  refine ll_w (vx_runSW (As := [.ref (ad 57), .int x1, .int x2, .ref o]) (rest := []) ⟨hx, hb, hml, hown, hts⟩ (m_L_wheel l F.st dC dI cB ad o S x1 x2 hI9.x hI9.x5 (by have := hI9.xp; omega)) (vx_cwSW 4 hts gL_law_L_wheel rfl rfl rfl hdL_wheel_4.2 ⟨Nat.le_of_ble_eq_true rfl, Nat.le_of_ble_eq_true rfl⟩) (hS.preW F.K) rfl rfl hl.1 rfl (lv_room (Nat.le_of_ble_eq_true rfl)) dL_law_534 ⟨le_rc (by omega), le_rs (by omega)⟩) F.K hS (fun r0 S1 n1 H locs hq9 hN hS => ?_)
  have hLQ : LQ S S1 := hq9.1
  have hR : R_wheel x1 x2 S r0 S1 n1 := hq9.2
  clear hq9
  rcases hR with ⟨hb9, rfl, rfl⟩ | ⟨i, r7, hi, rfl, rfl, rfl, hw⟩
  · skip
    refine lv_istore (lv' := [(5, .int (nI 1)), (0, .ref b), (1, .ref (ad 57)), (2, .ref (am 0)), (3, .ref o), (4, .int (nI iL))]) hx hb dL_law_537 hl (by decide) rfl (fun ls hl => ?_)
    refine lv_aload_n hx hb dL_law_539 rfl (lv_at hl 3 rfl) ?_
    refine lv_aload_n hx hb dL_law_540 rfl (lv_at hl 1 rfl) ?_
    refine lv_iload hx hb dL_law_541 (lv_at hl 5 rfl) ?_
    refine lv_iconst (v := nI 1) hx hb dL_law_543 (by decide) ?_
    refine kn_iadd hx hb dL_law_544 ?_
    refine va_sld hx hb F.sc F.bl (fun z => Nat.not_le.mpr F.bl z) hS.st (vp_in_nI (show iL + 1 < L by omega) (by omega)) dL_law_545 ?_
    rw [← hx1]
    refine lv_aload_n hx hb dL_law_546 rfl (lv_at hl 1 rfl) ?_
    refine lv_iload hx hb dL_law_547 (lv_at hl 5 rfl) ?_
    refine lv_iconst (v := nI 2) hx hb dL_law_549 (by decide) ?_
    refine kn_iadd hx hb dL_law_550 ?_
    refine va_sld hx hb F.sc F.bl (fun z => Nat.not_le.mpr F.bl z) hS.st (vp_in_nI (show iL + 2 < L by omega) (by omega)) dL_law_551 ?_
    rw [← hx2]
    have hI := hI9.m
    have T := hI9.T
    have hc : M.2.2.2.1 + 12 < 1000000 := by have := hI9.mp; omega
    refine ll_m (va_runV (As := [.int x1, .int x2]) (rest := []) ⟨hx, hb, hml, hown, hts⟩ (o_X6_wheel_1 l dC dI am M x1 x2 hb9 hI) (cwV 2 hts gL_law_X6_wheel rfl rfl rfl hdX6_wheel_2 ⟨Nat.le_of_ble_eq_true rfl, Nat.le_of_ble_eq_true rfl⟩) (hS.preM F.K) rfl rfl hl.1 rfl (lv_room (Nat.le_of_ble_eq_true rfl)) dL_law_552 ⟨le_rc (by omega), le_rs (by omega)⟩) F.K hS (fun r8 M1 H locs hko hv hS => ?_)
    have hLM : LM M M1 := by rw [hv]; exact LM_th hI _
    have hT : Tie2 S M1 := by rw [hv]; exact T.th _
    refine lv_istore (lv' := [(6, .int r8), (5, .int (nI 1)), (0, .ref b), (1, .ref (ad 57)), (2, .ref (am 0)), (3, .ref o), (4, .int (nI iL))]) hx hb dL_law_555 hl (by decide) rfl (fun ls hl => ?_)
    refine lv_goto (tgt := 2052) hx hb dL_law_557 (by decide) ?_
    exact W.widen (k := 100 + 224 * (n + 1)) (n := 1200 + 10680 * (n + 1)) (by omega) (by omega) (kk9 S M1 _ _ _ (hI9.next hLQ hLM hT) hS (lv_sub hl [2, 3, 4, 5, 6] rfl))
  · skip
    refine lv_istore (lv' := [(5, .int (nI 0)), (0, .ref b), (1, .ref (ad 57)), (2, .ref (am 0)), (3, .ref o), (4, .int (nI iL))]) hx hb dL_law_537 hl (by decide) rfl (fun ls hl => ?_)
    refine lv_aload_n hx hb dL_law_539 rfl (lv_at hl 3 rfl) ?_
    refine lv_aload_n hx hb dL_law_540 rfl (lv_at hl 1 rfl) ?_
    refine lv_iload hx hb dL_law_541 (lv_at hl 5 rfl) ?_
    refine lv_iconst (v := nI 1) hx hb dL_law_543 (by decide) ?_
    refine kn_iadd hx hb dL_law_544 ?_
    refine va_sld hx hb F.sc F.bl (fun z => Nat.not_le.mpr F.bl z) hS.st (vp_in_nI (show iL + 1 < L by omega) (by omega)) dL_law_545 ?_
    rw [← hx1]
    refine lv_aload_n hx hb dL_law_546 rfl (lv_at hl 1 rfl) ?_
    refine lv_iload hx hb dL_law_547 (lv_at hl 5 rfl) ?_
    refine lv_iconst (v := nI 2) hx hb dL_law_549 (by decide) ?_
    refine kn_iadd hx hb dL_law_550 ?_
    refine va_sld hx hb F.sc F.bl (fun z => Nat.not_le.mpr F.bl z) hS.st (vp_in_nI (show iL + 2 < L by omega) (by omega)) dL_law_551 ?_
    rw [← hx2]
    have hI := hI9.m
    have T := hI9.T
    have hc : M.2.2.2.1 + 12 < 1000000 := by have := hI9.mp; omega
    have hn := (hI.1 i hi).1
    refine ll_m (va_runV (As := [.int (nI i), .int x2]) (rest := []) ⟨hx, hb, hml, hown, hts⟩ (m_X6_wheel l dC dI am M i x2 hi hI) (cwV 2 hts gL_law_X6_wheel rfl rfl rfl hdX6_wheel_2 ⟨Nat.le_of_ble_eq_true rfl, Nat.le_of_ble_eq_true rfl⟩) (hS.preM F.K) rfl rfl hl.1 rfl (lv_room (Nat.le_of_ble_eq_true rfl)) dL_law_552 ⟨le_rc (by omega), le_rs (by omega)⟩) F.K hS (fun r8 M1 H locs hko hv hS => ?_)
    have hLM : LM M M1 := hv.elim (fun h => by rw [h.2.2]; exact LM_th hI 0) (fun h => by obtain ⟨h0, sh, -, -, -, h1⟩ := h; rw [h1]; exact LM_row0 hI (rowM_of (hI.1 i hi).1 (rotI_lt (hI.1 i hi).1 h0 (fun k hk => ((hI.1 i hi).2 k hk).1) sh) (rotI_lt (hI.1 i hi).1 h0 (fun k hk => ((hI.1 i hi).2 k hk).2) sh)))
    obtain ⟨hT, he9, ht9⟩ := A_wheel T.1 T.2 hi (hI.1 i hi).1 hw hv
    refine lv_istore (lv' := [(6, .int r8), (5, .int (nI 0)), (0, .ref b), (1, .ref (ad 57)), (2, .ref (am 0)), (3, .ref o), (4, .int (nI iL))]) hx hb dL_law_555 hl (by decide) rfl (fun ls hl => ?_)
    refine lv_goto (tgt := 2052) hx hb dL_law_557 (by decide) ?_
    exact W.widen (k := 100 + 224 * (n + 1)) (n := 1200 + 10680 * (n + 1)) (by omega) (by omega) (kk9 S1 M1 _ _ _ (hI9.next hLQ hLM hT) hS (lv_sub hl [2, 3, 4, 5, 6] rfl))
set_option maxHeartbeats 4000000 in
set_option maxRecDepth 100000 in
theorem lc_8 {p : Program} {l : Launch} {e : Env} {s : State} {m : MethodId} {below : List Frame} {meth : Method} {c : Code} {b L : Nat} {xs : Nat → Int32} {dC : Nat → ClassId} {dI : Nat → Nat → Nat} {cB : ClassId} {ad am : Nat → Nat} {o n iL : Nat} {Q : State → Prop} (F : LF p l s m c b L xs dC dI cB ad am o) (hni : iL = 5 * n) (hiL : iL + 5 ≤ L) : LCase p l e s m below meth c b dC dI ad am o n iL Q 560 := by
  intro S M H locs hI9 hS kk9 ls hl
  have hx := F.x
  have hb := F.b
  have hml := F.ml
  have hown := F.own
  have hts := F.ts
  have hL := F.hL
  have hn9 : n ≤ 511 := by omega
  refine lv_aload_n hx hb dL_law_560 rfl (lv_at hl 1 rfl) ?_
  refine lv_aload_n hx hb dL_law_561 rfl (lv_at hl 0 rfl) ?_
  refine lv_iload hx hb dL_law_562 (lv_at hl 4 rfl) ?_
  refine lv_iconst (v := nI 1) hx hb dL_law_564 (by decide) ?_
  refine kn_iadd hx hb dL_law_565 ?_
  refine va_sld hx hb F.sc F.bl (fun z => Nat.not_le.mpr F.bl z) hS.st (vp_in_nI (show iL + 1 < L by omega) (by omega)) dL_law_566 ?_
  obtain ⟨x1, hx1⟩ : ∃ z, z = xs (nI (iL + 1)).toNatClampNeg := ⟨_, rfl⟩
  rw [← hx1]
  refine lv_aload_n hx hb dL_law_567 rfl (lv_at hl 0 rfl) ?_
  refine lv_iload hx hb dL_law_568 (lv_at hl 4 rfl) ?_
  refine lv_iconst (v := nI 2) hx hb dL_law_570 (by decide) ?_
  refine kn_iadd hx hb dL_law_571 ?_
  refine va_sld hx hb F.sc F.bl (fun z => Nat.not_le.mpr F.bl z) hS.st (vp_in_nI (show iL + 2 < L by omega) (by omega)) dL_law_572 ?_
  obtain ⟨x2, hx2⟩ : ∃ z, z = xs (nI (iL + 2)).toNatClampNeg := ⟨_, rfl⟩
  rw [← hx2]
  refine lv_aload_n hx hb dL_law_573 rfl (lv_at hl 0 rfl) ?_
  refine lv_iload hx hb dL_law_574 (lv_at hl 4 rfl) ?_
  refine lv_iconst (v := nI 3) hx hb dL_law_576 (by decide) ?_
  refine kn_iadd hx hb dL_law_577 ?_
  refine va_sld hx hb F.sc F.bl (fun z => Nat.not_le.mpr F.bl z) hS.st (vp_in_nI (show iL + 3 < L by omega) (by omega)) dL_law_578 ?_
  obtain ⟨x3, hx3⟩ : ∃ z, z = xs (nI (iL + 3)).toNatClampNeg := ⟨_, rfl⟩
  rw [← hx3]
  refine lv_aload_n hx hb dL_law_579 rfl (lv_at hl 3 rfl) ?_
  refine ll_w (vx_runSW (As := [.ref (ad 57), .int x1, .int x2, .int x3, .ref o]) (rest := []) ⟨hx, hb, hml, hown, hts⟩ (m_L_swap l F.st dC dI cB ad o S x1 x2 x3 hI9.x hI9.x5 (by have := hI9.xp; omega)) (vx_cwSW 5 hts gL_law_L_swap rfl rfl rfl hdL_swap_5.2 ⟨Nat.le_of_ble_eq_true rfl, Nat.le_of_ble_eq_true rfl⟩) (hS.preW F.K) rfl rfl hl.1 rfl (lv_room (Nat.le_of_ble_eq_true rfl)) dL_law_580 ⟨le_rc (by omega), le_rs (by omega)⟩) F.K hS (fun r0 S1 n1 H locs hq9 hN hS => ?_)
  have hLQ : LQ S S1 := hq9.1
  have hR : R_swap x1 x2 x3 S r0 S1 n1 := hq9.2
  clear hq9
  rcases hR with ⟨hb9, rfl, rfl⟩ | ⟨i, hi, rfl, hb9, rfl, rfl⟩ | ⟨i, q, hi, hq, rfl, rfl, hb9, rfl, rfl⟩ | ⟨i, q, q2, r7, hi, hq, hq2, rfl, rfl, rfl, rfl, rfl, hw⟩
  · skip
    refine lv_istore (lv' := [(5, .int (nI 1)), (0, .ref b), (1, .ref (ad 57)), (2, .ref (am 0)), (3, .ref o), (4, .int (nI iL))]) hx hb dL_law_583 hl (by decide) rfl (fun ls hl => ?_)
    refine lv_aload_n hx hb dL_law_585 rfl (lv_at hl 3 rfl) ?_
    refine lv_aload_n hx hb dL_law_586 rfl (lv_at hl 1 rfl) ?_
    refine lv_iload hx hb dL_law_587 (lv_at hl 5 rfl) ?_
    refine lv_iconst (v := nI 1) hx hb dL_law_589 (by decide) ?_
    refine kn_iadd hx hb dL_law_590 ?_
    refine va_sld hx hb F.sc F.bl (fun z => Nat.not_le.mpr F.bl z) hS.st (vp_in_nI (show iL + 1 < L by omega) (by omega)) dL_law_591 ?_
    rw [← hx1]
    refine lv_aload_n hx hb dL_law_592 rfl (lv_at hl 1 rfl) ?_
    refine lv_iload hx hb dL_law_593 (lv_at hl 5 rfl) ?_
    refine lv_iconst (v := nI 2) hx hb dL_law_595 (by decide) ?_
    refine kn_iadd hx hb dL_law_596 ?_
    refine va_sld hx hb F.sc F.bl (fun z => Nat.not_le.mpr F.bl z) hS.st (vp_in_nI (show iL + 2 < L by omega) (by omega)) dL_law_597 ?_
    rw [← hx2]
    refine lv_aload_n hx hb dL_law_598 rfl (lv_at hl 1 rfl) ?_
    refine lv_iload hx hb dL_law_599 (lv_at hl 5 rfl) ?_
    refine lv_iconst (v := nI 3) hx hb dL_law_601 (by decide) ?_
    refine kn_iadd hx hb dL_law_602 ?_
    refine va_sld hx hb F.sc F.bl (fun z => Nat.not_le.mpr F.bl z) hS.st (vp_in_nI (show iL + 3 < L by omega) (by omega)) dL_law_603 ?_
    rw [← hx3]
    have hI := hI9.m
    have T := hI9.T
    have hc : M.2.2.2.1 + 12 < 1000000 := by have := hI9.mp; omega
    refine ll_m (va_runV (As := [.int x1, .int x2, .int x3]) (rest := []) ⟨hx, hb, hml, hown, hts⟩ (o_X6_swap_1 l dC dI am M x1 x2 x3 hb9 hI) (cwV 3 hts gL_law_X6_swap rfl rfl rfl hdX6_swap_3 ⟨Nat.le_of_ble_eq_true rfl, Nat.le_of_ble_eq_true rfl⟩) (hS.preM F.K) rfl rfl hl.1 rfl (lv_room (Nat.le_of_ble_eq_true rfl)) dL_law_604 ⟨le_rc (by omega), le_rs (by omega)⟩) F.K hS (fun r8 M1 H locs hko hv hS => ?_)
    have hLM : LM M M1 := by rw [hv]; exact LM_th hI _
    have hT : Tie2 S M1 := by rw [hv]; exact T.th _
    refine lv_istore (lv' := [(6, .int r8), (5, .int (nI 1)), (0, .ref b), (1, .ref (ad 57)), (2, .ref (am 0)), (3, .ref o), (4, .int (nI iL))]) hx hb dL_law_607 hl (by decide) rfl (fun ls hl => ?_)
    refine lv_goto (tgt := 2052) hx hb dL_law_609 (by decide) ?_
    exact W.widen (k := 100 + 224 * (n + 1)) (n := 1200 + 10680 * (n + 1)) (by omega) (by omega) (kk9 S M1 _ _ _ (hI9.next hLQ hLM hT) hS (lv_sub hl [2, 3, 4, 5, 6] rfl))
  · skip
    refine lv_istore (lv' := [(5, .int (nI 1)), (0, .ref b), (1, .ref (ad 57)), (2, .ref (am 0)), (3, .ref o), (4, .int (nI iL))]) hx hb dL_law_583 hl (by decide) rfl (fun ls hl => ?_)
    refine lv_aload_n hx hb dL_law_585 rfl (lv_at hl 3 rfl) ?_
    refine lv_aload_n hx hb dL_law_586 rfl (lv_at hl 1 rfl) ?_
    refine lv_iload hx hb dL_law_587 (lv_at hl 5 rfl) ?_
    refine lv_iconst (v := nI 1) hx hb dL_law_589 (by decide) ?_
    refine kn_iadd hx hb dL_law_590 ?_
    refine va_sld hx hb F.sc F.bl (fun z => Nat.not_le.mpr F.bl z) hS.st (vp_in_nI (show iL + 1 < L by omega) (by omega)) dL_law_591 ?_
    rw [← hx1]
    refine lv_aload_n hx hb dL_law_592 rfl (lv_at hl 1 rfl) ?_
    refine lv_iload hx hb dL_law_593 (lv_at hl 5 rfl) ?_
    refine lv_iconst (v := nI 2) hx hb dL_law_595 (by decide) ?_
    refine kn_iadd hx hb dL_law_596 ?_
    refine va_sld hx hb F.sc F.bl (fun z => Nat.not_le.mpr F.bl z) hS.st (vp_in_nI (show iL + 2 < L by omega) (by omega)) dL_law_597 ?_
    rw [← hx2]
    refine lv_aload_n hx hb dL_law_598 rfl (lv_at hl 1 rfl) ?_
    refine lv_iload hx hb dL_law_599 (lv_at hl 5 rfl) ?_
    refine lv_iconst (v := nI 3) hx hb dL_law_601 (by decide) ?_
    refine kn_iadd hx hb dL_law_602 ?_
    refine va_sld hx hb F.sc F.bl (fun z => Nat.not_le.mpr F.bl z) hS.st (vp_in_nI (show iL + 3 < L by omega) (by omega)) dL_law_603 ?_
    rw [← hx3]
    have hI := hI9.m
    have T := hI9.T
    have hc : M.2.2.2.1 + 12 < 1000000 := by have := hI9.mp; omega
    have hn := (hI.1 i hi).1
    rw [T.sz hi] at hb9
    refine ll_m (va_runV (As := [.int (nI i), .int x2, .int x3]) (rest := []) ⟨hx, hb, hml, hown, hts⟩ (o_X6_swap_2 l dC dI am M i x2 x3 hi hb9 hI) (cwV 3 hts gL_law_X6_swap rfl rfl rfl hdX6_swap_3 ⟨Nat.le_of_ble_eq_true rfl, Nat.le_of_ble_eq_true rfl⟩) (hS.preM F.K) rfl rfl hl.1 rfl (lv_room (Nat.le_of_ble_eq_true rfl)) dL_law_604 ⟨le_rc (by omega), le_rs (by omega)⟩) F.K hS (fun r8 M1 H locs hko hv hS => ?_)
    have hLM : LM M M1 := by rw [hv]; exact LM_th hI _
    have hT : Tie2 S M1 := by rw [hv]; exact T.th _
    refine lv_istore (lv' := [(6, .int r8), (5, .int (nI 1)), (0, .ref b), (1, .ref (ad 57)), (2, .ref (am 0)), (3, .ref o), (4, .int (nI iL))]) hx hb dL_law_607 hl (by decide) rfl (fun ls hl => ?_)
    refine lv_goto (tgt := 2052) hx hb dL_law_609 (by decide) ?_
    exact W.widen (k := 100 + 224 * (n + 1)) (n := 1200 + 10680 * (n + 1)) (by omega) (by omega) (kk9 S M1 _ _ _ (hI9.next hLQ hLM hT) hS (lv_sub hl [2, 3, 4, 5, 6] rfl))
  · skip
    refine lv_istore (lv' := [(5, .int (nI 1)), (0, .ref b), (1, .ref (ad 57)), (2, .ref (am 0)), (3, .ref o), (4, .int (nI iL))]) hx hb dL_law_583 hl (by decide) rfl (fun ls hl => ?_)
    refine lv_aload_n hx hb dL_law_585 rfl (lv_at hl 3 rfl) ?_
    refine lv_aload_n hx hb dL_law_586 rfl (lv_at hl 1 rfl) ?_
    refine lv_iload hx hb dL_law_587 (lv_at hl 5 rfl) ?_
    refine lv_iconst (v := nI 1) hx hb dL_law_589 (by decide) ?_
    refine kn_iadd hx hb dL_law_590 ?_
    refine va_sld hx hb F.sc F.bl (fun z => Nat.not_le.mpr F.bl z) hS.st (vp_in_nI (show iL + 1 < L by omega) (by omega)) dL_law_591 ?_
    rw [← hx1]
    refine lv_aload_n hx hb dL_law_592 rfl (lv_at hl 1 rfl) ?_
    refine lv_iload hx hb dL_law_593 (lv_at hl 5 rfl) ?_
    refine lv_iconst (v := nI 2) hx hb dL_law_595 (by decide) ?_
    refine kn_iadd hx hb dL_law_596 ?_
    refine va_sld hx hb F.sc F.bl (fun z => Nat.not_le.mpr F.bl z) hS.st (vp_in_nI (show iL + 2 < L by omega) (by omega)) dL_law_597 ?_
    rw [← hx2]
    refine lv_aload_n hx hb dL_law_598 rfl (lv_at hl 1 rfl) ?_
    refine lv_iload hx hb dL_law_599 (lv_at hl 5 rfl) ?_
    refine lv_iconst (v := nI 3) hx hb dL_law_601 (by decide) ?_
    refine kn_iadd hx hb dL_law_602 ?_
    refine va_sld hx hb F.sc F.bl (fun z => Nat.not_le.mpr F.bl z) hS.st (vp_in_nI (show iL + 3 < L by omega) (by omega)) dL_law_603 ?_
    rw [← hx3]
    have hI := hI9.m
    have T := hI9.T
    have hc : M.2.2.2.1 + 12 < 1000000 := by have := hI9.mp; omega
    have hqM : q < (M.1 i).2.2 := by rw [← T.sz hi]; exact hq
    have hn := (hI.1 i hi).1
    rw [T.sz hi] at hb9
    refine ll_m (va_runV (As := [.int (nI i), .int (nI q), .int x3]) (rest := []) ⟨hx, hb, hml, hown, hts⟩ (o_X6_swap_3 l dC dI am M i q x3 hi hqM hb9 hI) (cwV 3 hts gL_law_X6_swap rfl rfl rfl hdX6_swap_3 ⟨Nat.le_of_ble_eq_true rfl, Nat.le_of_ble_eq_true rfl⟩) (hS.preM F.K) rfl rfl hl.1 rfl (lv_room (Nat.le_of_ble_eq_true rfl)) dL_law_604 ⟨le_rc (by omega), le_rs (by omega)⟩) F.K hS (fun r8 M1 H locs hko hv hS => ?_)
    have hLM : LM M M1 := by rw [hv]; exact LM_th hI _
    have hT : Tie2 S M1 := by rw [hv]; exact T.th _
    refine lv_istore (lv' := [(6, .int r8), (5, .int (nI 1)), (0, .ref b), (1, .ref (ad 57)), (2, .ref (am 0)), (3, .ref o), (4, .int (nI iL))]) hx hb dL_law_607 hl (by decide) rfl (fun ls hl => ?_)
    refine lv_goto (tgt := 2052) hx hb dL_law_609 (by decide) ?_
    exact W.widen (k := 100 + 224 * (n + 1)) (n := 1200 + 10680 * (n + 1)) (by omega) (by omega) (kk9 S M1 _ _ _ (hI9.next hLQ hLM hT) hS (lv_sub hl [2, 3, 4, 5, 6] rfl))
  · skip
    refine lv_istore (lv' := [(5, .int (nI 0)), (0, .ref b), (1, .ref (ad 57)), (2, .ref (am 0)), (3, .ref o), (4, .int (nI iL))]) hx hb dL_law_583 hl (by decide) rfl (fun ls hl => ?_)
    refine lv_aload_n hx hb dL_law_585 rfl (lv_at hl 3 rfl) ?_
    refine lv_aload_n hx hb dL_law_586 rfl (lv_at hl 1 rfl) ?_
    refine lv_iload hx hb dL_law_587 (lv_at hl 5 rfl) ?_
    refine lv_iconst (v := nI 1) hx hb dL_law_589 (by decide) ?_
    refine kn_iadd hx hb dL_law_590 ?_
    refine va_sld hx hb F.sc F.bl (fun z => Nat.not_le.mpr F.bl z) hS.st (vp_in_nI (show iL + 1 < L by omega) (by omega)) dL_law_591 ?_
    rw [← hx1]
    refine lv_aload_n hx hb dL_law_592 rfl (lv_at hl 1 rfl) ?_
    refine lv_iload hx hb dL_law_593 (lv_at hl 5 rfl) ?_
    refine lv_iconst (v := nI 2) hx hb dL_law_595 (by decide) ?_
    refine kn_iadd hx hb dL_law_596 ?_
    refine va_sld hx hb F.sc F.bl (fun z => Nat.not_le.mpr F.bl z) hS.st (vp_in_nI (show iL + 2 < L by omega) (by omega)) dL_law_597 ?_
    rw [← hx2]
    refine lv_aload_n hx hb dL_law_598 rfl (lv_at hl 1 rfl) ?_
    refine lv_iload hx hb dL_law_599 (lv_at hl 5 rfl) ?_
    refine lv_iconst (v := nI 3) hx hb dL_law_601 (by decide) ?_
    refine kn_iadd hx hb dL_law_602 ?_
    refine va_sld hx hb F.sc F.bl (fun z => Nat.not_le.mpr F.bl z) hS.st (vp_in_nI (show iL + 3 < L by omega) (by omega)) dL_law_603 ?_
    rw [← hx3]
    have hI := hI9.m
    have T := hI9.T
    have hc : M.2.2.2.1 + 12 < 1000000 := by have := hI9.mp; omega
    have hqM : q < (M.1 i).2.2 := by rw [← T.sz hi]; exact hq
    have hq2M : q2 < (M.1 i).2.2 := by rw [← T.sz hi]; exact hq2
    have hn := (hI.1 i hi).1
    refine ll_m (va_runV (As := [.int (nI i), .int (nI q), .int (nI q2)]) (rest := []) ⟨hx, hb, hml, hown, hts⟩ (m_X6_swap l dC dI am M i q q2 hi hqM hq2M hI) (cwV 3 hts gL_law_X6_swap rfl rfl rfl hdX6_swap_3 ⟨Nat.le_of_ble_eq_true rfl, Nat.le_of_ble_eq_true rfl⟩) (hS.preM F.K) rfl rfl hl.1 rfl (lv_room (Nat.le_of_ble_eq_true rfl)) dL_law_604 ⟨le_rc (by omega), le_rs (by omega)⟩) F.K hS (fun r8 M1 H locs hko hv hS => ?_)
    have hLM : LM M M1 := by rw [hv.2]; exact LM_row0 hI (rowM_xch (hI.1 i hi) (by omega) (by omega))
    obtain ⟨hT, he9, ht9⟩ := A_swap T.1 T.2 hi hq hq2 hw hv
    refine lv_istore (lv' := [(6, .int r8), (5, .int (nI 0)), (0, .ref b), (1, .ref (ad 57)), (2, .ref (am 0)), (3, .ref o), (4, .int (nI iL))]) hx hb dL_law_607 hl (by decide) rfl (fun ls hl => ?_)
    refine lv_goto (tgt := 2052) hx hb dL_law_609 (by decide) ?_
    exact W.widen (k := 100 + 224 * (n + 1)) (n := 1200 + 10680 * (n + 1)) (by omega) (by omega) (kk9 S1 M1 _ _ _ (hI9.next hLQ hLM hT) hS (lv_sub hl [2, 3, 4, 5, 6] rfl))
set_option maxHeartbeats 4000000 in
set_option maxRecDepth 100000 in
theorem lc_9 {p : Program} {l : Launch} {e : Env} {s : State} {m : MethodId} {below : List Frame} {meth : Method} {c : Code} {b L : Nat} {xs : Nat → Int32} {dC : Nat → ClassId} {dI : Nat → Nat → Nat} {cB : ClassId} {ad am : Nat → Nat} {o n iL : Nat} {Q : State → Prop} (F : LF p l s m c b L xs dC dI cB ad am o) (hni : iL = 5 * n) (hiL : iL + 5 ≤ L) : LCase p l e s m below meth c b dC dI ad am o n iL Q 612 := by
  intro S M H locs hI9 hS kk9 ls hl
  have hx := F.x
  have hb := F.b
  have hml := F.ml
  have hown := F.own
  have hts := F.ts
  have hL := F.hL
  have hn9 : n ≤ 511 := by omega
  refine lv_aload_n hx hb dL_law_612 rfl (lv_at hl 1 rfl) ?_
  refine lv_aload_n hx hb dL_law_613 rfl (lv_at hl 0 rfl) ?_
  refine lv_iload hx hb dL_law_614 (lv_at hl 4 rfl) ?_
  refine lv_iconst (v := nI 1) hx hb dL_law_616 (by decide) ?_
  refine kn_iadd hx hb dL_law_617 ?_
  refine va_sld hx hb F.sc F.bl (fun z => Nat.not_le.mpr F.bl z) hS.st (vp_in_nI (show iL + 1 < L by omega) (by omega)) dL_law_618 ?_
  obtain ⟨x1, hx1⟩ : ∃ z, z = xs (nI (iL + 1)).toNatClampNeg := ⟨_, rfl⟩
  rw [← hx1]
  refine lv_aload_n hx hb dL_law_619 rfl (lv_at hl 0 rfl) ?_
  refine lv_iload hx hb dL_law_620 (lv_at hl 4 rfl) ?_
  refine lv_iconst (v := nI 2) hx hb dL_law_622 (by decide) ?_
  refine kn_iadd hx hb dL_law_623 ?_
  refine va_sld hx hb F.sc F.bl (fun z => Nat.not_le.mpr F.bl z) hS.st (vp_in_nI (show iL + 2 < L by omega) (by omega)) dL_law_624 ?_
  obtain ⟨x2, hx2⟩ : ∃ z, z = xs (nI (iL + 2)).toNatClampNeg := ⟨_, rfl⟩
  rw [← hx2]
  refine lv_aload_n hx hb dL_law_625 rfl (lv_at hl 0 rfl) ?_
  refine lv_iload hx hb dL_law_626 (lv_at hl 4 rfl) ?_
  refine lv_iconst (v := nI 3) hx hb dL_law_628 (by decide) ?_
  refine kn_iadd hx hb dL_law_629 ?_
  refine va_sld hx hb F.sc F.bl (fun z => Nat.not_le.mpr F.bl z) hS.st (vp_in_nI (show iL + 3 < L by omega) (by omega)) dL_law_630 ?_
  obtain ⟨x3, hx3⟩ : ∃ z, z = xs (nI (iL + 3)).toNatClampNeg := ⟨_, rfl⟩
  rw [← hx3]
  refine lv_aload_n hx hb dL_law_631 rfl (lv_at hl 3 rfl) ?_
  refine ll_w (vx_runSW (As := [.ref (ad 57), .int x1, .int x2, .int x3, .ref o]) (rest := []) ⟨hx, hb, hml, hown, hts⟩ (m_L_sort l F.st dC dI cB ad o S x1 x2 x3 hI9.x hI9.x5 (by have := hI9.xp; omega)) (vx_cwSW 5 hts gL_law_L_sort rfl rfl rfl hdL_sort_5.2 ⟨Nat.le_of_ble_eq_true rfl, Nat.le_of_ble_eq_true rfl⟩) (hS.preW F.K) rfl rfl hl.1 rfl (lv_room (Nat.le_of_ble_eq_true rfl)) dL_law_632 ⟨le_rc (by omega), le_rs (by omega)⟩) F.K hS (fun r0 S1 n1 H locs hq9 hN hS => ?_)
  have hLQ : LQ S S1 := hq9.1
  have hR : R_sort x1 x2 x3 S r0 S1 n1 := hq9.2
  clear hq9
  rcases hR with ⟨hb9, rfl, rfl⟩ | ⟨i, hi, rfl, hb9, rfl, rfl⟩ | ⟨i, j, hi, hj, rfl, rfl, hb9, rfl, rfl⟩ | ⟨i, j, k, r7, hi, hj, hk, rfl, rfl, rfl, rfl, rfl, hw⟩
  · skip
    refine lv_istore (lv' := [(5, .int (nI 1)), (0, .ref b), (1, .ref (ad 57)), (2, .ref (am 0)), (3, .ref o), (4, .int (nI iL))]) hx hb dL_law_635 hl (by decide) rfl (fun ls hl => ?_)
    refine lv_aload_n hx hb dL_law_637 rfl (lv_at hl 3 rfl) ?_
    refine lv_aload_n hx hb dL_law_638 rfl (lv_at hl 1 rfl) ?_
    refine lv_iload hx hb dL_law_639 (lv_at hl 5 rfl) ?_
    refine lv_iconst (v := nI 1) hx hb dL_law_641 (by decide) ?_
    refine kn_iadd hx hb dL_law_642 ?_
    refine va_sld hx hb F.sc F.bl (fun z => Nat.not_le.mpr F.bl z) hS.st (vp_in_nI (show iL + 1 < L by omega) (by omega)) dL_law_643 ?_
    rw [← hx1]
    refine lv_aload_n hx hb dL_law_644 rfl (lv_at hl 1 rfl) ?_
    refine lv_iload hx hb dL_law_645 (lv_at hl 5 rfl) ?_
    refine lv_iconst (v := nI 2) hx hb dL_law_647 (by decide) ?_
    refine kn_iadd hx hb dL_law_648 ?_
    refine va_sld hx hb F.sc F.bl (fun z => Nat.not_le.mpr F.bl z) hS.st (vp_in_nI (show iL + 2 < L by omega) (by omega)) dL_law_649 ?_
    rw [← hx2]
    refine lv_aload_n hx hb dL_law_650 rfl (lv_at hl 1 rfl) ?_
    refine lv_iload hx hb dL_law_651 (lv_at hl 5 rfl) ?_
    refine lv_iconst (v := nI 3) hx hb dL_law_653 (by decide) ?_
    refine kn_iadd hx hb dL_law_654 ?_
    refine va_sld hx hb F.sc F.bl (fun z => Nat.not_le.mpr F.bl z) hS.st (vp_in_nI (show iL + 3 < L by omega) (by omega)) dL_law_655 ?_
    rw [← hx3]
    have hI := hI9.m
    have T := hI9.T
    have hc : M.2.2.2.1 + 12 < 1000000 := by have := hI9.mp; omega
    refine ll_m (va_runV (As := [.int x1, .int x2, .int x3]) (rest := []) ⟨hx, hb, hml, hown, hts⟩ (o_X6_sort_1 l dC dI am M x1 x2 x3 hb9 hI) (cwV 3 hts gL_law_X6_sort rfl rfl rfl hdX6_sort_3 ⟨Nat.le_of_ble_eq_true rfl, Nat.le_of_ble_eq_true rfl⟩) (hS.preM F.K) rfl rfl hl.1 rfl (lv_room (Nat.le_of_ble_eq_true rfl)) dL_law_656 ⟨le_rc (by omega), le_rs (by omega)⟩) F.K hS (fun r8 M1 H locs hko hv hS => ?_)
    have hLM : LM M M1 := by rw [hv]; exact LM_th hI _
    have hT : Tie2 S M1 := by rw [hv]; exact T.th _
    refine lv_istore (lv' := [(6, .int r8), (5, .int (nI 1)), (0, .ref b), (1, .ref (ad 57)), (2, .ref (am 0)), (3, .ref o), (4, .int (nI iL))]) hx hb dL_law_659 hl (by decide) rfl (fun ls hl => ?_)
    refine lv_goto (tgt := 2052) hx hb dL_law_661 (by decide) ?_
    exact W.widen (k := 100 + 224 * (n + 1)) (n := 1200 + 10680 * (n + 1)) (by omega) (by omega) (kk9 S M1 _ _ _ (hI9.next hLQ hLM hT) hS (lv_sub hl [2, 3, 4, 5, 6] rfl))
  · skip
    refine lv_istore (lv' := [(5, .int (nI 1)), (0, .ref b), (1, .ref (ad 57)), (2, .ref (am 0)), (3, .ref o), (4, .int (nI iL))]) hx hb dL_law_635 hl (by decide) rfl (fun ls hl => ?_)
    refine lv_aload_n hx hb dL_law_637 rfl (lv_at hl 3 rfl) ?_
    refine lv_aload_n hx hb dL_law_638 rfl (lv_at hl 1 rfl) ?_
    refine lv_iload hx hb dL_law_639 (lv_at hl 5 rfl) ?_
    refine lv_iconst (v := nI 1) hx hb dL_law_641 (by decide) ?_
    refine kn_iadd hx hb dL_law_642 ?_
    refine va_sld hx hb F.sc F.bl (fun z => Nat.not_le.mpr F.bl z) hS.st (vp_in_nI (show iL + 1 < L by omega) (by omega)) dL_law_643 ?_
    rw [← hx1]
    refine lv_aload_n hx hb dL_law_644 rfl (lv_at hl 1 rfl) ?_
    refine lv_iload hx hb dL_law_645 (lv_at hl 5 rfl) ?_
    refine lv_iconst (v := nI 2) hx hb dL_law_647 (by decide) ?_
    refine kn_iadd hx hb dL_law_648 ?_
    refine va_sld hx hb F.sc F.bl (fun z => Nat.not_le.mpr F.bl z) hS.st (vp_in_nI (show iL + 2 < L by omega) (by omega)) dL_law_649 ?_
    rw [← hx2]
    refine lv_aload_n hx hb dL_law_650 rfl (lv_at hl 1 rfl) ?_
    refine lv_iload hx hb dL_law_651 (lv_at hl 5 rfl) ?_
    refine lv_iconst (v := nI 3) hx hb dL_law_653 (by decide) ?_
    refine kn_iadd hx hb dL_law_654 ?_
    refine va_sld hx hb F.sc F.bl (fun z => Nat.not_le.mpr F.bl z) hS.st (vp_in_nI (show iL + 3 < L by omega) (by omega)) dL_law_655 ?_
    rw [← hx3]
    have hI := hI9.m
    have T := hI9.T
    have hc : M.2.2.2.1 + 12 < 1000000 := by have := hI9.mp; omega
    have hn := (hI.1 i hi).1
    refine ll_m (va_runV (As := [.int (nI i), .int x2, .int x3]) (rest := []) ⟨hx, hb, hml, hown, hts⟩ (o_X6_sort_2 l dC dI am M i x2 x3 hi hb9 hI) (cwV 3 hts gL_law_X6_sort rfl rfl rfl hdX6_sort_3 ⟨Nat.le_of_ble_eq_true rfl, Nat.le_of_ble_eq_true rfl⟩) (hS.preM F.K) rfl rfl hl.1 rfl (lv_room (Nat.le_of_ble_eq_true rfl)) dL_law_656 ⟨le_rc (by omega), le_rs (by omega)⟩) F.K hS (fun r8 M1 H locs hko hv hS => ?_)
    have hLM : LM M M1 := by rw [hv]; exact LM_th hI _
    have hT : Tie2 S M1 := by rw [hv]; exact T.th _
    refine lv_istore (lv' := [(6, .int r8), (5, .int (nI 1)), (0, .ref b), (1, .ref (ad 57)), (2, .ref (am 0)), (3, .ref o), (4, .int (nI iL))]) hx hb dL_law_659 hl (by decide) rfl (fun ls hl => ?_)
    refine lv_goto (tgt := 2052) hx hb dL_law_661 (by decide) ?_
    exact W.widen (k := 100 + 224 * (n + 1)) (n := 1200 + 10680 * (n + 1)) (by omega) (by omega) (kk9 S M1 _ _ _ (hI9.next hLQ hLM hT) hS (lv_sub hl [2, 3, 4, 5, 6] rfl))
  · skip
    refine lv_istore (lv' := [(5, .int (nI 2)), (0, .ref b), (1, .ref (ad 57)), (2, .ref (am 0)), (3, .ref o), (4, .int (nI iL))]) hx hb dL_law_635 hl (by decide) rfl (fun ls hl => ?_)
    refine lv_aload_n hx hb dL_law_637 rfl (lv_at hl 3 rfl) ?_
    refine lv_aload_n hx hb dL_law_638 rfl (lv_at hl 1 rfl) ?_
    refine lv_iload hx hb dL_law_639 (lv_at hl 5 rfl) ?_
    refine lv_iconst (v := nI 1) hx hb dL_law_641 (by decide) ?_
    refine kn_iadd hx hb dL_law_642 ?_
    refine va_sld hx hb F.sc F.bl (fun z => Nat.not_le.mpr F.bl z) hS.st (vp_in_nI (show iL + 1 < L by omega) (by omega)) dL_law_643 ?_
    rw [← hx1]
    refine lv_aload_n hx hb dL_law_644 rfl (lv_at hl 1 rfl) ?_
    refine lv_iload hx hb dL_law_645 (lv_at hl 5 rfl) ?_
    refine lv_iconst (v := nI 2) hx hb dL_law_647 (by decide) ?_
    refine kn_iadd hx hb dL_law_648 ?_
    refine va_sld hx hb F.sc F.bl (fun z => Nat.not_le.mpr F.bl z) hS.st (vp_in_nI (show iL + 2 < L by omega) (by omega)) dL_law_649 ?_
    rw [← hx2]
    refine lv_aload_n hx hb dL_law_650 rfl (lv_at hl 1 rfl) ?_
    refine lv_iload hx hb dL_law_651 (lv_at hl 5 rfl) ?_
    refine lv_iconst (v := nI 3) hx hb dL_law_653 (by decide) ?_
    refine kn_iadd hx hb dL_law_654 ?_
    refine va_sld hx hb F.sc F.bl (fun z => Nat.not_le.mpr F.bl z) hS.st (vp_in_nI (show iL + 3 < L by omega) (by omega)) dL_law_655 ?_
    rw [← hx3]
    have hI := hI9.m
    have T := hI9.T
    have hc : M.2.2.2.1 + 12 < 1000000 := by have := hI9.mp; omega
    have hn := (hI.1 i hi).1
    refine ll_m (va_runV (As := [.int (nI i), .int (nI j), .int x3]) (rest := []) ⟨hx, hb, hml, hown, hts⟩ (o_X6_sort_3 l dC dI am M i j x3 hi hj hb9 hI) (cwV 3 hts gL_law_X6_sort rfl rfl rfl hdX6_sort_3 ⟨Nat.le_of_ble_eq_true rfl, Nat.le_of_ble_eq_true rfl⟩) (hS.preM F.K) rfl rfl hl.1 rfl (lv_room (Nat.le_of_ble_eq_true rfl)) dL_law_656 ⟨le_rc (by omega), le_rs (by omega)⟩) F.K hS (fun r8 M1 H locs hko hv hS => ?_)
    have hLM : LM M M1 := by rw [hv]; exact LM_th hI _
    have hT : Tie2 S M1 := by rw [hv]; exact T.th _
    refine lv_istore (lv' := [(6, .int r8), (5, .int (nI 2)), (0, .ref b), (1, .ref (ad 57)), (2, .ref (am 0)), (3, .ref o), (4, .int (nI iL))]) hx hb dL_law_659 hl (by decide) rfl (fun ls hl => ?_)
    refine lv_goto (tgt := 2052) hx hb dL_law_661 (by decide) ?_
    exact W.widen (k := 100 + 224 * (n + 1)) (n := 1200 + 10680 * (n + 1)) (by omega) (by omega) (kk9 S M1 _ _ _ (hI9.next hLQ hLM hT) hS (lv_sub hl [2, 3, 4, 5, 6] rfl))
  · skip
    refine lv_istore (lv' := [(5, .int (nI 0)), (0, .ref b), (1, .ref (ad 57)), (2, .ref (am 0)), (3, .ref o), (4, .int (nI iL))]) hx hb dL_law_635 hl (by decide) rfl (fun ls hl => ?_)
    refine lv_aload_n hx hb dL_law_637 rfl (lv_at hl 3 rfl) ?_
    refine lv_aload_n hx hb dL_law_638 rfl (lv_at hl 1 rfl) ?_
    refine lv_iload hx hb dL_law_639 (lv_at hl 5 rfl) ?_
    refine lv_iconst (v := nI 1) hx hb dL_law_641 (by decide) ?_
    refine kn_iadd hx hb dL_law_642 ?_
    refine va_sld hx hb F.sc F.bl (fun z => Nat.not_le.mpr F.bl z) hS.st (vp_in_nI (show iL + 1 < L by omega) (by omega)) dL_law_643 ?_
    rw [← hx1]
    refine lv_aload_n hx hb dL_law_644 rfl (lv_at hl 1 rfl) ?_
    refine lv_iload hx hb dL_law_645 (lv_at hl 5 rfl) ?_
    refine lv_iconst (v := nI 2) hx hb dL_law_647 (by decide) ?_
    refine kn_iadd hx hb dL_law_648 ?_
    refine va_sld hx hb F.sc F.bl (fun z => Nat.not_le.mpr F.bl z) hS.st (vp_in_nI (show iL + 2 < L by omega) (by omega)) dL_law_649 ?_
    rw [← hx2]
    refine lv_aload_n hx hb dL_law_650 rfl (lv_at hl 1 rfl) ?_
    refine lv_iload hx hb dL_law_651 (lv_at hl 5 rfl) ?_
    refine lv_iconst (v := nI 3) hx hb dL_law_653 (by decide) ?_
    refine kn_iadd hx hb dL_law_654 ?_
    refine va_sld hx hb F.sc F.bl (fun z => Nat.not_le.mpr F.bl z) hS.st (vp_in_nI (show iL + 3 < L by omega) (by omega)) dL_law_655 ?_
    rw [← hx3]
    have hI := hI9.m
    have T := hI9.T
    have hc : M.2.2.2.1 + 12 < 1000000 := by have := hI9.mp; omega
    have hn := (hI.1 i hi).1
    refine ll_m (va_runV (As := [.int (nI i), .int (nI j), .int (nI k)]) (rest := []) ⟨hx, hb, hml, hown, hts⟩ (m_X6_sort l dC dI am M i j k hi hj hk hI) (cwV 3 hts gL_law_X6_sort rfl rfl rfl hdX6_sort_3 ⟨Nat.le_of_ble_eq_true rfl, Nat.le_of_ble_eq_true rfl⟩) (hS.preM F.K) rfl rfl hl.1 rfl (lv_room (Nat.le_of_ble_eq_true rfl)) dL_law_656 ⟨le_rc (by omega), le_rs (by omega)⟩) F.K hS (fun r8 M1 H locs hko hv hS => ?_)
    have hLM : LM M M1 := by rw [hv.2]; exact LM_row0 hI (rowM_srt hI hi (Nat.zero_le _) (Nat.le_refl _))
    obtain ⟨hT, he9, ht9⟩ := A_sort0 T.1 T.2 hI9.x hi hj hw hv
    refine lv_istore (lv' := [(6, .int r8), (5, .int (nI 0)), (0, .ref b), (1, .ref (ad 57)), (2, .ref (am 0)), (3, .ref o), (4, .int (nI iL))]) hx hb dL_law_659 hl (by decide) rfl (fun ls hl => ?_)
    refine lv_goto (tgt := 2052) hx hb dL_law_661 (by decide) ?_
    exact W.widen (k := 100 + 224 * (n + 1)) (n := 1200 + 10680 * (n + 1)) (by omega) (by omega) (kk9 S1 M1 _ _ _ (hI9.next hLQ hLM hT) hS (lv_sub hl [2, 3, 4, 5, 6] rfl))
set_option maxHeartbeats 4000000 in
set_option maxRecDepth 100000 in
theorem lc_10 {p : Program} {l : Launch} {e : Env} {s : State} {m : MethodId} {below : List Frame} {meth : Method} {c : Code} {b L : Nat} {xs : Nat → Int32} {dC : Nat → ClassId} {dI : Nat → Nat → Nat} {cB : ClassId} {ad am : Nat → Nat} {o n iL : Nat} {Q : State → Prop} (F : LF p l s m c b L xs dC dI cB ad am o) (hni : iL = 5 * n) (hiL : iL + 5 ≤ L) : LCase p l e s m below meth c b dC dI ad am o n iL Q 664 := by
  intro S M H locs hI9 hS kk9 ls hl
  have hx := F.x
  have hb := F.b
  have hml := F.ml
  have hown := F.own
  have hts := F.ts
  have hL := F.hL
  have hn9 : n ≤ 511 := by omega
  refine lv_aload_n hx hb dL_law_664 rfl (lv_at hl 1 rfl) ?_
  refine lv_aload_n hx hb dL_law_665 rfl (lv_at hl 0 rfl) ?_
  refine lv_iload hx hb dL_law_666 (lv_at hl 4 rfl) ?_
  refine lv_iconst (v := nI 1) hx hb dL_law_668 (by decide) ?_
  refine kn_iadd hx hb dL_law_669 ?_
  refine va_sld hx hb F.sc F.bl (fun z => Nat.not_le.mpr F.bl z) hS.st (vp_in_nI (show iL + 1 < L by omega) (by omega)) dL_law_670 ?_
  obtain ⟨x1, hx1⟩ : ∃ z, z = xs (nI (iL + 1)).toNatClampNeg := ⟨_, rfl⟩
  rw [← hx1]
  refine lv_aload_n hx hb dL_law_671 rfl (lv_at hl 0 rfl) ?_
  refine lv_iload hx hb dL_law_672 (lv_at hl 4 rfl) ?_
  refine lv_iconst (v := nI 2) hx hb dL_law_674 (by decide) ?_
  refine kn_iadd hx hb dL_law_675 ?_
  refine va_sld hx hb F.sc F.bl (fun z => Nat.not_le.mpr F.bl z) hS.st (vp_in_nI (show iL + 2 < L by omega) (by omega)) dL_law_676 ?_
  obtain ⟨x2, hx2⟩ : ∃ z, z = xs (nI (iL + 2)).toNatClampNeg := ⟨_, rfl⟩
  rw [← hx2]
  refine lv_aload_n hx hb dL_law_677 rfl (lv_at hl 0 rfl) ?_
  refine lv_iload hx hb dL_law_678 (lv_at hl 4 rfl) ?_
  refine lv_iconst (v := nI 3) hx hb dL_law_680 (by decide) ?_
  refine kn_iadd hx hb dL_law_681 ?_
  refine va_sld hx hb F.sc F.bl (fun z => Nat.not_le.mpr F.bl z) hS.st (vp_in_nI (show iL + 3 < L by omega) (by omega)) dL_law_682 ?_
  obtain ⟨x3, hx3⟩ : ∃ z, z = xs (nI (iL + 3)).toNatClampNeg := ⟨_, rfl⟩
  rw [← hx3]
  refine lv_aload_n hx hb dL_law_683 rfl (lv_at hl 0 rfl) ?_
  refine lv_iload hx hb dL_law_684 (lv_at hl 4 rfl) ?_
  refine lv_iconst (v := nI 4) hx hb dL_law_686 (by decide) ?_
  refine kn_iadd hx hb dL_law_687 ?_
  refine va_sld hx hb F.sc F.bl (fun z => Nat.not_le.mpr F.bl z) hS.st (vp_in_nI (show iL + 4 < L by omega) (by omega)) dL_law_688 ?_
  obtain ⟨x4, hx4⟩ : ∃ z, z = xs (nI (iL + 4)).toNatClampNeg := ⟨_, rfl⟩
  rw [← hx4]
  refine lv_aload_n hx hb dL_law_689 rfl (lv_at hl 3 rfl) ?_
  refine ll_w (vx_runSW (As := [.ref (ad 57), .int x1, .int x2, .int x3, .int x4, .ref o]) (rest := []) ⟨hx, hb, hml, hown, hts⟩ (m_L_sortPart l F.st dC dI cB ad o S x1 x2 x3 x4 hI9.x hI9.x5 (by have := hI9.xp; omega)) (vx_cwSW 6 hts gL_law_L_sortPart rfl rfl rfl hdL_sortPart_6.2 ⟨Nat.le_of_ble_eq_true rfl, Nat.le_of_ble_eq_true rfl⟩) (hS.preW F.K) rfl rfl hl.1 rfl (lv_room (Nat.le_of_ble_eq_true rfl)) dL_law_690 ⟨le_rc (by omega), le_rs (by omega)⟩) F.K hS (fun r0 S1 n1 H locs hq9 hN hS => ?_)
  have hLQ : LQ S S1 := hq9.1
  have hR : R_sortPart x1 x2 x3 x4 S r0 S1 n1 := hq9.2
  clear hq9
  rcases hR with ⟨hb9, rfl, rfl⟩ | ⟨i, hi, rfl, hb9, rfl, rfl⟩ | ⟨i, j, hi, hj, rfl, rfl, hb9, rfl, rfl⟩ | ⟨i, j, q, hi, hj, hq, rfl, rfl, rfl, hb9, rfl, rfl⟩ | ⟨i, j, q, q2, hi, hj, hq, hq2, rfl, rfl, rfl, rfl, hlt, rfl, rfl⟩ | ⟨i, j, q, q2, r7, hi, hj, hq, hq2, rfl, rfl, rfl, rfl, hqq, rfl, rfl, hw⟩
  · skip
    refine lv_istore (lv' := [(5, .int (nI 1)), (0, .ref b), (1, .ref (ad 57)), (2, .ref (am 0)), (3, .ref o), (4, .int (nI iL))]) hx hb dL_law_693 hl (by decide) rfl (fun ls hl => ?_)
    refine lv_aload_n hx hb dL_law_695 rfl (lv_at hl 3 rfl) ?_
    refine lv_aload_n hx hb dL_law_696 rfl (lv_at hl 1 rfl) ?_
    refine lv_iload hx hb dL_law_697 (lv_at hl 5 rfl) ?_
    refine lv_iconst (v := nI 1) hx hb dL_law_699 (by decide) ?_
    refine kn_iadd hx hb dL_law_700 ?_
    refine va_sld hx hb F.sc F.bl (fun z => Nat.not_le.mpr F.bl z) hS.st (vp_in_nI (show iL + 1 < L by omega) (by omega)) dL_law_701 ?_
    rw [← hx1]
    refine lv_aload_n hx hb dL_law_702 rfl (lv_at hl 1 rfl) ?_
    refine lv_iload hx hb dL_law_703 (lv_at hl 5 rfl) ?_
    refine lv_iconst (v := nI 2) hx hb dL_law_705 (by decide) ?_
    refine kn_iadd hx hb dL_law_706 ?_
    refine va_sld hx hb F.sc F.bl (fun z => Nat.not_le.mpr F.bl z) hS.st (vp_in_nI (show iL + 2 < L by omega) (by omega)) dL_law_707 ?_
    rw [← hx2]
    refine lv_aload_n hx hb dL_law_708 rfl (lv_at hl 1 rfl) ?_
    refine lv_iload hx hb dL_law_709 (lv_at hl 5 rfl) ?_
    refine lv_iconst (v := nI 3) hx hb dL_law_711 (by decide) ?_
    refine kn_iadd hx hb dL_law_712 ?_
    refine va_sld hx hb F.sc F.bl (fun z => Nat.not_le.mpr F.bl z) hS.st (vp_in_nI (show iL + 3 < L by omega) (by omega)) dL_law_713 ?_
    rw [← hx3]
    refine lv_aload_n hx hb dL_law_714 rfl (lv_at hl 1 rfl) ?_
    refine lv_iload hx hb dL_law_715 (lv_at hl 5 rfl) ?_
    refine lv_iconst (v := nI 4) hx hb dL_law_717 (by decide) ?_
    refine kn_iadd hx hb dL_law_718 ?_
    refine va_sld hx hb F.sc F.bl (fun z => Nat.not_le.mpr F.bl z) hS.st (vp_in_nI (show iL + 4 < L by omega) (by omega)) dL_law_719 ?_
    rw [← hx4]
    have hI := hI9.m
    have T := hI9.T
    have hc : M.2.2.2.1 + 12 < 1000000 := by have := hI9.mp; omega
    refine ll_m (va_runV (As := [.int x1, .int x2, .int x3, .int x4]) (rest := []) ⟨hx, hb, hml, hown, hts⟩ (o_X6_sortPart_1 l dC dI am M x1 x2 x3 x4 hb9 hI) (cwV 4 hts gL_law_X6_sortPart rfl rfl rfl hdX6_sortPart_4 ⟨Nat.le_of_ble_eq_true rfl, Nat.le_of_ble_eq_true rfl⟩) (hS.preM F.K) rfl rfl hl.1 rfl (lv_room (Nat.le_of_ble_eq_true rfl)) dL_law_720 ⟨le_rc (by omega), le_rs (by omega)⟩) F.K hS (fun r8 M1 H locs hko hv hS => ?_)
    have hLM : LM M M1 := by rw [hv]; exact LM_th hI _
    have hT : Tie2 S M1 := by rw [hv]; exact T.th _
    refine lv_istore (lv' := [(6, .int r8), (5, .int (nI 1)), (0, .ref b), (1, .ref (ad 57)), (2, .ref (am 0)), (3, .ref o), (4, .int (nI iL))]) hx hb dL_law_723 hl (by decide) rfl (fun ls hl => ?_)
    refine lv_goto (tgt := 2052) hx hb dL_law_725 (by decide) ?_
    exact W.widen (k := 100 + 224 * (n + 1)) (n := 1200 + 10680 * (n + 1)) (by omega) (by omega) (kk9 S M1 _ _ _ (hI9.next hLQ hLM hT) hS (lv_sub hl [2, 3, 4, 5, 6] rfl))
  · skip
    refine lv_istore (lv' := [(5, .int (nI 1)), (0, .ref b), (1, .ref (ad 57)), (2, .ref (am 0)), (3, .ref o), (4, .int (nI iL))]) hx hb dL_law_693 hl (by decide) rfl (fun ls hl => ?_)
    refine lv_aload_n hx hb dL_law_695 rfl (lv_at hl 3 rfl) ?_
    refine lv_aload_n hx hb dL_law_696 rfl (lv_at hl 1 rfl) ?_
    refine lv_iload hx hb dL_law_697 (lv_at hl 5 rfl) ?_
    refine lv_iconst (v := nI 1) hx hb dL_law_699 (by decide) ?_
    refine kn_iadd hx hb dL_law_700 ?_
    refine va_sld hx hb F.sc F.bl (fun z => Nat.not_le.mpr F.bl z) hS.st (vp_in_nI (show iL + 1 < L by omega) (by omega)) dL_law_701 ?_
    rw [← hx1]
    refine lv_aload_n hx hb dL_law_702 rfl (lv_at hl 1 rfl) ?_
    refine lv_iload hx hb dL_law_703 (lv_at hl 5 rfl) ?_
    refine lv_iconst (v := nI 2) hx hb dL_law_705 (by decide) ?_
    refine kn_iadd hx hb dL_law_706 ?_
    refine va_sld hx hb F.sc F.bl (fun z => Nat.not_le.mpr F.bl z) hS.st (vp_in_nI (show iL + 2 < L by omega) (by omega)) dL_law_707 ?_
    rw [← hx2]
    refine lv_aload_n hx hb dL_law_708 rfl (lv_at hl 1 rfl) ?_
    refine lv_iload hx hb dL_law_709 (lv_at hl 5 rfl) ?_
    refine lv_iconst (v := nI 3) hx hb dL_law_711 (by decide) ?_
    refine kn_iadd hx hb dL_law_712 ?_
    refine va_sld hx hb F.sc F.bl (fun z => Nat.not_le.mpr F.bl z) hS.st (vp_in_nI (show iL + 3 < L by omega) (by omega)) dL_law_713 ?_
    rw [← hx3]
    refine lv_aload_n hx hb dL_law_714 rfl (lv_at hl 1 rfl) ?_
    refine lv_iload hx hb dL_law_715 (lv_at hl 5 rfl) ?_
    refine lv_iconst (v := nI 4) hx hb dL_law_717 (by decide) ?_
    refine kn_iadd hx hb dL_law_718 ?_
    refine va_sld hx hb F.sc F.bl (fun z => Nat.not_le.mpr F.bl z) hS.st (vp_in_nI (show iL + 4 < L by omega) (by omega)) dL_law_719 ?_
    rw [← hx4]
    have hI := hI9.m
    have T := hI9.T
    have hc : M.2.2.2.1 + 12 < 1000000 := by have := hI9.mp; omega
    have hn := (hI.1 i hi).1
    refine ll_m (va_runV (As := [.int (nI i), .int x2, .int x3, .int x4]) (rest := []) ⟨hx, hb, hml, hown, hts⟩ (o_X6_sortPart_2 l dC dI am M i x2 x3 x4 hi hb9 hI) (cwV 4 hts gL_law_X6_sortPart rfl rfl rfl hdX6_sortPart_4 ⟨Nat.le_of_ble_eq_true rfl, Nat.le_of_ble_eq_true rfl⟩) (hS.preM F.K) rfl rfl hl.1 rfl (lv_room (Nat.le_of_ble_eq_true rfl)) dL_law_720 ⟨le_rc (by omega), le_rs (by omega)⟩) F.K hS (fun r8 M1 H locs hko hv hS => ?_)
    have hLM : LM M M1 := by rw [hv]; exact LM_th hI _
    have hT : Tie2 S M1 := by rw [hv]; exact T.th _
    refine lv_istore (lv' := [(6, .int r8), (5, .int (nI 1)), (0, .ref b), (1, .ref (ad 57)), (2, .ref (am 0)), (3, .ref o), (4, .int (nI iL))]) hx hb dL_law_723 hl (by decide) rfl (fun ls hl => ?_)
    refine lv_goto (tgt := 2052) hx hb dL_law_725 (by decide) ?_
    exact W.widen (k := 100 + 224 * (n + 1)) (n := 1200 + 10680 * (n + 1)) (by omega) (by omega) (kk9 S M1 _ _ _ (hI9.next hLQ hLM hT) hS (lv_sub hl [2, 3, 4, 5, 6] rfl))
  · skip
    refine lv_istore (lv' := [(5, .int (nI 1)), (0, .ref b), (1, .ref (ad 57)), (2, .ref (am 0)), (3, .ref o), (4, .int (nI iL))]) hx hb dL_law_693 hl (by decide) rfl (fun ls hl => ?_)
    refine lv_aload_n hx hb dL_law_695 rfl (lv_at hl 3 rfl) ?_
    refine lv_aload_n hx hb dL_law_696 rfl (lv_at hl 1 rfl) ?_
    refine lv_iload hx hb dL_law_697 (lv_at hl 5 rfl) ?_
    refine lv_iconst (v := nI 1) hx hb dL_law_699 (by decide) ?_
    refine kn_iadd hx hb dL_law_700 ?_
    refine va_sld hx hb F.sc F.bl (fun z => Nat.not_le.mpr F.bl z) hS.st (vp_in_nI (show iL + 1 < L by omega) (by omega)) dL_law_701 ?_
    rw [← hx1]
    refine lv_aload_n hx hb dL_law_702 rfl (lv_at hl 1 rfl) ?_
    refine lv_iload hx hb dL_law_703 (lv_at hl 5 rfl) ?_
    refine lv_iconst (v := nI 2) hx hb dL_law_705 (by decide) ?_
    refine kn_iadd hx hb dL_law_706 ?_
    refine va_sld hx hb F.sc F.bl (fun z => Nat.not_le.mpr F.bl z) hS.st (vp_in_nI (show iL + 2 < L by omega) (by omega)) dL_law_707 ?_
    rw [← hx2]
    refine lv_aload_n hx hb dL_law_708 rfl (lv_at hl 1 rfl) ?_
    refine lv_iload hx hb dL_law_709 (lv_at hl 5 rfl) ?_
    refine lv_iconst (v := nI 3) hx hb dL_law_711 (by decide) ?_
    refine kn_iadd hx hb dL_law_712 ?_
    refine va_sld hx hb F.sc F.bl (fun z => Nat.not_le.mpr F.bl z) hS.st (vp_in_nI (show iL + 3 < L by omega) (by omega)) dL_law_713 ?_
    rw [← hx3]
    refine lv_aload_n hx hb dL_law_714 rfl (lv_at hl 1 rfl) ?_
    refine lv_iload hx hb dL_law_715 (lv_at hl 5 rfl) ?_
    refine lv_iconst (v := nI 4) hx hb dL_law_717 (by decide) ?_
    refine kn_iadd hx hb dL_law_718 ?_
    refine va_sld hx hb F.sc F.bl (fun z => Nat.not_le.mpr F.bl z) hS.st (vp_in_nI (show iL + 4 < L by omega) (by omega)) dL_law_719 ?_
    rw [← hx4]
    have hI := hI9.m
    have T := hI9.T
    have hc : M.2.2.2.1 + 12 < 1000000 := by have := hI9.mp; omega
    have hn := (hI.1 i hi).1
    rw [T.sz hi] at hb9
    refine ll_m (va_runV (As := [.int (nI i), .int (nI j), .int x3, .int x4]) (rest := []) ⟨hx, hb, hml, hown, hts⟩ (o_X6_sortPart_3 l dC dI am M i j x3 x4 hi hj hb9 hI) (cwV 4 hts gL_law_X6_sortPart rfl rfl rfl hdX6_sortPart_4 ⟨Nat.le_of_ble_eq_true rfl, Nat.le_of_ble_eq_true rfl⟩) (hS.preM F.K) rfl rfl hl.1 rfl (lv_room (Nat.le_of_ble_eq_true rfl)) dL_law_720 ⟨le_rc (by omega), le_rs (by omega)⟩) F.K hS (fun r8 M1 H locs hko hv hS => ?_)
    have hLM : LM M M1 := by rw [hv]; exact LM_th hI _
    have hT : Tie2 S M1 := by rw [hv]; exact T.th _
    refine lv_istore (lv' := [(6, .int r8), (5, .int (nI 1)), (0, .ref b), (1, .ref (ad 57)), (2, .ref (am 0)), (3, .ref o), (4, .int (nI iL))]) hx hb dL_law_723 hl (by decide) rfl (fun ls hl => ?_)
    refine lv_goto (tgt := 2052) hx hb dL_law_725 (by decide) ?_
    exact W.widen (k := 100 + 224 * (n + 1)) (n := 1200 + 10680 * (n + 1)) (by omega) (by omega) (kk9 S M1 _ _ _ (hI9.next hLQ hLM hT) hS (lv_sub hl [2, 3, 4, 5, 6] rfl))
  · skip
    refine lv_istore (lv' := [(5, .int (nI 1)), (0, .ref b), (1, .ref (ad 57)), (2, .ref (am 0)), (3, .ref o), (4, .int (nI iL))]) hx hb dL_law_693 hl (by decide) rfl (fun ls hl => ?_)
    refine lv_aload_n hx hb dL_law_695 rfl (lv_at hl 3 rfl) ?_
    refine lv_aload_n hx hb dL_law_696 rfl (lv_at hl 1 rfl) ?_
    refine lv_iload hx hb dL_law_697 (lv_at hl 5 rfl) ?_
    refine lv_iconst (v := nI 1) hx hb dL_law_699 (by decide) ?_
    refine kn_iadd hx hb dL_law_700 ?_
    refine va_sld hx hb F.sc F.bl (fun z => Nat.not_le.mpr F.bl z) hS.st (vp_in_nI (show iL + 1 < L by omega) (by omega)) dL_law_701 ?_
    rw [← hx1]
    refine lv_aload_n hx hb dL_law_702 rfl (lv_at hl 1 rfl) ?_
    refine lv_iload hx hb dL_law_703 (lv_at hl 5 rfl) ?_
    refine lv_iconst (v := nI 2) hx hb dL_law_705 (by decide) ?_
    refine kn_iadd hx hb dL_law_706 ?_
    refine va_sld hx hb F.sc F.bl (fun z => Nat.not_le.mpr F.bl z) hS.st (vp_in_nI (show iL + 2 < L by omega) (by omega)) dL_law_707 ?_
    rw [← hx2]
    refine lv_aload_n hx hb dL_law_708 rfl (lv_at hl 1 rfl) ?_
    refine lv_iload hx hb dL_law_709 (lv_at hl 5 rfl) ?_
    refine lv_iconst (v := nI 3) hx hb dL_law_711 (by decide) ?_
    refine kn_iadd hx hb dL_law_712 ?_
    refine va_sld hx hb F.sc F.bl (fun z => Nat.not_le.mpr F.bl z) hS.st (vp_in_nI (show iL + 3 < L by omega) (by omega)) dL_law_713 ?_
    rw [← hx3]
    refine lv_aload_n hx hb dL_law_714 rfl (lv_at hl 1 rfl) ?_
    refine lv_iload hx hb dL_law_715 (lv_at hl 5 rfl) ?_
    refine lv_iconst (v := nI 4) hx hb dL_law_717 (by decide) ?_
    refine kn_iadd hx hb dL_law_718 ?_
    refine va_sld hx hb F.sc F.bl (fun z => Nat.not_le.mpr F.bl z) hS.st (vp_in_nI (show iL + 4 < L by omega) (by omega)) dL_law_719 ?_
    rw [← hx4]
    have hI := hI9.m
    have T := hI9.T
    have hc : M.2.2.2.1 + 12 < 1000000 := by have := hI9.mp; omega
    have hqM : q ≤ (M.1 i).2.2 := by rw [← T.sz hi]; exact hq
    have hn := (hI.1 i hi).1
    rw [T.sz hi] at hb9
    refine ll_m (va_runV (As := [.int (nI i), .int (nI j), .int (nI q), .int x4]) (rest := []) ⟨hx, hb, hml, hown, hts⟩ (o_X6_sortPart_4 l dC dI am M i j q x4 hi hj hqM hb9 hI) (cwV 4 hts gL_law_X6_sortPart rfl rfl rfl hdX6_sortPart_4 ⟨Nat.le_of_ble_eq_true rfl, Nat.le_of_ble_eq_true rfl⟩) (hS.preM F.K) rfl rfl hl.1 rfl (lv_room (Nat.le_of_ble_eq_true rfl)) dL_law_720 ⟨le_rc (by omega), le_rs (by omega)⟩) F.K hS (fun r8 M1 H locs hko hv hS => ?_)
    have hLM : LM M M1 := by rw [hv]; exact LM_th hI _
    have hT : Tie2 S M1 := by rw [hv]; exact T.th _
    refine lv_istore (lv' := [(6, .int r8), (5, .int (nI 1)), (0, .ref b), (1, .ref (ad 57)), (2, .ref (am 0)), (3, .ref o), (4, .int (nI iL))]) hx hb dL_law_723 hl (by decide) rfl (fun ls hl => ?_)
    refine lv_goto (tgt := 2052) hx hb dL_law_725 (by decide) ?_
    exact W.widen (k := 100 + 224 * (n + 1)) (n := 1200 + 10680 * (n + 1)) (by omega) (by omega) (kk9 S M1 _ _ _ (hI9.next hLQ hLM hT) hS (lv_sub hl [2, 3, 4, 5, 6] rfl))
  · skip
    refine lv_istore (lv' := [(5, .int (nI 2)), (0, .ref b), (1, .ref (ad 57)), (2, .ref (am 0)), (3, .ref o), (4, .int (nI iL))]) hx hb dL_law_693 hl (by decide) rfl (fun ls hl => ?_)
    refine lv_aload_n hx hb dL_law_695 rfl (lv_at hl 3 rfl) ?_
    refine lv_aload_n hx hb dL_law_696 rfl (lv_at hl 1 rfl) ?_
    refine lv_iload hx hb dL_law_697 (lv_at hl 5 rfl) ?_
    refine lv_iconst (v := nI 1) hx hb dL_law_699 (by decide) ?_
    refine kn_iadd hx hb dL_law_700 ?_
    refine va_sld hx hb F.sc F.bl (fun z => Nat.not_le.mpr F.bl z) hS.st (vp_in_nI (show iL + 1 < L by omega) (by omega)) dL_law_701 ?_
    rw [← hx1]
    refine lv_aload_n hx hb dL_law_702 rfl (lv_at hl 1 rfl) ?_
    refine lv_iload hx hb dL_law_703 (lv_at hl 5 rfl) ?_
    refine lv_iconst (v := nI 2) hx hb dL_law_705 (by decide) ?_
    refine kn_iadd hx hb dL_law_706 ?_
    refine va_sld hx hb F.sc F.bl (fun z => Nat.not_le.mpr F.bl z) hS.st (vp_in_nI (show iL + 2 < L by omega) (by omega)) dL_law_707 ?_
    rw [← hx2]
    refine lv_aload_n hx hb dL_law_708 rfl (lv_at hl 1 rfl) ?_
    refine lv_iload hx hb dL_law_709 (lv_at hl 5 rfl) ?_
    refine lv_iconst (v := nI 3) hx hb dL_law_711 (by decide) ?_
    refine kn_iadd hx hb dL_law_712 ?_
    refine va_sld hx hb F.sc F.bl (fun z => Nat.not_le.mpr F.bl z) hS.st (vp_in_nI (show iL + 3 < L by omega) (by omega)) dL_law_713 ?_
    rw [← hx3]
    refine lv_aload_n hx hb dL_law_714 rfl (lv_at hl 1 rfl) ?_
    refine lv_iload hx hb dL_law_715 (lv_at hl 5 rfl) ?_
    refine lv_iconst (v := nI 4) hx hb dL_law_717 (by decide) ?_
    refine kn_iadd hx hb dL_law_718 ?_
    refine va_sld hx hb F.sc F.bl (fun z => Nat.not_le.mpr F.bl z) hS.st (vp_in_nI (show iL + 4 < L by omega) (by omega)) dL_law_719 ?_
    rw [← hx4]
    have hI := hI9.m
    have T := hI9.T
    have hc : M.2.2.2.1 + 12 < 1000000 := by have := hI9.mp; omega
    have hqM : q ≤ (M.1 i).2.2 := by rw [← T.sz hi]; exact hq
    have hq2M : q2 ≤ (M.1 i).2.2 := by rw [← T.sz hi]; exact hq2
    have hn := (hI.1 i hi).1
    refine ll_m (va_runV (As := [.int (nI i), .int (nI j), .int (nI q), .int (nI q2)]) (rest := []) ⟨hx, hb, hml, hown, hts⟩ (o_X6_sortPart_5 l dC dI am M i j q q2 hi hj hqM hq2M (by omega) hI) (cwV 4 hts gL_law_X6_sortPart rfl rfl rfl hdX6_sortPart_4 ⟨Nat.le_of_ble_eq_true rfl, Nat.le_of_ble_eq_true rfl⟩) (hS.preM F.K) rfl rfl hl.1 rfl (lv_room (Nat.le_of_ble_eq_true rfl)) dL_law_720 ⟨le_rc (by omega), le_rs (by omega)⟩) F.K hS (fun r8 M1 H locs hko hv hS => ?_)
    have hLM : LM M M1 := by rw [hv]; exact LM_th hI _
    have hT : Tie2 S M1 := by rw [hv]; exact T.th _
    refine lv_istore (lv' := [(6, .int r8), (5, .int (nI 2)), (0, .ref b), (1, .ref (ad 57)), (2, .ref (am 0)), (3, .ref o), (4, .int (nI iL))]) hx hb dL_law_723 hl (by decide) rfl (fun ls hl => ?_)
    refine lv_goto (tgt := 2052) hx hb dL_law_725 (by decide) ?_
    exact W.widen (k := 100 + 224 * (n + 1)) (n := 1200 + 10680 * (n + 1)) (by omega) (by omega) (kk9 S M1 _ _ _ (hI9.next hLQ hLM hT) hS (lv_sub hl [2, 3, 4, 5, 6] rfl))
  · skip
    refine lv_istore (lv' := [(5, .int (nI 0)), (0, .ref b), (1, .ref (ad 57)), (2, .ref (am 0)), (3, .ref o), (4, .int (nI iL))]) hx hb dL_law_693 hl (by decide) rfl (fun ls hl => ?_)
    refine lv_aload_n hx hb dL_law_695 rfl (lv_at hl 3 rfl) ?_
    refine lv_aload_n hx hb dL_law_696 rfl (lv_at hl 1 rfl) ?_
    refine lv_iload hx hb dL_law_697 (lv_at hl 5 rfl) ?_
    refine lv_iconst (v := nI 1) hx hb dL_law_699 (by decide) ?_
    refine kn_iadd hx hb dL_law_700 ?_
    refine va_sld hx hb F.sc F.bl (fun z => Nat.not_le.mpr F.bl z) hS.st (vp_in_nI (show iL + 1 < L by omega) (by omega)) dL_law_701 ?_
    rw [← hx1]
    refine lv_aload_n hx hb dL_law_702 rfl (lv_at hl 1 rfl) ?_
    refine lv_iload hx hb dL_law_703 (lv_at hl 5 rfl) ?_
    refine lv_iconst (v := nI 2) hx hb dL_law_705 (by decide) ?_
    refine kn_iadd hx hb dL_law_706 ?_
    refine va_sld hx hb F.sc F.bl (fun z => Nat.not_le.mpr F.bl z) hS.st (vp_in_nI (show iL + 2 < L by omega) (by omega)) dL_law_707 ?_
    rw [← hx2]
    refine lv_aload_n hx hb dL_law_708 rfl (lv_at hl 1 rfl) ?_
    refine lv_iload hx hb dL_law_709 (lv_at hl 5 rfl) ?_
    refine lv_iconst (v := nI 3) hx hb dL_law_711 (by decide) ?_
    refine kn_iadd hx hb dL_law_712 ?_
    refine va_sld hx hb F.sc F.bl (fun z => Nat.not_le.mpr F.bl z) hS.st (vp_in_nI (show iL + 3 < L by omega) (by omega)) dL_law_713 ?_
    rw [← hx3]
    refine lv_aload_n hx hb dL_law_714 rfl (lv_at hl 1 rfl) ?_
    refine lv_iload hx hb dL_law_715 (lv_at hl 5 rfl) ?_
    refine lv_iconst (v := nI 4) hx hb dL_law_717 (by decide) ?_
    refine kn_iadd hx hb dL_law_718 ?_
    refine va_sld hx hb F.sc F.bl (fun z => Nat.not_le.mpr F.bl z) hS.st (vp_in_nI (show iL + 4 < L by omega) (by omega)) dL_law_719 ?_
    rw [← hx4]
    have hI := hI9.m
    have T := hI9.T
    have hc : M.2.2.2.1 + 12 < 1000000 := by have := hI9.mp; omega
    have hqM : q ≤ (M.1 i).2.2 := by rw [← T.sz hi]; exact hq
    have hq2M : q2 ≤ (M.1 i).2.2 := by rw [← T.sz hi]; exact hq2
    have hn := (hI.1 i hi).1
    refine ll_m (va_runV (As := [.int (nI i), .int (nI j), .int (nI q), .int (nI q2)]) (rest := []) ⟨hx, hb, hml, hown, hts⟩ (m_X6_sortPart l dC dI am M i j q q2 hi hj hqM hq2M hqq hI) (cwV 4 hts gL_law_X6_sortPart rfl rfl rfl hdX6_sortPart_4 ⟨Nat.le_of_ble_eq_true rfl, Nat.le_of_ble_eq_true rfl⟩) (hS.preM F.K) rfl rfl hl.1 rfl (lv_room (Nat.le_of_ble_eq_true rfl)) dL_law_720 ⟨le_rc (by omega), le_rs (by omega)⟩) F.K hS (fun r8 M1 H locs hko hv hS => ?_)
    have hLM : LM M M1 := by rw [hv.2]; exact LM_row0 hI (rowM_srt hI hi hqq hq2M)
    obtain ⟨hT, he9, ht9⟩ := A_sort T.1 T.2 hI9.x hi hj hqq hq2 hw hv
    refine lv_istore (lv' := [(6, .int r8), (5, .int (nI 0)), (0, .ref b), (1, .ref (ad 57)), (2, .ref (am 0)), (3, .ref o), (4, .int (nI iL))]) hx hb dL_law_723 hl (by decide) rfl (fun ls hl => ?_)
    refine lv_goto (tgt := 2052) hx hb dL_law_725 (by decide) ?_
    exact W.widen (k := 100 + 224 * (n + 1)) (n := 1200 + 10680 * (n + 1)) (by omega) (by omega) (kk9 S1 M1 _ _ _ (hI9.next hLQ hLM hT) hS (lv_sub hl [2, 3, 4, 5, 6] rfl))
end
