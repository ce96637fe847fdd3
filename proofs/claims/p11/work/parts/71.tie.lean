/-! class and reference side by side: how many stand in each row, the steps of each order, the counts of things put and of knocks -/
def ordT (o : OrdS) (q : OrdM) : Prop := o.2.2.2.2.1 = q.2.2 ∧ ∀ k, k < q.2.2 → o.1 k = q.1 k ∧ o.2.1 k = q.2.1 k
def Tie (S : XS) (M : MS) : Prop := (∀ i, i < 3 → (S.1 i).2.2 = (M.1 i).2.2) ∧ (∀ j, j < 4 → ordT (S.2.1 j) (M.2.1 j)) ∧ S.2.2.1 = M.2.2.2.1 ∧ S.2.2.2.2 = M.2.2.2.2.2
/-- a call on both: still side by side, the same answer, nothing thrown -/
def Ans (r r2 : Int32) (S1 : XS) (M1 : MS) : Prop := Tie S1 M1 ∧ r = r2 ∧ M1.2.2.1 = 0
section TIE
variable {S S1 : XS} {M M1 : MS} {i j u k : Nat} {r r2 : Int32}
theorem Tie.sz (T : Tie S M) (hi : i < 3) : (S.1 i).2.2 = (M.1 i).2.2 := T.1 i hi
theorem Tie.or (T : Tie S M) (hj : j < 4) : ordT (S.2.1 j) (M.2.1 j) := T.2.1 j hj
theorem Tie.n (T : Tie S M) (hj : j < 4) : (S.2.1 j).2.2.2.2.1 = (M.2.1 j).2.2 := (T.2.1 j hj).1
theorem Tie.pu (T : Tie S M) : S.2.2.1 = M.2.2.2.1 := T.2.2.1
theorem Tie.kn (T : Tie S M) : S.2.2.2.2 = M.2.2.2.2.2 := T.2.2.2
theorem Tie.th (T : Tie S M) (u : Nat) : Tie S (thM M u) := ⟨T.1, T.2.1, T.2.2.1, T.2.2.2⟩
theorem Tie.ref (T : Tie S M) : Tie (refT S) (refM M) := ⟨T.1, T.2.1, T.2.2.1, T.2.2.2⟩
theorem Tie.addN (T : Tie S M) (k u : Nat) : Tie (xN S (S.2.2.1 + k, S.2.2.2.1, S.2.2.2.2)) (mN M (u, M.2.2.2.1 + k, M.2.2.2.2)) := ⟨T.1, T.2.1, congrArg (· + k) T.2.2.1, T.2.2.2⟩
theorem Tie.row (T : Tie S M) {a b : RowS} (h : a.2.2 = b.2.2) : Tie (xR S i a) (mR M i b) := by
  refine ⟨fun t ht => ?_, T.2.1, T.2.2.1, T.2.2.2⟩
  by_cases e : t = i
  · subst e; rw [xR_row, mR_row]; exact h
  · rw [xR_ne _ _ e, mR_ne _ _ e]; exact T.1 t ht
theorem Tie.ord (T : Tie S M) {a : OrdS} {b : OrdM} (h : ordT a b) : Tie (xO S j a) (mO M j b) := by
  refine ⟨T.1, fun t ht => ?_, T.2.2.1, T.2.2.2⟩
  by_cases e : t = j
  · subst e; rw [xO_ord, mO_ord]; exact h
  · rw [xO_ne _ _ e, mO_ne _ _ e]; exact T.2.1 t ht
theorem Tie.spO (T : Tie S M) {a : OrdS} (h : 4 ≤ j) : Tie (xO S j a) M := by
  refine ⟨T.1, fun t ht => ?_, T.2.2.1, T.2.2.2⟩
  rw [xO_ne _ _ (show t ≠ j by omega)]
  exact T.2.1 t ht
theorem Tie.spR (T : Tie S M) {a : RowS} (h : 3 ≤ i) : Tie (xR S i a) M := by
  refine ⟨fun t ht => ?_, T.2.1, T.2.2.1, T.2.2.2⟩
  rw [xR_ne _ _ (show t ≠ i by omega)]
  exact T.1 t ht
theorem Tie.sortA (T : Tie S M) {b : RowS} (h : sortA S S1 i) (hb : b.2.2 = (M.1 i).2.2) (hi : i < 3) : Tie S1 (mR (thM M 0) i b) := by
  obtain ⟨h1, h2, -, -, -, h6⟩ := h
  refine ⟨fun t ht => ?_, fun t ht => by rw [h1]; exact T.2.1 t ht, by rw [h1]; exact T.2.2.1, by rw [h1]; exact T.2.2.2⟩
  by_cases e : t = i
  · subst e; rw [h6, mR_row, hb]; exact T.1 t ht
  · rw [h2 t e (by omega) (by omega), mR_ne _ _ e]; exact T.1 t ht
theorem Tie.KA (T : Tie S M) (h : KA S S1) : Tie S1 M := by
  obtain ⟨-, h1, h2, h3⟩ := h
  refine ⟨fun t ht => by rw [h2 t (by omega)]; exact T.1 t ht, fun t ht => by rw [h3 t (by omega)]; exact T.2.1 t ht, by rw [h1]; exact T.2.2.1, by rw [h1]; exact T.2.2.2⟩
theorem Tie.KR (T : Tie S M) (h : KR2 S S1) : Tie S1 M := by
  obtain ⟨h1, h2, -⟩ := h
  refine ⟨fun t ht => by rw [h2 t (by omega)]; exact T.1 t ht, fun t ht => by rw [h1]; exact T.2.1 t ht, by rw [h1]; exact T.2.2.1, by rw [h1]; exact T.2.2.2⟩
/-! codes, classes, ranks are the same -/
theorem Tie.cf (T : Tie S M) (hj : j < 4) : codeOf (S.2.1 j).1 (S.2.1 j).2.1 (S.2.1 j).2.2.2.2.1 = cM M j := by
  funext v
  rw [T.n hj]
  exact codeOf_cong (fun k hk => (T.or hj).2 k hk)
theorem Tie.code (T : Tie S M) (hI : InvX S) (hj : j < 4) {v : Nat} (hv : v < 16) : (S.2.1 j).2.2.1 v = cM M j v := by
  rw [(hI.2 j (by omega)).2.1 v hv, T.cf hj]
theorem Tie.rank (T : Tie S M) (hI : InvX S) (hj : j < 4) {v : Nat} (hv : v < 16) : (S.2.1 j).2.2.2.1 v = rankC (cM M j) v := by
  rw [(hI.2 j (by omega)).2.2.1 v hv, T.cf hj]
theorem Tie.clas (T : Tie S M) (hI : InvX S) (hj : j < 4) : (S.2.1 j).2.2.2.2.2 = classC (cM M j) := by
  rw [(hI.2 j (by omega)).2.2.2, T.cf hj]
theorem finerB_cong {c c2 d d2 : Nat → Nat} (h : ∀ v, v < 16 → c v = c2 v) (h2 : ∀ v, v < 16 → d v = d2 v) : finerB c d = finerB c2 d2 := by
  unfold finerB finerN
  refine decide_eq_decide.mpr ⟨fun k a ha b hb z => ?_, fun k a ha b hb z => ?_⟩
  · rw [← h a ha, ← h b hb]; exact k a ha b hb (by rw [h2 a ha, h2 b hb]; exact z)
  · rw [h a ha, h b hb]; exact k a ha b hb (by rw [← h2 a ha, ← h2 b hb]; exact z)
theorem like_same {c c2 d d2 : Nat → Nat} (h : ∀ v, v < 16 → c v = c2 v) (h2 : ∀ v, v < 16 → d v = d2 v) : likeB c d = sameM c2 d2 := by
  unfold likeB likeN sameM sameN
  refine decide_eq_decide.mpr ⟨fun k a ha b hb => ?_, fun k a ha b hb _ => ?_⟩
  · rw [← h a ha, ← h b hb, ← h2 a ha, ← h2 b hb]
    rcases Nat.lt_trichotomy a b with e | e | e
    · exact k a ha b hb e
    · subst e; rw [cmpI_eq rfl, cmpI_eq rfl]
    · rw [← cmpI_neg, ← cmpI_neg (d b), k b hb a ha e]
  · rw [h a ha, h b hb, h2 a ha, h2 b hb]; exact k a ha b hb
/-! pairs counted row by row and column by column -/
theorem sumN_add (f : Nat → Nat) (q : Nat → Bool) : ∀ n, sumN (fun a => f a + (if q a then 1 else 0)) n = sumN f n + cntB q n
  | 0 => rfl
  | n + 1 => by
    rw [sumN, sumN, cntB, sumN_add f q n]
    omega
theorem sumN_cong {f g : Nat → Nat} : ∀ {n : Nat}, (∀ a, a < n → f a = g a) → sumN f n = sumN g n
  | 0, _ => rfl
  | n + 1, h => by rw [sumN, sumN, sumN_cong (fun a ha => h a (by omega)), h n (by omega)]
theorem pairs_eq {p : Nat → Nat → Bool} : ∀ n, (∀ a b, a < n → b < n → p a b = p b a) → sumN (fun a => cntB (fun y => decide (a < y) && p a y) n) n = sumN (fun a => cntB (fun b => p a b) a) n
  | 0, _ => rfl
  | n + 1, hp => by
    have ih := pairs_eq (p := p) n (fun a b ha hb => hp a b (by omega) (by omega))
    have e1 : sumN (fun a => cntB (fun y => decide (a < y) && p a y) (n + 1)) n = sumN (fun a => cntB (fun y => decide (a < y) && p a y) n + (if p a n then 1 else 0)) n := by
      refine sumN_cong (fun a ha => ?_)
      show cntB (fun y => decide (a < y) && p a y) n + (if (decide (a < n) && p a n) = true then 1 else 0) = _
      rw [decide_eq_true ha, Bool.true_and]
    have e2 : cntB (fun y => decide (n < y) && p n y) (n + 1) = 0 := cntB_none (fun k hk => by show (decide (n < k) && p n k) = false; rw [decide_eq_false (by omega), Bool.false_and])
    have e3 : cntB (fun a => p a n) n = cntB (fun b => p n b) n := cntB_cong (fun k hk => hp k n (by omega) (by omega))
    show sumN (fun a => cntB (fun y => decide (a < y) && p a y) (n + 1)) n + cntB (fun y => decide (n < y) && p n y) (n + 1) = sumN (fun a => cntB (fun b => p a b) a) n + cntB (fun b => p n b) n
    rw [e2, Nat.add_zero, e1, sumN_add, ih, e3]
theorem bothI_2 (a b c d : Nat) : bothI a b c d = nI 2 ↔ a ≠ b ∧ cmpI a b = -cmpI c d := by
  have h3 : ∀ x y : Nat, cmpI x y ≠ nI 2 := fun x y => by
    rcases Nat.lt_trichotomy x y with h | h | h
    · rw [cmpI_lt h]; decide
    · rw [cmpI_eq h]; decide
    · rw [cmpI_gt h]; decide
  unfold bothI
  constructor
  · intro h
    split at h
    · assumption
    · split at h
      · exact absurd h (h3 _ _)
      · exact absurd h (h3 _ _)
  · intro h
    rw [if_pos h]
theorem bothI_sym (a b c d : Nat) : decide (bothI a b c d = nI 2) = decide (bothI b a d c = nI 2) := by
  refine decide_eq_decide.mpr ?_
  rw [bothI_2, bothI_2, ← cmpI_neg b a, ← cmpI_neg d c]
  refine ⟨fun h => ⟨fun z => h.1 z.symm, ?_⟩, fun h => ⟨fun z => h.1 z.symm, ?_⟩⟩
  · have := h.2
    rw [Int32.neg_neg] at this
    rw [← this, Int32.neg_neg]
  · rw [h.2]
theorem apart_eq {c c2 d d2 : Nat → Nat} (h : ∀ v, v < 16 → c v = c2 v) (h2 : ∀ v, v < 16 → d v = d2 v) : apartN c d = apartM c2 d2 := by
  have e := pairs_eq (p := fun a b => decide (bothI (c2 a) (c2 b) (d2 a) (d2 b) = nI 2)) 16 (fun a b _ _ => bothI_sym _ _ _ _)
  have e2 : apartN c d = sumN (fun a => cntB (fun y => decide (a < y) && decide (bothI (c2 a) (c2 y) (d2 a) (d2 y) = nI 2)) 16) 16 := sumN_cong (fun a ha => cntB_cong (fun y hy => by rw [h a ha, h y hy, h2 a ha, h2 y hy]))
  rw [e2, e]
  rfl
/-! a step more -/
theorem ordT_app {o : OrdS} {q : OrdM} (h : ordT o q) (k : Nat) (z : Bool) : ∀ x, x < q.2.2 + 1 → va_up o.1 o.2.2.2.2.1 k x = va_up q.1 q.2.2 k x ∧ va_up o.2.1 o.2.2.2.2.1 z x = va_up q.2.1 q.2.2 z x := by
  intro x hx
  rw [h.1]
  unfold va_up
  by_cases e : x = q.2.2
  · rw [if_pos e, if_pos e, if_pos e, if_pos e]; exact ⟨rfl, rfl⟩
  · rw [if_neg e, if_neg e, if_neg e, if_neg e]; exact h.2 x (by omega)
theorem code_app {o : OrdS} {q : OrdM} (h : ordT o q) (k : Nat) (z : Bool) : codeOf (va_up o.1 o.2.2.2.2.1 k) (va_up o.2.1 o.2.2.2.2.1 z) (o.2.2.2.2.1 + 1) = codeOf (va_up q.1 q.2.2 k) (va_up q.2.1 q.2.2 z) (q.2.2 + 1) := by
  funext v
  have e := ordT_app h k z
  rw [h.1] at e ⊢
  exact codeOf_cong e
theorem Tie.coa (T : Tie S M) (hj : j < 4) : coarseC (S.2.1 j) = coaM M j := by
  funext k
  unfold coarseC coaM
  rw [code_app (T.or hj)]
/-! call by call -/
theorem A_put {q q2 v : Nat} (T : Tie S M) (hi : i < 3) (hw : ((S.1 i).2.2 < 12 ∧ r = nI S.2.2.1 ∧ S1 = placeT S i q v) ∨ (12 ≤ (S.1 i).2.2 ∧ r = -9 ∧ S1 = refT S)) (hv : ((M.1 i).2.2 < 12 ∧ r2 = nI M.2.2.2.1 ∧ M1 = placeM (thM M 0) i q2 v) ∨ (12 ≤ (M.1 i).2.2 ∧ r2 = -9 ∧ M1 = refM M)) : Ans r r2 S1 M1 := by
  have e := T.sz hi
  rcases hw with ⟨h1, h2, h3⟩ | ⟨h1, h2, h3⟩ <;> rcases hv with ⟨g1, g2, g3⟩ | ⟨g1, g2, g3⟩
  · rw [h2, g2, h3, g3]
    exact ⟨(T.addN 1 0).row (congrArg (· + 1) e), congrArg nI T.pu, rfl⟩
  · omega
  · omega
  · rw [h2, g2, h3, g3]
    exact ⟨T.ref, rfl, rfl⟩
theorem A_fill {f g f2 g2 : Nat → Nat} (T : Tie S M) (hi : i < 3) (hw : ((S.1 i).2.2 + k ≤ 12 ∧ r = nI ((S.1 i).2.2 + k) ∧ S1 = xR (xN S (S.2.2.1 + k, S.2.2.2.1, S.2.2.2.2)) i (f, g, (S.1 i).2.2 + k)) ∨ (12 < (S.1 i).2.2 + k ∧ r = -9 ∧ S1 = refT S))
    (hv : ((M.1 i).2.2 + k ≤ 12 ∧ r2 = nI ((M.1 i).2.2 + k) ∧ M1 = mR (mN M (0, M.2.2.2.1 + k, M.2.2.2.2)) i (f2, g2, (M.1 i).2.2 + k)) ∨ (12 < (M.1 i).2.2 + k ∧ r2 = -9 ∧ M1 = refM M)) : Ans r r2 S1 M1 := by
  have e := T.sz hi
  rcases hw with ⟨h1, h2, h3⟩ | ⟨h1, h2, h3⟩ <;> rcases hv with ⟨p1, p2, p3⟩ | ⟨p1, p2, p3⟩
  · rw [h2, p2, h3, p3]
    exact ⟨(T.addN k 0).row (congrArg (· + k) e), congrArg (fun z => nI (z + k)) e, rfl⟩
  · omega
  · omega
  · rw [h2, p2, h3, p3]
    exact ⟨T.ref, rfl, rfl⟩
/-- a row changed, its size told or kept -/
theorem A_row {a b : RowS} {x y : Nat} (T : Tie S M) (h : a.2.2 = b.2.2) (hx : x = y) (hw : r = nI x ∧ S1 = xR S i a) (hv : r2 = nI y ∧ M1 = mR (thM M 0) i b) : Ans r r2 S1 M1 := by
  rw [hw.1, hw.2, hv.1, hv.2, hx]
  exact ⟨(T.th 0).row h, rfl, rfl⟩
theorem A_clear (T : Tie S M) (hi : i < 3) {a b c d : Nat → Nat} (hw : r = nI (S.1 i).2.2 ∧ S1 = xR S i (a, b, 0)) (hv : r2 = nI (M.1 i).2.2 ∧ M1 = mR (thM M 0) i (c, d, 0)) : Ans r r2 S1 M1 := A_row (a := (a, b, 0)) (b := (c, d, 0)) T rfl (T.sz hi) hw hv
theorem A_copyRow {t : Nat} (T : Tie S M) (hi : i < 3) {a b c d : Nat → Nat} (hw : r = nI (S.1 i).2.2 ∧ S1 = xR S t (a, b, (S.1 i).2.2)) (hv : r2 = nI (M.1 i).2.2 ∧ M1 = mR (thM M 0) t (c, d, (M.1 i).2.2)) : Ans r r2 S1 M1 := A_row (a := (a, b, (S.1 i).2.2)) (b := (c, d, (M.1 i).2.2)) T (T.sz hi) (T.sz hi) hw hv
theorem A_turnRow (T : Tie S M) (hi : i < 3) {a b c d : Nat → Nat} (hw : r = nI ((S.1 i).2.2 - (S.1 i).2.2 % 2) ∧ S1 = xR S i (a, b, (S.1 i).2.2)) (hv : r2 = nI ((M.1 i).2.2 - (M.1 i).2.2 % 2) ∧ M1 = mR (thM M 0) i (c, d, (M.1 i).2.2)) : Ans r r2 S1 M1 := A_row (a := (a, b, (S.1 i).2.2)) (b := (c, d, (M.1 i).2.2)) T (T.sz hi) (by rw [T.sz hi]) hw hv
theorem A_size (T : Tie S M) (hi : i < 3) (hw : r = nI (S.1 i).2.2 ∧ S1 = S) (hv : r2 = nI (M.1 i).2.2 ∧ M1 = thM M 0) : Ans r r2 S1 M1 := by
  rw [hw.1, hw.2, hv.1, hv.2]
  exact ⟨T.th 0, congrArg nI (T.sz hi), rfl⟩
/-! calls of which the answer isn't told here -/
theorem B_drop (T : Tie S M) (hi : i < 3) {a b c d : Nat → Nat} {P P2 : Prop} (hw : P ∧ S1 = xR S i (a, b, (S.1 i).2.2 - 1)) (hv : P2 ∧ M1 = mR (thM M 0) i (c, d, (M.1 i).2.2 - 1)) : Tie S1 M1 := by
  rw [hw.2, hv.2]
  exact (T.th 0).row (congrArg (· - 1) (T.sz hi))
theorem B_swap (T : Tie S M) (hi : i < 3) {a b c d : Nat → Nat} {P P2 : Prop} (hw : P ∧ S1 = xR S i (a, b, (S.1 i).2.2)) (hv : P2 ∧ M1 = mR (thM M 0) i (c, d, (M.1 i).2.2)) : Tie S1 M1 := by
  rw [hw.2, hv.2]
  exact (T.th 0).row (T.sz hi)
theorem B_wheel {y : Int32} (T : Tie S M) (hi : i < 3) {Q : Nat → Prop} (hw : ((S.1 i).2.2 = 0 ∧ r = -1 ∧ S1 = S) ∨ (0 < (S.1 i).2.2 ∧ ∃ (x sh : Nat) (r4 r' : RowS), r = nI x ∧ sh < (S.1 i).2.2 ∧ nI sh = fmv y (nI (S.1 i).2.2) ∧ S1 = xR (xR S 4 r4) i r' ∧ rowOK r4 ∧ rowOK r' ∧ r'.2.2 = (S.1 i).2.2))
    (hv : ((M.1 i).2.2 = 0 ∧ r2 = -1 ∧ M1 = thM M 0) ∨ (0 < (M.1 i).2.2 ∧ ∃ sh, sh < (M.1 i).2.2 ∧ Q sh ∧ r2 = nI (rotI (M.1 i).2.1 (M.1 i).2.2 sh 0) ∧ M1 = mR (thM M 0) i (rotI (M.1 i).1 (M.1 i).2.2 sh, rotI (M.1 i).2.1 (M.1 i).2.2 sh, (M.1 i).2.2))) : Tie S1 M1 := by
  have e := T.sz hi
  rcases hw with ⟨h1, -, h3⟩ | ⟨h1, x, sh, r4, r', -, -, -, h3, -, -, h4⟩ <;> rcases hv with ⟨g1, -, g3⟩ | ⟨g1, s9, -, -, -, g3⟩
  · rw [h3, g3]; exact T.th 0
  · omega
  · omega
  · rw [h3, g3]
    exact ((T.spR (a := r4) (show 3 ≤ 4 by omega)).th 0).row (h4.trans e)
theorem B_same {P P2 : Prop} (T : Tie S M) (hw : P ∧ S1 = S) (hv : P2 ∧ M1 = thM M 0) : Tie S1 M1 := by
  rw [hw.2, hv.2]
  exact T.th 0
theorem B_search {P P2 P3 P4 P5 P6 : Prop} (T : Tie S M) (hw : (P ∧ P5 ∧ S1 = refT S) ∨ (P2 ∧ P6 ∧ S1 = S)) {P7 P8 : Prop} (hv : (P3 ∧ P7 ∧ M1 = refM M) ∨ (P4 ∧ P8 ∧ M1 = thM M 0)) : Tie S1 M1 := by
  have a1 : S1.1 = S.1 ∧ S1.2.1 = S.2.1 ∧ S1.2.2.1 = S.2.2.1 ∧ S1.2.2.2.2 = S.2.2.2.2 := by
    rcases hw with ⟨-, -, e⟩ | ⟨-, -, e⟩ <;> (rw [e]; exact ⟨rfl, rfl, rfl, rfl⟩)
  have a2 : M1.1 = M.1 ∧ M1.2.1 = M.2.1 ∧ M1.2.2.2.1 = M.2.2.2.1 ∧ M1.2.2.2.2.2 = M.2.2.2.2.2 := by
    rcases hv with ⟨-, -, e⟩ | ⟨-, -, e⟩ <;> (rw [e]; exact ⟨rfl, rfl, rfl, rfl⟩)
  obtain ⟨p1, p2, p3, p4⟩ := a1
  obtain ⟨q1, q2, q3, q4⟩ := a2
  exact ⟨fun t ht => by rw [p1, q1]; exact T.1 t ht, fun t ht => by rw [p2, q2]; exact T.2.1 t ht, by rw [p3, q3]; exact T.2.2.1, by rw [p4, q4]; exact T.2.2.2⟩
/-! orders -/
theorem A_step {z : Bool} (T : Tie S M) (hj : j < 4) (hw : ((S.2.1 j).2.2.2.2.1 < 5 ∧ r = nI (coarseD (S.2.1 j) k z) ∧ S1 = xO S j (newO (va_up (S.2.1 j).1 (S.2.1 j).2.2.2.2.1 k) (va_up (S.2.1 j).2.1 (S.2.1 j).2.2.2.2.1 z) ((S.2.1 j).2.2.2.2.1 + 1) (S.2.1 j).2.2.1 (S.2.1 j).2.2.2.1)) ∨ (5 ≤ (S.2.1 j).2.2.2.2.1 ∧ r = -9 ∧ S1 = refT S))
    (hv : ((M.2.1 j).2.2 < 5 ∧ r2 = nI (classC (cM M1 j)) ∧ M1 = mO (thM M 0) j (va_up (M.2.1 j).1 (M.2.1 j).2.2 k, va_up (M.2.1 j).2.1 (M.2.1 j).2.2 z, (M.2.1 j).2.2 + 1)) ∨ (5 ≤ (M.2.1 j).2.2 ∧ r2 = -9 ∧ M1 = refM M)) : Ans r r2 S1 M1 := by
  have e := T.n hj
  rcases hw with ⟨h1, h2, h3⟩ | ⟨h1, h2, h3⟩ <;> rcases hv with ⟨g1, g2, g3⟩ | ⟨g1, g2, g3⟩
  · refine ⟨?_, ?_, ?_⟩
    · rw [h3, g3]
      exact (T.th 0).ord ⟨congrArg (· + 1) e, ordT_app (T.or hj) k z⟩
    · rw [h2, g2, g3, cM_mO]
      unfold coarseD
      rw [code_app (T.or hj)]
    · rw [g3]; rfl
  · omega
  · omega
  · rw [h2, g2, h3, g3]
    exact ⟨T.ref, rfl, rfl⟩
theorem A_unstep (T : Tie S M) (hj : j < 4) (hw : ((S.2.1 j).2.2.2.2.1 ≠ 0 ∧ r = nI ((S.2.1 j).1 ((S.2.1 j).2.2.2.2.1 - 1)) ∧ S1 = xO S j (newO ((S.2.1 j).1) ((S.2.1 j).2.1) ((S.2.1 j).2.2.2.2.1 - 1) (S.2.1 j).2.2.1 (S.2.1 j).2.2.2.1)) ∨ ((S.2.1 j).2.2.2.2.1 = 0 ∧ r = -9 ∧ S1 = refT S))
    (hv : ((M.2.1 j).2.2 ≠ 0 ∧ r2 = nI ((M.2.1 j).1 ((M.2.1 j).2.2 - 1)) ∧ M1 = mO (thM M 0) j ((M.2.1 j).1, (M.2.1 j).2.1, (M.2.1 j).2.2 - 1)) ∨ ((M.2.1 j).2.2 = 0 ∧ r2 = -9 ∧ M1 = refM M)) : Ans r r2 S1 M1 := by
  have e := T.n hj
  rcases hw with ⟨h1, h2, h3⟩ | ⟨h1, h2, h3⟩ <;> rcases hv with ⟨g1, g2, g3⟩ | ⟨g1, g2, g3⟩
  · refine ⟨?_, ?_, ?_⟩
    · rw [h3, g3]
      exact (T.th 0).ord ⟨congrArg (· - 1) e, fun x hx => (T.or hj).2 x (by have : x < (M.2.1 j).2.2 - 1 := hx; omega)⟩
    · rw [h2, g2, e, ((T.or hj).2 _ (by omega)).1]
    · rw [g3]; rfl
  · omega
  · omega
  · rw [h2, g2, h3, g3]
    exact ⟨T.ref, rfl, rfl⟩
theorem A_wipe (T : Tie S M) (hj : j < 4) (hw : r = nI (S.2.1 j).2.2.2.2.1 ∧ S1 = xO S j (newO ((S.2.1 j).1) ((S.2.1 j).2.1) (0) (S.2.1 j).2.2.1 (S.2.1 j).2.2.2.1)) (hv : r2 = nI (M.2.1 j).2.2 ∧ M1 = mO (thM M 0) j ((M.2.1 j).1, (M.2.1 j).2.1, 0)) : Ans r r2 S1 M1 := by
  rw [hw.1, hw.2, hv.1, hv.2, T.n hj]
  exact ⟨(T.th 0).ord ⟨rfl, fun x hx => absurd hx (Nat.not_lt_zero x)⟩, rfl, rfl⟩
theorem apn0 {α : Type} (f g : Nat → α) {n x : Nat} (h : x < n) : apn f g 0 n x = g x := by
  unfold apn
  rw [if_pos ⟨Nat.zero_le _, by omega⟩]
  rfl
theorem ovl_in0 {α : Type} (f g : Nat → α) {n x : Nat} (h : x < n) : ovl f g n x = f x := if_pos h
theorem A_copyOrder {t : Nat} (T : Tie S M) (hj : j < 4) (hw : r = nI (S.2.1 j).2.2.2.2.1 ∧ S1 = xO S t (newO (apn (S.2.1 t).1 (S.2.1 j).1 0 (S.2.1 j).2.2.2.2.1) (apn (S.2.1 t).2.1 (S.2.1 j).2.1 0 (S.2.1 j).2.2.2.2.1) (S.2.1 j).2.2.2.2.1 (S.2.1 t).2.2.1 (S.2.1 t).2.2.2.1))
    (hv : r2 = nI (M.2.1 j).2.2 ∧ M1 = mO (thM M 0) t (ovl (M.2.1 j).1 (M.2.1 t).1 (M.2.1 j).2.2, ovl (M.2.1 j).2.1 (M.2.1 t).2.1 (M.2.1 j).2.2, (M.2.1 j).2.2)) : Ans r r2 S1 M1 := by
  rw [hw.1, hw.2, hv.1, hv.2, T.n hj]
  refine ⟨(T.th 0).ord ⟨rfl, fun x hx => ?_⟩, rfl, rfl⟩
  have hx : x < (M.2.1 j).2.2 := hx
  show apn (S.2.1 t).1 (S.2.1 j).1 0 (M.2.1 j).2.2 x = ovl (M.2.1 j).1 (M.2.1 t).1 (M.2.1 j).2.2 x ∧ apn (S.2.1 t).2.1 (S.2.1 j).2.1 0 (M.2.1 j).2.2 x = ovl (M.2.1 j).2.1 (M.2.1 t).2.1 (M.2.1 j).2.2 x
  rw [apn0 _ _ hx, apn0 _ _ hx, ovl_in0 _ _ hx, ovl_in0 _ _ hx]
  exact (T.or hj).2 x hx
theorem A_turn (T : Tie S M) (hj : j < 4) (hw : r = nI (cntB (ovl (fun k => !(S.2.1 j).2.1 k) (S.2.1 j).2.1 (S.2.1 j).2.2.2.2.1) (S.2.1 j).2.2.2.2.1) ∧ S1 = xO S j (newO ((S.2.1 j).1) (ovl (fun k => !(S.2.1 j).2.1 k) (S.2.1 j).2.1 (S.2.1 j).2.2.2.2.1) ((S.2.1 j).2.2.2.2.1) (S.2.1 j).2.2.1 (S.2.1 j).2.2.2.1))
    (hv : r2 = nI (cntB (fun k => !(M.2.1 j).2.1 k) (M.2.1 j).2.2) ∧ M1 = mO (thM M 0) j ((M.2.1 j).1, ovl (fun k => !(M.2.1 j).2.1 k) (M.2.1 j).2.1 ((M.2.1 j).2.2), (M.2.1 j).2.2)) : Ans r r2 S1 M1 := by
  rw [hw.1, hw.2, hv.1, hv.2, T.n hj]
  refine ⟨(T.th 0).ord ⟨rfl, fun x hx => ?_⟩, ?_, rfl⟩
  · have hx : x < (M.2.1 j).2.2 := hx
    show (S.2.1 j).1 x = (M.2.1 j).1 x ∧ ovl (fun k => !(S.2.1 j).2.1 k) (S.2.1 j).2.1 (M.2.1 j).2.2 x = ovl (fun k => !(M.2.1 j).2.1 k) (M.2.1 j).2.1 (M.2.1 j).2.2 x
    rw [ovl_in0 _ _ hx, ovl_in0 _ _ hx, ((T.or hj).2 x hx).2]
    exact ⟨((T.or hj).2 x hx).1, rfl⟩
  · refine congrArg nI (cntB_cong (fun x hx => ?_))
    rw [ovl_in0 _ _ hx, ((T.or hj).2 x hx).2]
theorem prod_T {j2 : Nat} (T : Tie S M) (hj : j < 4) (hj2 : j2 < 4) (a : OrdS) (b : OrdM) : ordT (copyO a (prodO S j j2)) (ovl (prK (M.2.1 j).1 (M.2.1 j2).1 (M.2.1 j).2.2) b.1 ((M.2.1 j).2.2 + (M.2.1 j2).2.2), ovl (prK (M.2.1 j).2.1 (M.2.1 j2).2.1 (M.2.1 j).2.2) b.2.1 ((M.2.1 j).2.2 + (M.2.1 j2).2.2), (M.2.1 j).2.2 + (M.2.1 j2).2.2) := by
  have e1 := T.n hj
  have e2 := T.n hj2
  refine ⟨?_, fun x hx => ?_⟩
  · show (S.2.1 j).2.2.2.2.1 + (S.2.1 j2).2.2.2.2.1 = (M.2.1 j).2.2 + (M.2.1 j2).2.2
    rw [e1, e2]
  · have hx : x < (M.2.1 j).2.2 + (M.2.1 j2).2.2 := hx
    show apn a.1 (apn (apn ((S.2.1 4).1) ((S.2.1 j).1) 0 ((S.2.1 j).2.2.2.2.1)) (S.2.1 j2).1 (S.2.1 j).2.2.2.2.1 (S.2.1 j2).2.2.2.2.1) 0 ((S.2.1 j).2.2.2.2.1 + (S.2.1 j2).2.2.2.2.1) x = ovl (prK (M.2.1 j).1 (M.2.1 j2).1 (M.2.1 j).2.2) b.1 ((M.2.1 j).2.2 + (M.2.1 j2).2.2) x ∧ apn a.2.1 (apn (apn ((S.2.1 4).2.1) ((S.2.1 j).2.1) 0 ((S.2.1 j).2.2.2.2.1)) (S.2.1 j2).2.1 (S.2.1 j).2.2.2.2.1 (S.2.1 j2).2.2.2.2.1) 0 ((S.2.1 j).2.2.2.2.1 + (S.2.1 j2).2.2.2.2.1) x = ovl (prK (M.2.1 j).2.1 (M.2.1 j2).2.1 (M.2.1 j).2.2) b.2.1 ((M.2.1 j).2.2 + (M.2.1 j2).2.2) x
    rw [e1, e2, apn0 _ _ hx, apn0 _ _ hx, ovl_in0 _ _ hx, ovl_in0 _ _ hx]
    by_cases h : x < (M.2.1 j).2.2
    · have no : ¬ ((M.2.1 j).2.2 ≤ x ∧ x < (M.2.1 j).2.2 + (M.2.1 j2).2.2) := fun z => by omega
      have q1 : ∀ {α : Type} (f g h9 : Nat → α), apn (apn f g 0 (M.2.1 j).2.2) h9 (M.2.1 j).2.2 (M.2.1 j2).2.2 x = g x := fun f g h9 => by
        show (if (M.2.1 j).2.2 ≤ x ∧ x < (M.2.1 j).2.2 + (M.2.1 j2).2.2 then h9 (x - (M.2.1 j).2.2) else apn f g 0 (M.2.1 j).2.2 x) = g x
        rw [if_neg no, apn0 _ _ h]
      rw [q1, q1, prK_lo h, prK_lo h]
      exact (T.or hj).2 x h
    · have yes : (M.2.1 j).2.2 ≤ x ∧ x < (M.2.1 j).2.2 + (M.2.1 j2).2.2 := ⟨by omega, hx⟩
      have q1 : ∀ {α : Type} (f h9 : Nat → α), apn f h9 (M.2.1 j).2.2 (M.2.1 j2).2.2 x = h9 (x - (M.2.1 j).2.2) := fun f h9 => if_pos yes
      rw [q1, q1, prK_hi yes.1, prK_hi yes.1]
      exact (T.or hj2).2 _ (by omega)
theorem A_product {j2 j3 : Nat} (T : Tie S M) (hj : j < 4) (hj2 : j2 < 4) (hj3 : j3 < 4) (hw : ((S.2.1 j).2.2.2.2.1 + (S.2.1 j2).2.2.2.2.1 ≤ 5 ∧ r = nI (copyO (S.2.1 j3) (prodO S j j2)).2.2.2.2.2 ∧ S1 = xO (xO S 4 (prodO S j j2)) j3 (copyO (S.2.1 j3) (prodO S j j2))) ∨ (5 < (S.2.1 j).2.2.2.2.1 + (S.2.1 j2).2.2.2.2.1 ∧ r = -9 ∧ S1 = refT S))
    (hv : ((M.2.1 j).2.2 + (M.2.1 j2).2.2 ≤ 5 ∧ r2 = nI (classC (cM M1 j3)) ∧ M1 = mO (thM M 0) j3 (ovl (prK (M.2.1 j).1 (M.2.1 j2).1 (M.2.1 j).2.2) (M.2.1 j3).1 ((M.2.1 j).2.2 + (M.2.1 j2).2.2), ovl (prK (M.2.1 j).2.1 (M.2.1 j2).2.1 (M.2.1 j).2.2) (M.2.1 j3).2.1 ((M.2.1 j).2.2 + (M.2.1 j2).2.2), ((M.2.1 j).2.2 + (M.2.1 j2).2.2))) ∨ (5 < (M.2.1 j).2.2 + (M.2.1 j2).2.2 ∧ r2 = -9 ∧ M1 = refM M)) : Ans r r2 S1 M1 := by
  have e1 := T.n hj
  have e2 := T.n hj2
  rcases hw with ⟨h1, h2, h3⟩ | ⟨h1, h2, h3⟩ <;> rcases hv with ⟨g1, g2, g3⟩ | ⟨g1, g2, g3⟩
  · have o := prod_T T hj hj2 (S.2.1 j3) (M.2.1 j3)
    refine ⟨?_, ?_, ?_⟩
    · rw [h3, g3]
      exact ((T.spO (a := prodO S j j2) (show 4 ≤ 4 by omega)).th 0).ord o
    · rw [h2, g2, g3, cM_mO]
      refine congrArg nI ?_
      show classC (codeOf (copyO (S.2.1 j3) (prodO S j j2)).1 (copyO (S.2.1 j3) (prodO S j j2)).2.1 (copyO (S.2.1 j3) (prodO S j j2)).2.2.2.2.1) = _
      refine classC_cong (fun v _ => ?_)
      rw [o.1]
      exact codeOf_cong o.2
    · rw [g3]; rfl
  · omega
  · omega
  · rw [h2, g2, h3, g3]
    exact ⟨T.ref, rfl, rfl⟩
theorem A_tell {v v2 : Nat} (T : Tie S M) (hI : InvX S) (hj : j < 4) (hv1 : v < 16) (hv2 : v2 < 16) (hw : (v ≠ v2 ∧ (S.2.1 j).2.2.1 v = (S.2.1 j).2.2.1 v2 ∧ (S.2.1 j).2.2.2.2.1 < 5 ∧ r = nI (coarse (coarseC (S.2.1 j)) (keyApart v v2) 8).2 ∧ ∃ o4, ordOK o4 ∧ S1 = xO (xO S 4 o4) j (newO (va_up (S.2.1 j).1 (S.2.1 j).2.2.2.2.1 (coarse (coarseC (S.2.1 j)) (keyApart v v2) 8).2) (va_up (S.2.1 j).2.1 (S.2.1 j).2.2.2.2.1 false) ((S.2.1 j).2.2.2.2.1 + 1) (S.2.1 j).2.2.1 (S.2.1 j).2.2.2.1)) ∨ ((v = v2 ∨ (S.2.1 j).2.2.1 v ≠ (S.2.1 j).2.2.1 v2 ∨ 5 ≤ (S.2.1 j).2.2.2.2.1) ∧ r = -9 ∧ S1 = refT S))
    (hv : (v ≠ v2 ∧ cM M j v = cM M j v2 ∧ (M.2.1 j).2.2 < 5 ∧ r2 = nI (coarse (coaM M j) (keyApart v v2) 8).2 ∧ ∃ (K9 : Nat → Nat) (D9 : Nat → Bool), (∀ x, x < (M.2.1 j).2.2 → K9 x = (M.2.1 j).1 x ∧ D9 x = (M.2.1 j).2.1 x) ∧ (∀ x, x < 5 → K9 x < 8) ∧ M1 = mO (thM M 0) j (va_up K9 (M.2.1 j).2.2 (coarse (coaM M j) (keyApart v v2) 8).2, va_up D9 (M.2.1 j).2.2 false, (M.2.1 j).2.2 + 1)) ∨ ((v = v2 ∨ cM M j v ≠ cM M j v2 ∨ 5 ≤ (M.2.1 j).2.2) ∧ r2 = -9 ∧ M1 = refM M)) : Ans r r2 S1 M1 := by
  have e := T.n hj
  have c1 := T.code hI hj hv1
  have c2 := T.code hI hj hv2
  have cc := T.coa hj
  rcases hw with ⟨h0, h1, h2, h3, o4, -, h4⟩ | ⟨h1, h2, h3⟩ <;> rcases hv with ⟨g0, g1, g2, g3, K9, D9, g4, -, g5⟩ | ⟨g1, g2, g3⟩
  · refine ⟨?_, ?_, ?_⟩
    · rw [h4, g5]
      refine ((T.spO (a := o4) (show 4 ≤ 4 by omega)).th 0).ord ?_
      rw [cc]
      refine ⟨congrArg (· + 1) e, fun x hx => ?_⟩
      have hx : x < (M.2.1 j).2.2 + 1 := hx
      have w := ordT_app (T.or hj) (coarse (coaM M j) (keyApart v v2) 8).2 false x hx
      show va_up (S.2.1 j).1 (S.2.1 j).2.2.2.2.1 (coarse (coaM M j) (keyApart v v2) 8).2 x = va_up K9 (M.2.1 j).2.2 (coarse (coaM M j) (keyApart v v2) 8).2 x ∧ va_up (S.2.1 j).2.1 (S.2.1 j).2.2.2.2.1 false x = va_up D9 (M.2.1 j).2.2 false x
      rw [w.1, w.2]
      unfold va_up
      by_cases e9 : x = (M.2.1 j).2.2
      · rw [if_pos e9, if_pos e9, if_pos e9, if_pos e9]; exact ⟨rfl, rfl⟩
      · rw [if_neg e9, if_neg e9, if_neg e9, if_neg e9, (g4 x (by omega)).1, (g4 x (by omega)).2]; exact ⟨rfl, rfl⟩
    · rw [h3, g3, cc]
    · rw [g5]; rfl
  · rw [c1, c2] at h1
    rcases g1 with g1 | g1 | g1
    · exact absurd g1 h0
    · exact absurd h1 g1
    · omega
  · rw [c1, c2] at h1
    rcases h1 with h1 | h1 | h1
    · exact absurd h1 g0
    · exact absurd g1 h1
    · omega
  · rw [h2, g2, h3, g3]
    exact ⟨T.ref, rfl, rfl⟩
theorem A_eq {x y : Int32} (T : Tie S M) (e : x = y) (hw : r = x ∧ S1 = S) (hv : r2 = y ∧ M1 = thM M 0) : Ans r r2 S1 M1 := by
  rw [hw.1, hw.2, hv.1, hv.2, e]
  exact ⟨T.th 0, rfl, rfl⟩
theorem A_compare {v v2 : Nat} (T : Tie S M) (hI : InvX S) (hj : j < 4) (hv1 : v < 16) (hv2 : v2 < 16) (hw : r = cmpI ((S.2.1 j).2.2.1 v) ((S.2.1 j).2.2.1 v2) ∧ S1 = S) (hv : r2 = cmpI (cM M j v) (cM M j v2) ∧ M1 = thM M 0) : Ans r r2 S1 M1 := A_eq T (by rw [T.code hI hj hv1, T.code hI hj hv2]) hw hv
theorem A_both {j2 v v2 : Nat} (T : Tie S M) (hI : InvX S) (hj : j < 4) (hj2 : j2 < 4) (hv1 : v < 16) (hv2 : v2 < 16) (hw : r = bothI ((S.2.1 j).2.2.1 v) ((S.2.1 j).2.2.1 v2) ((S.2.1 j2).2.2.1 v) ((S.2.1 j2).2.2.1 v2) ∧ S1 = S) (hv : r2 = bothI (cM M j v) (cM M j v2) (cM M j2 v) (cM M j2 v2) ∧ M1 = thM M 0) : Ans r r2 S1 M1 := A_eq T (by rw [T.code hI hj hv1, T.code hI hj hv2, T.code hI hj2 hv1, T.code hI hj2 hv2]) hw hv
theorem A_refines {j2 : Nat} (T : Tie S M) (hI : InvX S) (hj : j < 4) (hj2 : j2 < 4) (hw : r = bI (finerB (S.2.1 j).2.2.1 (S.2.1 j2).2.2.1) ∧ S1 = S) (hv : r2 = bI (finerB (cM M j) (cM M j2)) ∧ M1 = thM M 0) : Ans r r2 S1 M1 := A_eq T (congrArg bI (finerB_cong (fun _ h => T.code hI hj h) (fun _ h => T.code hI hj2 h))) hw hv
theorem A_areSame {j2 : Nat} (T : Tie S M) (hI : InvX S) (hj : j < 4) (hj2 : j2 < 4) (hw : r = bI (likeB (S.2.1 j).2.2.1 (S.2.1 j2).2.2.1) ∧ S1 = S) (hv : r2 = bI (sameM (cM M j) (cM M j2)) ∧ M1 = thM M 0) : Ans r r2 S1 M1 := A_eq T (congrArg bI (like_same (fun _ h => T.code hI hj h) (fun _ h => T.code hI hj2 h))) hw hv
theorem A_apart {j2 : Nat} (T : Tie S M) (hI : InvX S) (hj : j < 4) (hj2 : j2 < 4) (hw : r = nI (apartN (S.2.1 j).2.2.1 (S.2.1 j2).2.2.1) ∧ S1 = S) (hv : r2 = nI (apartM (cM M j) (cM M j2)) ∧ M1 = thM M 0) : Ans r r2 S1 M1 := A_eq T (congrArg nI (apart_eq (fun _ h => T.code hI hj h) (fun _ h => T.code hI hj2 h))) hw hv
theorem A_classes (T : Tie S M) (hI : InvX S) (hj : j < 4) (hw : r = nI (S.2.1 j).2.2.2.2.2 ∧ S1 = S) (hv : r2 = nI (classC (cM M j)) ∧ M1 = thM M 0) : Ans r r2 S1 M1 := A_eq T (congrArg nI (T.clas hI hj)) hw hv
theorem A_rank {v : Nat} (T : Tie S M) (hI : InvX S) (hj : j < 4) (hv1 : v < 16) (hw : r = nI ((S.2.1 j).2.2.2.1 v) ∧ S1 = S) (hv : r2 = nI (rankC (cM M j) v) ∧ M1 = thM M 0) : Ans r r2 S1 M1 := A_eq T (congrArg nI (T.rank hI hj hv1)) hw hv
theorem A_keyOf {v : Nat} (T : Tie S M) (hw : r = nI (numK k v) ∧ S1 = S) (hv : r2 = nI (numK k v) ∧ M1 = thM M 0) : Ans r r2 S1 M1 := A_eq T rfl hw hv
end TIE
theorem Tie_0 : Tie S00 M00 := ⟨fun _ _ => rfl, fun _ _ => ⟨rfl, fun _ h => absurd h (Nat.not_lt_zero _)⟩, rfl, rfl⟩

