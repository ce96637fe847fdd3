/-! rows too: what stands in each row, how many were refused -/
def XE (S : XS) (M : MS) : Prop := (∀ i, i < 3 → ∀ x, x < (M.1 i).2.2 → (S.1 i).1 x = (M.1 i).1 x ∧ (S.1 i).2.1 x = (M.1 i).2.1 x) ∧ S.2.2.2.1 = M.2.2.2.2.1
def Tie2 (S : XS) (M : MS) : Prop := Tie S M ∧ XE S M
def Ans2 (r r2 : Int32) (S1 : XS) (M1 : MS) : Prop := Tie2 S1 M1 ∧ r = r2 ∧ M1.2.2.1 = 0
theorem shr_E {f g : Nat → Nat} {n q v w : Nat} (h : ∀ x, x < n → f x = g x) (hv : v = w) (hq : q ≤ n) : ∀ x, x < n + 1 → va_up (shr f n q) q v x = va_up (shr g n q) q w x := fun x hx => by
  unfold va_up shr
  by_cases e : x = q
  · rw [if_pos e, if_pos e, hv]
  · rw [if_neg e, if_neg e]
    by_cases e2 : q < x ∧ x ≤ n
    · rw [if_pos e2, if_pos e2]; exact h _ (by omega)
    · rw [if_neg e2, if_neg e2]; exact h _ (by omega)
theorem apn_E {f g s t : Nat → Nat} {n k : Nat} (h : ∀ x, x < n → f x = g x) (h2 : ∀ x, x < k → s x = t x) : ∀ x, x < n + k → apn f s n k x = apn g t n k x := fun x hx => by
  unfold apn
  by_cases e : n ≤ x ∧ x < n + k
  · rw [if_pos e, if_pos e]; exact h2 _ (by omega)
  · rw [if_neg e, if_neg e]; exact h _ (by omega)
theorem shl_E {f g : Nat → Nat} {n q : Nat} (h : ∀ x, x < n → f x = g x) : ∀ x, x < n - 1 → shl f q (n - 1) x = shl g q (n - 1) x := fun x hx => by
  unfold shl
  by_cases e : q ≤ x ∧ x < n - 1
  · rw [if_pos e, if_pos e]; exact h _ (by omega)
  · rw [if_neg e, if_neg e]; exact h _ (by omega)
theorem rev_E {f g : Nat → Nat} {n : Nat} (h : ∀ x, x < n → f x = g x) : ∀ x, x < n → rev f n n x = rev g n n x := fun x hx => by
  unfold rev
  by_cases e : x < n ∧ (x < n ∨ n - 1 - x < n)
  · rw [if_pos e, if_pos e]; exact h _ (by omega)
  · rw [if_neg e, if_neg e]; exact h _ (by omega)
theorem xch_E {f g : Nat → Nat} {n a b : Nat} (h : ∀ x, x < n → f x = g x) (ha : a < n) (hb : b < n) : ∀ x, x < n → xch f a b x = xch g a b x := fun x hx => by
  rw [xch_at, xch_at, h a ha, h b hb, h x hx]
theorem seq_E {c d f g : Nat → Nat} {n : Nat} (h : ∀ x, x < n → c (f x) = d (g x)) : seqB c f n = seqB d g n := by
  unfold seqB
  refine decide_eq_decide.mpr ⟨fun z q hq => ?_, fun z q hq => ?_⟩
  · rw [← h q (by omega), ← h (q + 1) (by omega)]; exact z q hq
  · rw [h q (by omega), h (q + 1) (by omega)]; exact z q hq
theorem first_E {c d f g : Nat → Nat} {n : Nat} (h : ∀ x, x < n → c (f x) = d (g x)) {k : Nat} (hk : k < n) : firstB c f k = firstB d g k := by
  unfold firstB
  refine decide_eq_decide.mpr ⟨fun z q hq => ?_, fun z q hq => ?_⟩
  · rw [← h q (by omega), ← h k hk]; exact z q hq
  · rw [h q (by omega), h k hk]; exact z q hq
theorem best_E {p p2 : Nat → Bool} {lt lt2 : Nat → Nat → Bool} : ∀ {n : Nat}, (∀ x, x < n → p x = p2 x) → (∀ a b, a < n → b < n → lt a b = lt2 a b) → bestB p lt n = bestB p2 lt2 n
  | 0, _, _ => rfl
  | n + 1, h, h2 => by
    have ih := best_E (p := p) (p2 := p2) (lt := lt) (lt2 := lt2) (n := n) (fun x hx => h x (by omega)) (fun a b ha hb => h2 a b (by omega) (by omega))
    rw [bestB, bestB, ih, h n (by omega)]
    by_cases hp : p2 n = true
    · rw [if_pos hp, if_pos hp]
      cases hb : bestB p2 lt2 n with
      | none => rfl
      | some b =>
        have := (bestB_lt hb).1
        dsimp only
        rw [h2 n b (by omega) (by omega)]
    · rw [if_neg hp, if_neg hp]
theorem exM_E {R R2 : Nat → Nat} {z : Bool} : ∀ {n : Nat}, (∀ k, k < n → R k = R2 k) → exM R z n = exM R2 z n
  | 0, _ => rfl
  | n + 1, h => by rw [exM, exM, exM_E (fun k hk => h k (by omega)), h n (by omega)]
theorem ex_best {R : Nat → Nat} {lt : Nat → Nat → Bool} {z : Bool} : ∀ {n : Nat}, (∀ a b, a < n → b < n → lt a b = exB z (R b) (R a)) → exM R z n = (bestB (fun _ => true) lt n).map R
  | 0, _ => rfl
  | n + 1, h => by
    have ih := ex_best (R := R) (lt := lt) (z := z) (n := n) (fun a b ha hb => h a b (by omega) (by omega))
    cases hb : bestB (fun _ => true) lt n with
    | none =>
      rw [hb] at ih
      have ih : exM R z n = none := ih
      rw [exM_n ih, bestB_first rfl hb]
      rfl
    | some b =>
      rw [hb] at ih
      have ih : exM R z n = some (R b) := ih
      have hbn := (bestB_lt hb).1
      have hl := h n b (by omega) (by omega)
      by_cases e : lt n b = true
      · rw [exM_t ih (by rw [← hl]; exact e), bestB_new rfl hb e]
        rfl
      · have e2 : lt n b = false := Bool.eq_false_iff.mpr e
        rw [exM_f ih (by rw [← hl]; exact e2), bestB_old rfl hb e2]
        rfl
theorem exI_oI (o : Option Nat) (R : Nat → Nat) : exI o R = oI (o.map R) := by cases o <;> rfl
theorem mod_back {x sh n : Nat} (hx : x < n) (hs : sh < n) : ((x + n - sh) % n + sh) % n = x := by
  by_cases h : x < sh
  · rw [Nat.mod_eq_of_lt (show x + n - sh < n by omega), show x + n - sh + sh = x + n by omega, Nat.add_mod_right, Nat.mod_eq_of_lt hx]
  · rw [show x + n - sh = (x - sh) + n by omega, Nat.add_mod_right, Nat.mod_eq_of_lt (show x - sh < n by omega), show x - sh + sh = x by omega, Nat.mod_eq_of_lt hx]
theorem wheel_same {y : Int32} {n sh sh2 : Nat} (h0 : 0 < n) (hn : n ≤ 12) (hs : sh < n) (h1 : nI sh = fmv y (nI n)) (hs2 : sh2 < n) (h2 : y - y / nI n * nI n + nI n - (y - y / nI n * nI n + nI n) / nI n * nI n = nI sh2) : sh = sh2 := by
  have hN : (nI n).toInt = n := nI_toInt (by omega)
  have hlo : -(n : Int) < y.toInt.tmod n := by have := Int.lt_tmod_of_pos y.toInt (show (0 : Int) < n by omega); omega
  have hhi : y.toInt.tmod n < n := Int.tmod_lt_of_pos _ (by omega)
  have e1 : (y - y / nI n * nI n).toInt = y.toInt.tmod n := by rw [rem_toInt, hN]
  have e2 : (y - y / nI n * nI n + nI n).toInt = y.toInt.tmod n + n := by
    rw [Int32.toInt_add, e1, hN]
    exact Int.bmod_eq_of_le (by omega) (by omega)
  have e3 : (y - y / nI n * nI n + nI n - (y - y / nI n * nI n + nI n) / nI n * nI n).toInt = (y.toInt.tmod n + n).tmod n := by rw [rem_toInt, e2, hN]
  rw [h2, nI_toInt (by omega), Int.tmod_eq_emod_of_nonneg (by omega), Int.add_emod_right] at e3
  have e4 : (sh : Int) = (fmv y (nI n)).toInt := by rw [← h1, nI_toInt (by omega)]
  by_cases h : 0 ≤ y - y / nI n * nI n
  · have e5 : fmv y (nI n) = y - y / nI n * nI n := if_pos h
    rw [e5, e1] at e4
    rw [Int32.le_iff_toInt_le, Int32.toInt_zero, e1] at h
    rw [Int.emod_eq_of_lt h hhi] at e3
    omega
  · have e5 : fmv y (nI n) = y - y / nI n * nI n + nI n := if_neg h
    rw [e5, e2] at e4
    rw [Int32.le_iff_toInt_le, Int32.toInt_zero, e1] at h
    rw [← Int.add_emod_right, Int.emod_eq_of_lt (by omega) (by omega)] at e3
    omega
section TIE2
variable {S S1 : XS} {M M1 : MS} {i j u k : Nat} {r r2 : Int32}
theorem Ans.two (h : Ans r r2 S1 M1) (X : XE S1 M1) : Ans2 r r2 S1 M1 := ⟨⟨h.1, X⟩, h.2⟩
theorem Tie2.sz (T : Tie2 S M) (hi : i < 3) : (S.1 i).2.2 = (M.1 i).2.2 := T.1.sz hi
theorem Tie2.kn (T : Tie2 S M) : S.2.2.2.2 = M.2.2.2.2.2 := T.1.kn
theorem XE.th (X : XE S M) (u : Nat) : XE S (thM M u) := ⟨X.1, X.2⟩
theorem XE.ref (X : XE S M) : XE (refT S) (refM M) := ⟨X.1, congrArg (· + 1) X.2⟩
theorem XE.addN (X : XE S M) (k u : Nat) : XE (xN S (S.2.2.1 + k, S.2.2.2.1, S.2.2.2.2)) (mN M (u, M.2.2.2.1 + k, M.2.2.2.2)) := ⟨X.1, X.2⟩
theorem XE.row (X : XE S M) {a b : RowS} (h : ∀ x, x < b.2.2 → a.1 x = b.1 x ∧ a.2.1 x = b.2.1 x) : XE (xR S i a) (mR M i b) := by
  refine ⟨fun t ht x hx => ?_, X.2⟩
  by_cases e : t = i
  · subst e; rw [mR_row] at hx; rw [xR_row, mR_row]; exact h x hx
  · rw [mR_ne _ _ e] at hx; rw [xR_ne _ _ e, mR_ne _ _ e]; exact X.1 t ht x hx
theorem XE.ord (X : XE S M) {a : OrdS} {b : OrdM} : XE (xO S j a) (mO M j b) := ⟨X.1, X.2⟩
theorem XE.spO (X : XE S M) {a : OrdS} : XE (xO S j a) M := ⟨X.1, X.2⟩
theorem XE.spR (X : XE S M) {a : RowS} (h : 3 ≤ i) : XE (xR S i a) M := by
  refine ⟨fun t ht x hx => ?_, X.2⟩
  rw [xR_ne _ _ (show t ≠ i by omega)]
  exact X.1 t ht x hx
theorem Tie2.th (T : Tie2 S M) (u : Nat) : Tie2 S (thM M u) := ⟨T.1.th u, T.2.th u⟩
theorem Tie2.KA (T : Tie2 S M) (h : KA S S1) : Tie2 S1 M := by
  refine ⟨T.1.KA h, ?_⟩
  obtain ⟨-, h1, h2, -⟩ := h
  exact ⟨fun t ht x hx => by rw [h2 t (by omega)]; exact T.2.1 t ht x hx, by rw [h1]; exact T.2.2⟩
theorem Tie2.KR (T : Tie2 S M) (h : KR2 S S1) : Tie2 S1 M := by
  refine ⟨T.1.KR h, ?_⟩
  obtain ⟨h1, h2, -⟩ := h
  exact ⟨fun t ht x hx => by rw [h2 t (by omega)]; exact T.2.1 t ht x hx, by rw [h1]; exact T.2.2⟩
theorem A2_eq {x y : Int32} (T : Tie2 S M) (e : x = y) (hw : r = x ∧ S1 = S) (hv : r2 = y ∧ M1 = thM M 0) : Ans2 r r2 S1 M1 := by
  rw [hw.1, hw.2, hv.1, hv.2, e]
  exact ⟨T.th 0, rfl, rfl⟩
theorem E_row {a b : RowS} {P P2 : Prop} (X : XE S M) (h : ∀ x, x < b.2.2 → a.1 x = b.1 x ∧ a.2.1 x = b.2.1 x) (hw : P ∧ S1 = xR S i a) (hv : P2 ∧ M1 = mR (thM M 0) i b) : XE S1 M1 := by
  rw [hw.2, hv.2]
  exact (X.th 0).row h
theorem E_ord {a : OrdS} {b : OrdM} {P P2 : Prop} (X : XE S M) (hw : P ∧ S1 = xO S j a) (hv : P2 ∧ M1 = mO (thM M 0) j b) : XE S1 M1 := by
  rw [hw.2, hv.2]
  exact (X.th 0).ord
theorem E_same {P P2 : Prop} (X : XE S M) (hw : P ∧ S1 = S) (hv : P2 ∧ M1 = thM M 0) : XE S1 M1 := by
  rw [hw.2, hv.2]
  exact X.th 0
theorem E_put {q q2 v : Nat} (T : Tie S M) (X : XE S M) (hi : i < 3) (hq : q = q2) (hqn : q ≤ (S.1 i).2.2) (hw : ((S.1 i).2.2 < 12 ∧ r = nI S.2.2.1 ∧ S1 = placeT S i q v) ∨ (12 ≤ (S.1 i).2.2 ∧ r = -9 ∧ S1 = refT S)) (hv : ((M.1 i).2.2 < 12 ∧ r2 = nI M.2.2.2.1 ∧ M1 = placeM (thM M 0) i q2 v) ∨ (12 ≤ (M.1 i).2.2 ∧ r2 = -9 ∧ M1 = refM M)) : XE S1 M1 := by
  have e := T.sz hi
  subst hq
  rcases hw with ⟨h1, h2, h3⟩ | ⟨h1, h2, h3⟩ <;> rcases hv with ⟨g1, g2, g3⟩ | ⟨g1, g2, g3⟩
  · rw [h3, g3]
    refine (X.addN 1 0).row (fun x hx => ?_)
    have hx : x < (M.1 i).2.2 + 1 := hx
    show va_up (shr (S.1 i).1 (S.1 i).2.2 q) q v x = va_up (shr (M.1 i).1 (M.1 i).2.2 q) q v x ∧ va_up (shr (S.1 i).2.1 (S.1 i).2.2 q) q S.2.2.1 x = va_up (shr (M.1 i).2.1 (M.1 i).2.2 q) q M.2.2.2.1 x
    rw [e]
    exact ⟨shr_E (fun y hy => (X.1 i hi y hy).1) rfl (by omega) x hx, shr_E (fun y hy => (X.1 i hi y hy).2) T.pu (by omega) x hx⟩
  · omega
  · omega
  · rw [h3, g3]
    exact X.ref
theorem E_fill {k2 k3 : Nat} (T : Tie S M) (X : XE S M) (hi : i < 3) (hw : ((S.1 i).2.2 + k ≤ 12 ∧ r = nI ((S.1 i).2.2 + k) ∧ S1 = xR (xN S (S.2.2.1 + k, S.2.2.2.1, S.2.2.2.2)) i (apn (S.1 i).1 (fun x => (k2 + x * k3) % 16) (S.1 i).2.2 k, apn (S.1 i).2.1 (fun x => S.2.2.1 + x) (S.1 i).2.2 k, (S.1 i).2.2 + k)) ∨ (12 < (S.1 i).2.2 + k ∧ r = -9 ∧ S1 = refT S)) (hv : ((M.1 i).2.2 + k ≤ 12 ∧ r2 = nI ((M.1 i).2.2 + k) ∧ M1 = mR (mN M (0, M.2.2.2.1 + k, M.2.2.2.2)) i (apn (M.1 i).1 (fun x => (k2 + x * k3) % 16) (M.1 i).2.2 k, apn (M.1 i).2.1 (fun x => M.2.2.2.1 + x) (M.1 i).2.2 k, (M.1 i).2.2 + k)) ∨ (12 < (M.1 i).2.2 + k ∧ r2 = -9 ∧ M1 = refM M)) : XE S1 M1 := by
  have e := T.sz hi
  rcases hw with ⟨h1, h2, h3⟩ | ⟨h1, h2, h3⟩ <;> rcases hv with ⟨g1, g2, g3⟩ | ⟨g1, g2, g3⟩
  · rw [h3, g3]
    refine (X.addN k 0).row (fun x hx => ?_)
    have hx : x < (M.1 i).2.2 + k := hx
    show apn (S.1 i).1 (fun x => (k2 + x * k3) % 16) (S.1 i).2.2 k x = apn (M.1 i).1 (fun x => (k2 + x * k3) % 16) (M.1 i).2.2 k x ∧ apn (S.1 i).2.1 (fun x => S.2.2.1 + x) (S.1 i).2.2 k x = apn (M.1 i).2.1 (fun x => M.2.2.2.1 + x) (M.1 i).2.2 k x
    rw [e]
    exact ⟨apn_E (fun y hy => (X.1 i hi y hy).1) (fun _ _ => rfl) x hx, apn_E (fun y hy => (X.1 i hi y hy).2) (fun y _ => by show S.2.2.1 + y = M.2.2.2.1 + y; rw [T.pu]) x hx⟩
  · omega
  · omega
  · rw [h3, g3]
    exact X.ref
theorem E_clear {P P2 : Prop} (X : XE S M) {a b c d : Nat → Nat} (hw : P ∧ S1 = xR S i (a, b, 0)) (hv : P2 ∧ M1 = mR (thM M 0) i (c, d, 0)) : XE S1 M1 := E_row X (fun x hx => absurd hx (Nat.not_lt_zero x)) hw hv
theorem E_copyRow {t : Nat} {P P2 : Prop} (T : Tie S M) (X : XE S M) (hi : i < 3) (hw : P ∧ S1 = xR S t (ovl (S.1 i).1 (S.1 t).1 (S.1 i).2.2, ovl (S.1 i).2.1 (S.1 t).2.1 (S.1 i).2.2, (S.1 i).2.2)) (hv : P2 ∧ M1 = mR (thM M 0) t (ovl (M.1 i).1 (M.1 t).1 (M.1 i).2.2, ovl (M.1 i).2.1 (M.1 t).2.1 (M.1 i).2.2, (M.1 i).2.2)) : XE S1 M1 := by
  refine E_row X (fun x hx => ?_) hw hv
  have hx : x < (M.1 i).2.2 := hx
  have e := T.sz hi
  show ovl (S.1 i).1 (S.1 t).1 (S.1 i).2.2 x = ovl (M.1 i).1 (M.1 t).1 (M.1 i).2.2 x ∧ ovl (S.1 i).2.1 (S.1 t).2.1 (S.1 i).2.2 x = ovl (M.1 i).2.1 (M.1 t).2.1 (M.1 i).2.2 x
  rw [e, ovl_in hx, ovl_in hx, ovl_in hx, ovl_in hx]
  exact X.1 i hi x hx
theorem E_turnRow {P P2 : Prop} (T : Tie S M) (X : XE S M) (hi : i < 3) (hw : P ∧ S1 = xR S i (rev (S.1 i).1 (S.1 i).2.2 (S.1 i).2.2, rev (S.1 i).2.1 (S.1 i).2.2 (S.1 i).2.2, (S.1 i).2.2)) (hv : P2 ∧ M1 = mR (thM M 0) i (rev (M.1 i).1 (M.1 i).2.2 ((M.1 i).2.2), rev (M.1 i).2.1 (M.1 i).2.2 ((M.1 i).2.2), (M.1 i).2.2)) : XE S1 M1 := by
  refine E_row X (fun x hx => ?_) hw hv
  have hx : x < (M.1 i).2.2 := hx
  have e := T.sz hi
  show rev (S.1 i).1 (S.1 i).2.2 (S.1 i).2.2 x = rev (M.1 i).1 (M.1 i).2.2 (M.1 i).2.2 x ∧ rev (S.1 i).2.1 (S.1 i).2.2 (S.1 i).2.2 x = rev (M.1 i).2.1 (M.1 i).2.2 (M.1 i).2.2 x
  rw [e]
  exact ⟨rev_E (fun y hy => (X.1 i hi y hy).1) x hx, rev_E (fun y hy => (X.1 i hi y hy).2) x hx⟩
theorem A_drop {q : Nat} (T : Tie S M) (X : XE S M) (hi : i < 3) (hq : q < (S.1 i).2.2) (hw : r = nI ((S.1 i).2.1 q) ∧ S1 = xR S i (shl (S.1 i).1 q ((S.1 i).2.2 - 1), shl (S.1 i).2.1 q ((S.1 i).2.2 - 1), (S.1 i).2.2 - 1)) (hv : r2 = nI ((M.1 i).2.1 q) ∧ M1 = mR (thM M 0) i (shl (M.1 i).1 q ((M.1 i).2.2 - 1), shl (M.1 i).2.1 q ((M.1 i).2.2 - 1), (M.1 i).2.2 - 1)) : Ans2 r r2 S1 M1 := by
  have e := T.sz hi
  refine ⟨⟨B_drop T hi hw hv, E_row X (fun x hx => ?_) hw hv⟩, ?_, by rw [hv.2]; rfl⟩
  · have hx : x < (M.1 i).2.2 - 1 := hx
    show shl (S.1 i).1 q ((S.1 i).2.2 - 1) x = shl (M.1 i).1 q ((M.1 i).2.2 - 1) x ∧ shl (S.1 i).2.1 q ((S.1 i).2.2 - 1) x = shl (M.1 i).2.1 q ((M.1 i).2.2 - 1) x
    rw [e]
    exact ⟨shl_E (fun y hy => (X.1 i hi y hy).1) x hx, shl_E (fun y hy => (X.1 i hi y hy).2) x hx⟩
  · rw [hw.1, hv.1, (X.1 i hi q (by omega)).2]
theorem A_swap {q q2 : Nat} (T : Tie S M) (X : XE S M) (hi : i < 3) (hq : q < (S.1 i).2.2) (hq2 : q2 < (S.1 i).2.2) (hw : r = (if xch (S.1 i).1 q q2 q = xch (S.1 i).1 q q2 q2 then 0 else 1) ∧ S1 = xR S i (xch (S.1 i).1 q q2, xch (S.1 i).2.1 q q2, (S.1 i).2.2)) (hv : r2 = (if xch (M.1 i).1 q q2 q = xch (M.1 i).1 q q2 q2 then 0 else 1) ∧ M1 = mR (thM M 0) i (xch (M.1 i).1 q q2, xch (M.1 i).2.1 q q2, (M.1 i).2.2)) : Ans2 r r2 S1 M1 := by
  have e := T.sz hi
  have hV := xch_E (a := q) (b := q2) (fun y hy => (X.1 i hi y hy).1) (by omega) (by omega)
  have hK := xch_E (a := q) (b := q2) (fun y hy => (X.1 i hi y hy).2) (by omega) (by omega)
  refine ⟨⟨B_swap T hi hw hv, E_row (a := (xch (S.1 i).1 q q2, xch (S.1 i).2.1 q q2, (S.1 i).2.2)) (b := (xch (M.1 i).1 q q2, xch (M.1 i).2.1 q q2, (M.1 i).2.2)) X (fun x hx => ⟨hV x hx, hK x hx⟩) hw hv⟩, ?_, by rw [hv.2]; rfl⟩
  rw [hw.1, hv.1, hV q (by omega), hV q2 (by omega)]
theorem A_wheel {y : Int32} (T : Tie S M) (X : XE S M) (hi : i < 3) (h12 : (M.1 i).2.2 ≤ 12) (hw : ((S.1 i).2.2 = 0 ∧ r = -1 ∧ S1 = S) ∨ (0 < (S.1 i).2.2 ∧ ∃ (sh : Nat) (r4 r' : RowS), r = nI (r'.2.1 0) ∧ sh < (S.1 i).2.2 ∧ nI sh = fmv y (nI (S.1 i).2.2) ∧ S1 = xR (xR S 4 r4) i r' ∧ rowOK r4 ∧ rowOK r' ∧ r'.2.2 = (S.1 i).2.2 ∧ (∀ x, x < (S.1 i).2.2 → r'.1 ((x + sh) % (S.1 i).2.2) = (S.1 i).1 x) ∧ ∀ x, x < (S.1 i).2.2 → r'.2.1 ((x + sh) % (S.1 i).2.2) = (S.1 i).2.1 x)) (hv : ((M.1 i).2.2 = 0 ∧ r2 = -1 ∧ M1 = thM M 0) ∨ (0 < (M.1 i).2.2 ∧ ∃ sh, sh < (M.1 i).2.2 ∧ y - y / nI (M.1 i).2.2 * nI (M.1 i).2.2 + nI (M.1 i).2.2 - (y - y / nI (M.1 i).2.2 * nI (M.1 i).2.2 + nI (M.1 i).2.2) / nI (M.1 i).2.2 * nI (M.1 i).2.2 = nI sh ∧ r2 = nI (rotI (M.1 i).2.1 (M.1 i).2.2 sh 0) ∧ M1 = mR (thM M 0) i (rotI (M.1 i).1 (M.1 i).2.2 sh, rotI (M.1 i).2.1 (M.1 i).2.2 sh, (M.1 i).2.2))) : Ans2 r r2 S1 M1 := by
  have e := T.sz hi
  rcases hw with ⟨h1, h2, h3⟩ | ⟨h1, sh, r4, r', h2, h3, h4, h5, -, -, h6, h7, h8⟩ <;> rcases hv with ⟨g1, g2, g3⟩ | ⟨g1, s9, g2, g3, g4, g5⟩
  · rw [h2, g2, h3, g3]
    exact ⟨⟨T.th 0, X.th 0⟩, rfl, rfl⟩
  · omega
  · omega
  · rw [e] at h3 h4 h7 h8
    obtain rfl := wheel_same (y := y) g1 h12 h3 h4 g2 g3
    have el : ∀ {f g V : Nat → Nat}, (∀ x, x < (M.1 i).2.2 → f ((x + sh) % (M.1 i).2.2) = V x) → (∀ x, x < (M.1 i).2.2 → V x = g x) → ∀ x, x < (M.1 i).2.2 → f x = rotI g (M.1 i).2.2 sh x := fun {f g V} hf hg x hx => by
      have hm : (x + (M.1 i).2.2 - sh) % (M.1 i).2.2 < (M.1 i).2.2 := Nat.mod_lt _ (by omega)
      rw [rot_at (by omega) hx, ← hg _ hm, ← hf _ hm, mod_back hx h3]
    have hr : ∀ x, x < (M.1 i).2.2 → r'.1 x = rotI (M.1 i).1 (M.1 i).2.2 sh x ∧ r'.2.1 x = rotI (M.1 i).2.1 (M.1 i).2.2 sh x := fun x hx => ⟨el h7 (fun z hz => (X.1 i hi z hz).1) x hx, el h8 (fun z hz => (X.1 i hi z hz).2) x hx⟩
    refine ⟨⟨?_, ?_⟩, ?_, by rw [g5]; rfl⟩
    · rw [h5, g5]
      exact ((T.spR (a := r4) (show 3 ≤ 4 by omega)).th 0).row (h6.trans e)
    · rw [h5, g5]
      exact ((X.spR (a := r4) (show 3 ≤ 4 by omega)).th 0).row hr
    · rw [h2, g4, (hr 0 g1).2]
theorem A_sort {q q2 : Nat} (T : Tie S M) (X : XE S M) (hI : InvX S) (hi : i < 3) (hj : j < 4) (hqq : q ≤ q2) (hq2 : q2 ≤ (S.1 i).2.2) (hw : r = nI (cntB (fun k => decide ((S1.1 i).2.1 k ≠ (S.1 i).2.1 k)) (S.1 i).2.2) ∧ sortA S S1 i ∧ SP (S.2.1 j).2.2.1 ((S.1 i).1, (S.1 i).2.1) ((S1.1 i).1, (S1.1 i).2.1) q q2 ∧ srt (S.2.1 j).2.2.1 (S1.1 i).1 q q2) (hv : r2 = nI (difN (srtM M i j q q2).2 (M.1 i).2.1 q (q2 - q)) ∧ M1 = mR (thM M 0) i ((srtM M i j q q2).1, (srtM M i j q q2).2, (M.1 i).2.2)) : Ans2 r r2 S1 M1 := by
  have e := T.sz hi
  obtain ⟨w1, w2, w3, w4⟩ := hw
  have o1 := hI.1 i (by omega)
  have o2 : rowOK (S1.1 i) := w2.2.2.2.2.1
  have hn := o1.1
  have c1 : ∀ x, q ≤ x → x < q2 → (S.2.1 j).2.2.1 ((S.1 i).1 x) = cM M j ((S.1 i).1 x) := fun x _ hx => T.code hI hj (o1.2 x (by omega)).1
  have c2 : ∀ x, q ≤ x → x < q2 → (S.2.1 j).2.2.1 ((S1.1 i).1 x) = cM M j ((S1.1 i).1 x) := fun x _ hx => T.code hI hj (o2.2 x (by omega)).1
  have m1 := SP.cong (d := cM M j) w3 c1 c2
  have m2 := srt.cong (d := cM M j) w4 c2
  have hE : ∀ x, x < (M.1 i).2.2 → (S1.1 i).1 x = (srtM M i j q q2).1 x ∧ (S1.1 i).2.1 x = (srtM M i j q q2).2 x := SP.eq (N := (M.1 i).2.2) m1 m2 (rnd_SP (c := cM M j) (p := ((M.1 i).1, (M.1 i).2.1)) (f := q) (e := q2)) rnd_srt hqq (by omega) (fun x hx => X.1 i hi x hx)
  refine ⟨⟨?_, ?_, ?_⟩, ?_, by rw [hv.2]; rfl⟩
  · rw [hv.2]
    exact T.sortA w2 rfl hi
  · intro t ht x hx
    rw [hv.2] at hx ⊢
    by_cases e9 : t = i
    · subst e9
      rw [mR_row] at hx ⊢
      exact hE x hx
    · rw [mR_ne _ _ e9] at hx ⊢
      rw [w2.2.1 t e9 (by omega) (by omega)]
      exact X.1 t ht x hx
  · rw [hv.2, w2.1]
    exact X.2
  · rw [w1, hv.1]
    refine congrArg nI ?_
    have k1 : cntB (fun k => decide ((S1.1 i).2.1 k ≠ (S.1 i).2.1 k)) (S.1 i).2.2 = cntB (fun a => decide ((S1.1 i).2.1 (q + a) ≠ (S.1 i).2.1 (q + a))) (q2 - q) := cnt_seg (fun k hk hk2 => decide_eq_false (fun z => z (w3.1 k hk2).2)) hqq hq2
    rw [k1]
    unfold difN
    exact cntB_cong (fun a ha => by rw [(hE (q + a) (by omega)).2, (X.1 i hi (q + a) (by omega)).2])
theorem A_sort0 (T : Tie S M) (X : XE S M) (hI : InvX S) (hi : i < 3) (hj : j < 4) (hw : r = nI (cntB (fun k => decide ((S1.1 i).2.1 k ≠ (S.1 i).2.1 k)) (S.1 i).2.2) ∧ sortA S S1 i ∧ SP (S.2.1 j).2.2.1 ((S.1 i).1, (S.1 i).2.1) ((S1.1 i).1, (S1.1 i).2.1) 0 (S.1 i).2.2 ∧ srt (S.2.1 j).2.2.1 (S1.1 i).1 0 (S.1 i).2.2) (hv : r2 = nI (difN (srtM M i j 0 (M.1 i).2.2).2 (M.1 i).2.1 0 ((M.1 i).2.2 - 0)) ∧ M1 = mR (thM M 0) i ((srtM M i j 0 (M.1 i).2.2).1, (srtM M i j 0 (M.1 i).2.2).2, (M.1 i).2.2)) : Ans2 r r2 S1 M1 := by
  have e := T.sz hi
  obtain ⟨w1, w2, w3, w4⟩ := hw
  exact A_sort (q := 0) (q2 := (M.1 i).2.2) T X hI hi hj (Nat.zero_le _) (by omega) ⟨w1, w2, by rw [← e]; exact w3, by rw [← e]; exact w4⟩ hv
theorem cod_at (T : Tie S M) (X : XE S M) (hI : InvX S) (hi : i < 3) (hj : j < 4) {x : Nat} (hx : x < (M.1 i).2.2) : (S.2.1 j).2.2.1 ((S.1 i).1 x) = cM M j ((M.1 i).1 x) := by
  have e := T.sz hi
  have o := hI.1 i (by omega)
  have on := o.1
  rw [← (X.1 i hi x hx).1]
  exact T.code hI hj (o.2 x (by omega)).1
theorem rk_at (T : Tie S M) (X : XE S M) (hI : InvX S) (hi : i < 3) (hj : j < 4) {x : Nat} (hx : x < (M.1 i).2.2) : (S.2.1 j).2.2.2.1 ((S.1 i).1 x) = rankC (cM M j) ((M.1 i).1 x) := by
  have e := T.sz hi
  have o := hI.1 i (by omega)
  have on := o.1
  rw [← (X.1 i hi x hx).1]
  exact T.rank hI hj (o.2 x (by omega)).1
theorem A_isSorted (T : Tie S M) (X : XE S M) (hI : InvX S) (hi : i < 3) (hj : j < 4) (hw : r = bI (seqB (S.2.1 j).2.2.1 (S.1 i).1 (S.1 i).2.2) ∧ S1 = S) (hv : r2 = bI (seqB (cM M j) (M.1 i).1 (M.1 i).2.2) ∧ M1 = thM M 0) : Ans2 r r2 S1 M1 := by
  refine A2_eq ⟨T, X⟩ (congrArg bI ?_) hw hv
  rw [T.sz hi]
  exact seq_E (fun x hx => cod_at T X hI hi hj hx)
theorem A_valueAt {q : Nat} (T : Tie S M) (X : XE S M) (hi : i < 3) (hq : q < (S.1 i).2.2) (hw : r = nI ((S.1 i).1 q) ∧ S1 = S) (hv : r2 = nI ((M.1 i).1 q) ∧ M1 = thM M 0) : Ans2 r r2 S1 M1 := A2_eq ⟨T, X⟩ (congrArg nI (X.1 i hi q (by rw [← T.sz hi]; exact hq)).1) hw hv
theorem A_markAt {q : Nat} (T : Tie S M) (X : XE S M) (hi : i < 3) (hq : q < (S.1 i).2.2) (hw : r = nI ((S.1 i).2.1 q) ∧ S1 = S) (hv : r2 = nI ((M.1 i).2.1 q) ∧ M1 = thM M 0) : Ans2 r r2 S1 M1 := A2_eq ⟨T, X⟩ (congrArg nI (X.1 i hi q (by rw [← T.sz hi]; exact hq)).2) hw hv
theorem A_extreme {z : Bool} (T : Tie S M) (X : XE S M) (hI : InvX S) (hi : i < 3) (hj : j < 4) (hw : r = exI (if z then bestB (fun _ => true) (fun a b => decide ((S.2.1 j).2.2.1 ((S.1 i).1 b) < (S.2.1 j).2.2.1 ((S.1 i).1 a))) (S.1 i).2.2 else bestB (fun _ => true) (fun a b => decide ((S.2.1 j).2.2.1 ((S.1 i).1 a) < (S.2.1 j).2.2.1 ((S.1 i).1 b))) (S.1 i).2.2) (fun b => (S.2.1 j).2.2.2.1 ((S.1 i).1 b)) ∧ S1 = S) (hv : r2 = oI (exM (fun k => rankC (cM M j) ((M.1 i).1 k)) z (M.1 i).2.2) ∧ M1 = thM M 0) : Ans2 r r2 S1 M1 := by
  refine A2_eq ⟨T, X⟩ ?_ hw hv
  have e := T.sz hi
  have o := hI.1 i (by omega)
  have on := o.1
  rw [exI_oI, ← exM_E (R := fun k => (S.2.1 j).2.2.2.1 ((S.1 i).1 k)) (fun k hk => rk_at T X hI hi hj hk), e]
  refine congrArg oI ?_
  have cmp : ∀ a b, a < (M.1 i).2.2 → b < (M.1 i).2.2 → ((S.2.1 j).2.2.1 ((S.1 i).1 a) < (S.2.1 j).2.2.1 ((S.1 i).1 b) ↔ (S.2.1 j).2.2.2.1 ((S.1 i).1 a) < (S.2.1 j).2.2.2.1 ((S.1 i).1 b)) := fun a b ha hb => ord_iff (hI.2 j (by omega)) (o.2 a (by omega)).1 (o.2 b (by omega)).1
  cases z with
  | true =>
    rw [if_pos rfl]
    exact (ex_best (fun a b ha hb => decide_eq_decide.mpr (cmp b a hb ha))).symm
  | false =>
    rw [if_neg Bool.false_ne_true]
    exact (ex_best (fun a b ha hb => decide_eq_decide.mpr (cmp a b ha hb))).symm
theorem A_search {v : Nat} (T : Tie S M) (X : XE S M) (hI : InvX S) (hi : i < 3) (hj : j < 4) (hv16 : v < 16) (hw : (seqB (S.2.1 j).2.2.1 (S.1 i).1 (S.1 i).2.2 = false ∧ r = -9 ∧ S1 = refT S) ∨ (seqB (S.2.1 j).2.2.1 (S.1 i).1 (S.1 i).2.2 = true ∧ r = (if ∃ k, k < (S.1 i).2.2 ∧ (S.2.1 j).2.2.1 ((S.1 i).1 k) = (S.2.1 j).2.2.1 v then 16 else nI (cntB (fun k => decide ((S.2.1 j).2.2.1 ((S.1 i).1 k) < (S.2.1 j).2.2.1 v)) (S.1 i).2.2)) ∧ S1 = S)) (hv : (seqB (cM M j) (M.1 i).1 (M.1 i).2.2 = false ∧ r2 = -9 ∧ M1 = refM M) ∨ (seqB (cM M j) (M.1 i).1 (M.1 i).2.2 = true ∧ r2 = (if ∃ k, k < (M.1 i).2.2 ∧ (cM M j) ((M.1 i).1 k) = (cM M j) v then 16 else nI (cntB (fun k => decide ((cM M j) ((M.1 i).1 k) < (cM M j) v)) (M.1 i).2.2)) ∧ M1 = thM M 0)) : Ans2 r r2 S1 M1 := by
  have e := T.sz hi
  have hc : (S.2.1 j).2.2.1 v = cM M j v := T.code hI hj hv16
  have hs : seqB (S.2.1 j).2.2.1 (S.1 i).1 (S.1 i).2.2 = seqB (cM M j) (M.1 i).1 (M.1 i).2.2 := by
    rw [e]
    exact seq_E (fun x hx => cod_at T X hI hi hj hx)
  rcases hw with ⟨h1, h2, h3⟩ | ⟨h1, h2, h3⟩ <;> rcases hv with ⟨g1, g2, g3⟩ | ⟨g1, g2, g3⟩
  · rw [h2, g2, h3, g3]
    exact ⟨⟨T.ref, X.ref⟩, rfl, rfl⟩
  · rw [hs, g1] at h1
    cases h1
  · rw [hs, g1] at h1
    cases h1
  · rw [h2, g2, h3, g3]
    refine ⟨⟨T.th 0, X.th 0⟩, ?_, rfl⟩
    by_cases hE : ∃ k, k < (M.1 i).2.2 ∧ cM M j ((M.1 i).1 k) = cM M j v
    · have hE2 : ∃ k, k < (S.1 i).2.2 ∧ (S.2.1 j).2.2.1 ((S.1 i).1 k) = (S.2.1 j).2.2.1 v := by
        obtain ⟨k, hk, hk2⟩ := hE
        exact ⟨k, by omega, by rw [cod_at T X hI hi hj hk, hc]; exact hk2⟩
      rw [if_pos hE, if_pos hE2]
    · have hE2 : ¬ ∃ k, k < (S.1 i).2.2 ∧ (S.2.1 j).2.2.1 ((S.1 i).1 k) = (S.2.1 j).2.2.1 v := by
        intro h9
        obtain ⟨k, hk, hk2⟩ := h9
        exact hE ⟨k, by omega, by rw [← cod_at T X hI hi hj (show k < (M.1 i).2.2 by omega), ← hc]; exact hk2⟩
      rw [if_neg hE, if_neg hE2, e]
      exact congrArg nI (cntB_cong (fun k hk => by rw [cod_at T X hI hi hj hk, hc]))
theorem A_near {v : Nat} (T : Tie S M) (X : XE S M) (hI : InvX S) (hi : i < 3) (hj : j < 4) (hv16 : v < 16) (hw : r = exI (bestB (fun x => sideB k ((S.2.1 j).2.2.1 ((S.1 i).1 x)) ((S.2.1 j).2.2.1 v)) (fun a b => nearB k ((S.2.1 j).2.2.1 ((S.1 i).1 a)) ((S.2.1 j).2.2.1 ((S.1 i).1 b))) (S.1 i).2.2) (S.1 i).2.1 ∧ S1 = S) (hv : r2 = exI (bestB (fun x => sideB k ((cM M j) ((M.1 i).1 x)) ((cM M j) v)) (fun a b => nearB k ((cM M j) ((M.1 i).1 a)) ((cM M j) ((M.1 i).1 b))) (M.1 i).2.2) (M.1 i).2.1 ∧ M1 = thM M 0) : Ans2 r r2 S1 M1 := by
  have e := T.sz hi
  have hc : (S.2.1 j).2.2.1 v = cM M j v := T.code hI hj hv16
  refine A2_eq ⟨T, X⟩ ?_ hw hv
  rw [e, best_E (p2 := fun x => sideB k ((cM M j) ((M.1 i).1 x)) ((cM M j) v)) (lt2 := fun a b => nearB k ((cM M j) ((M.1 i).1 a)) ((cM M j) ((M.1 i).1 b))) (fun x hx => by rw [cod_at T X hI hi hj hx, hc]) (fun a b ha hb => by rw [cod_at T X hI hi hj ha, cod_at T X hI hi hj hb])]
  cases hb : bestB (fun x => sideB k ((cM M j) ((M.1 i).1 x)) ((cM M j) v)) (fun a b => nearB k ((cM M j) ((M.1 i).1 a)) ((cM M j) ((M.1 i).1 b))) (M.1 i).2.2 with
  | none => rfl
  | some b => exact congrArg nI (X.1 i hi b (bestB_lt hb).1).2
theorem A_kinds (T : Tie S M) (X : XE S M) (hI : InvX S) (hi : i < 3) (hj : j < 4) (hw : r = nI (cntB (firstB (S.2.1 j).2.2.1 (S.1 i).1) (S.1 i).2.2) ∧ S1 = S) (hv : r2 = nI (cntB (firstB (cM M j) (M.1 i).1) (M.1 i).2.2) ∧ M1 = thM M 0) : Ans2 r r2 S1 M1 := by
  refine A2_eq ⟨T, X⟩ (congrArg nI ?_) hw hv
  rw [T.sz hi]
  exact cntB_cong (fun k hk => first_E (fun x hx => cod_at T X hI hi hj hx) hk)
theorem A_ahead {v : Nat} (T : Tie S M) (X : XE S M) (hI : InvX S) (hi : i < 3) (hj : j < 4) (hv16 : v < 16) (hw : r = nI (cntB (fun k => firstB (S.2.1 j).2.2.1 (S.1 i).1 k && decide ((S.2.1 j).2.2.1 ((S.1 i).1 k) < (S.2.1 j).2.2.1 v)) (S.1 i).2.2) ∧ S1 = S) (hv : r2 = nI (cntB (fun k => firstB (cM M j) (M.1 i).1 k && decide ((cM M j) ((M.1 i).1 k) < (cM M j) v)) (M.1 i).2.2) ∧ M1 = thM M 0) : Ans2 r r2 S1 M1 := by
  have hc : (S.2.1 j).2.2.1 v = cM M j v := T.code hI hj hv16
  refine A2_eq ⟨T, X⟩ (congrArg nI ?_) hw hv
  rw [T.sz hi]
  exact cntB_cong (fun k hk => by rw [first_E (fun x hx => cod_at T X hI hi hj hx) hk, cod_at T X hI hi hj hk, hc])
theorem cnt_T (T : Tie S M) (X : XE S M) (hk : k < 5) : countX S k = houM M k := by
  rcases (show k = 0 ∨ k = 1 ∨ k = 2 ∨ k = 3 ∨ k = 4 by omega) with rfl | rfl | rfl | rfl | rfl
  · exact sumN_cong (fun a ha => T.sz ha)
  · exact sumN_cong (fun a ha => T.n ha)
  · exact T.pu
  · exact X.2
  · exact T.kn
theorem A_house (T : Tie S M) (X : XE S M) (hk : k ≤ 4) (hw : r = nI (countX S k) ∧ S1 = S) (hv : r2 = nI (houM M k) ∧ M1 = thM M 0) : Ans2 r r2 S1 M1 := A2_eq ⟨T, X⟩ (congrArg nI (cnt_T T X (by omega))) hw hv
theorem E_step {z : Bool} (T : Tie S M) (X : XE S M) (hj : j < 4) (hw : ((S.2.1 j).2.2.2.2.1 < 5 ∧ r = nI (coarseD (S.2.1 j) k z) ∧ S1 = xO S j (newO (va_up (S.2.1 j).1 (S.2.1 j).2.2.2.2.1 k) (va_up (S.2.1 j).2.1 (S.2.1 j).2.2.2.2.1 z) ((S.2.1 j).2.2.2.2.1 + 1) (S.2.1 j).2.2.1 (S.2.1 j).2.2.2.1)) ∨ (5 ≤ (S.2.1 j).2.2.2.2.1 ∧ r = -9 ∧ S1 = refT S)) (hv : ((M.2.1 j).2.2 < 5 ∧ r2 = nI (classC (cM M1 j)) ∧ M1 = mO (thM M 0) j (va_up (M.2.1 j).1 (M.2.1 j).2.2 k, va_up (M.2.1 j).2.1 (M.2.1 j).2.2 z, (M.2.1 j).2.2 + 1)) ∨ (5 ≤ (M.2.1 j).2.2 ∧ r2 = -9 ∧ M1 = refM M)) : XE S1 M1 := by
  have e := T.n hj
  rcases hw with ⟨h1, h2, h3⟩ | ⟨h1, h2, h3⟩ <;> rcases hv with ⟨g1, g2, g3⟩ | ⟨g1, g2, g3⟩
  · rw [h3, g3]; exact (X.th 0).ord
  · omega
  · omega
  · rw [h3, g3]; exact X.ref
theorem E_unstep (T : Tie S M) (X : XE S M) (hj : j < 4) (hw : ((S.2.1 j).2.2.2.2.1 ≠ 0 ∧ r = nI ((S.2.1 j).1 ((S.2.1 j).2.2.2.2.1 - 1)) ∧ S1 = xO S j (newO ((S.2.1 j).1) ((S.2.1 j).2.1) ((S.2.1 j).2.2.2.2.1 - 1) (S.2.1 j).2.2.1 (S.2.1 j).2.2.2.1)) ∨ ((S.2.1 j).2.2.2.2.1 = 0 ∧ r = -9 ∧ S1 = refT S)) (hv : ((M.2.1 j).2.2 ≠ 0 ∧ r2 = nI ((M.2.1 j).1 ((M.2.1 j).2.2 - 1)) ∧ M1 = mO (thM M 0) j ((M.2.1 j).1, (M.2.1 j).2.1, (M.2.1 j).2.2 - 1)) ∨ ((M.2.1 j).2.2 = 0 ∧ r2 = -9 ∧ M1 = refM M)) : XE S1 M1 := by
  have e := T.n hj
  rcases hw with ⟨h1, h2, h3⟩ | ⟨h1, h2, h3⟩ <;> rcases hv with ⟨g1, g2, g3⟩ | ⟨g1, g2, g3⟩
  · rw [h3, g3]; exact (X.th 0).ord
  · omega
  · omega
  · rw [h3, g3]; exact X.ref
theorem E_product {j2 j3 : Nat} (T : Tie S M) (X : XE S M) (hj : j < 4) (hj2 : j2 < 4) (hw : ((S.2.1 j).2.2.2.2.1 + (S.2.1 j2).2.2.2.2.1 ≤ 5 ∧ r = nI (copyO (S.2.1 j3) (prodO S j j2)).2.2.2.2.2 ∧ S1 = xO (xO S 4 (prodO S j j2)) j3 (copyO (S.2.1 j3) (prodO S j j2))) ∨ (5 < (S.2.1 j).2.2.2.2.1 + (S.2.1 j2).2.2.2.2.1 ∧ r = -9 ∧ S1 = refT S)) (hv : ((M.2.1 j).2.2 + (M.2.1 j2).2.2 ≤ 5 ∧ r2 = nI (classC (cM M1 j3)) ∧ M1 = mO (thM M 0) j3 (ovl (prK (M.2.1 j).1 (M.2.1 j2).1 (M.2.1 j).2.2) (M.2.1 j3).1 ((M.2.1 j).2.2 + (M.2.1 j2).2.2), ovl (prK (M.2.1 j).2.1 (M.2.1 j2).2.1 (M.2.1 j).2.2) (M.2.1 j3).2.1 ((M.2.1 j).2.2 + (M.2.1 j2).2.2), ((M.2.1 j).2.2 + (M.2.1 j2).2.2))) ∨ (5 < (M.2.1 j).2.2 + (M.2.1 j2).2.2 ∧ r2 = -9 ∧ M1 = refM M)) : XE S1 M1 := by
  have e1 := T.n hj
  have e2 := T.n hj2
  rcases hw with ⟨h1, h2, h3⟩ | ⟨h1, h2, h3⟩ <;> rcases hv with ⟨g1, g2, g3⟩ | ⟨g1, g2, g3⟩
  · rw [h3, g3]; exact ((X.spO (j := 4)).th 0).ord
  · omega
  · omega
  · rw [h3, g3]; exact X.ref
theorem E_tell {v v2 : Nat} (T : Tie S M) (X : XE S M) (T1 : Tie S1 M1) (hj : j < 4) (hw : (v ≠ v2 ∧ (S.2.1 j).2.2.1 v = (S.2.1 j).2.2.1 v2 ∧ (S.2.1 j).2.2.2.2.1 < 5 ∧ r = nI (coarse (coarseC (S.2.1 j)) (keyApart v v2) 8).2 ∧ ∃ o4, ordOK o4 ∧ S1 = xO (xO S 4 o4) j (newO (va_up (S.2.1 j).1 (S.2.1 j).2.2.2.2.1 (coarse (coarseC (S.2.1 j)) (keyApart v v2) 8).2) (va_up (S.2.1 j).2.1 (S.2.1 j).2.2.2.2.1 false) ((S.2.1 j).2.2.2.2.1 + 1) (S.2.1 j).2.2.1 (S.2.1 j).2.2.2.1)) ∨ ((v = v2 ∨ (S.2.1 j).2.2.1 v ≠ (S.2.1 j).2.2.1 v2 ∨ 5 ≤ (S.2.1 j).2.2.2.2.1) ∧ r = -9 ∧ S1 = refT S)) (hv : (v ≠ v2 ∧ cM M j v = cM M j v2 ∧ (M.2.1 j).2.2 < 5 ∧ r2 = nI (coarse (coaM M j) (keyApart v v2) 8).2 ∧ ∃ (K9 : Nat → Nat) (D9 : Nat → Bool), (∀ x, x < (M.2.1 j).2.2 → K9 x = (M.2.1 j).1 x ∧ D9 x = (M.2.1 j).2.1 x) ∧ (∀ x, x < 5 → K9 x < 8) ∧ M1 = mO (thM M 0) j (va_up K9 (M.2.1 j).2.2 (coarse (coaM M j) (keyApart v v2) 8).2, va_up D9 (M.2.1 j).2.2 false, (M.2.1 j).2.2 + 1)) ∨ ((v = v2 ∨ cM M j v ≠ cM M j v2 ∨ 5 ≤ (M.2.1 j).2.2) ∧ r2 = -9 ∧ M1 = refM M)) : XE S1 M1 := by
  have e := T.n hj
  rcases hw with ⟨h0, h1, h2, h3, o4, -, h4⟩ | ⟨h1, h2, h3⟩ <;> rcases hv with ⟨g0, g1, g2, g3, K9, D9, g4, -, g5⟩ | ⟨g1, g2, g3⟩
  · rw [h4, g5]; exact ((X.spO (j := 4)).th 0).ord
  · have h9 := T1.n hj
    rw [h4, g3, xO_ord] at h9
    have h9 : (S.2.1 j).2.2.2.2.1 + 1 = (M.2.1 j).2.2 := h9
    omega
  · have h9 := T1.n hj
    rw [h3, g5, mO_ord] at h9
    have h9 : (S.2.1 j).2.2.2.2.1 = (M.2.1 j).2.2 + 1 := h9
    omega
  · rw [h3, g3]; exact X.ref
end TIE2
/-! the digest -/
theorem iter_E {f g : Nat → Int64 → Int64} : ∀ {n : Nat}, (∀ k, k < n → ∀ d, f k d = g k d) → ∀ d, iterL f n d = iterL g n d
  | 0, _, _ => rfl
  | n + 1, h, d => by rw [iterL_s, iterL_s, iter_E (fun k hk => h k (by omega)) d, h n (by omega)]
theorem dig_T {S : XS} {M : MS} (T : Tie S M) (X : XE S M) (hI : InvX S) : mixI (mixSeqs S (mixPairs S (mixOrders S (mixRows S (iterL (fun k d => mixI d (countX S k)) 5 (lN 7842)))))) (bN true) = digM M := by
  have e1 : iterL (fun k d => mixI d (countX S k)) 5 (lN 7842) = mx1 M := iter_E (fun k hk d => by rw [cnt_T T X hk]) _
  have e2 : mixRows S (mx1 M) = mx2 M := iter_E (fun i hi d => by
    unfold mixRow mxRow
    rw [T.sz hi]
    exact iter_E (fun k hk d => by rw [(X.1 i hi k hk).1, (X.1 i hi k hk).2]) _) _
  have e3 : mixOrders S (mx2 M) = mx3 M := iter_E (fun j hj d => by
    unfold mixOrd mxOrd
    rw [T.clas hI hj, T.n hj]
    have h1 : iterL (fun k d => mixI (mixI d ((S.2.1 j).1 k)) (bN ((S.2.1 j).2.1 k))) (M.2.1 j).2.2 (mixI d (M.2.1 j).2.2) = iterL (fun k d => mixI (mixI d ((M.2.1 j).1 k)) (bN ((M.2.1 j).2.1 k))) (M.2.1 j).2.2 (mixI d (M.2.1 j).2.2) := iter_E (fun k hk d => by rw [((T.or hj).2 k hk).1, ((T.or hj).2 k hk).2]) _
    rw [h1]
    exact iter_E (fun v hv d => by rw [T.rank hI hj hv]) _) _
  have e4 : mixPairs S (mx3 M) = mx4 M := iter_E (fun a ha d => iter_E (fun b hb d => by
    unfold mixPair mxPair
    rw [apart_eq (fun _ h => T.code hI ha h) (fun _ h => T.code hI hb h), finerB_cong (fun _ h => T.code hI ha h) (fun _ h => T.code hI hb h)]) _) _
  have e5 : mixSeqs S (mx4 M) = mx5 M := iter_E (fun i hi d => iter_E (fun j hj d => by
    unfold mixSeq mxSeq
    rw [T.sz hi, seq_E (fun x hx => cod_at T X hI hi hj hx), cntB_cong (fun k hk => first_E (fun x hx => cod_at T X hI hi hj hx) hk)]) _) _
  rw [e1, e2, e3, e4, e5]
  rfl
theorem Tie2_0 : Tie2 S00 M00 := ⟨Tie_0, fun _ _ _ h => absurd h (Nat.not_lt_zero _), rfl⟩

