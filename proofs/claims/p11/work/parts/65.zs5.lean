/-! rows as lists; what the auditor looks at always holds -/
def rl (r : RowS) : List (Nat × Nat) := sg r.1 r.2.1 0 r.2.2
def Pw (c : Nat → Nat) (l : List (Nat × Nat)) : Prop := List.Pairwise (fun a b : Nat × Nat => c a.1 ≤ c b.1) l
/-- l2 is l in sequence by c, alike ones as they stood -/
def Srt (c : Nat → Nat) (l l2 : List (Nat × Nat)) : Prop := (∀ t, kf c t l2 = kf c t l) ∧ Pw c l2
def L16 (l : List (Nat × Nat)) : Prop := ∀ q, q ∈ l → q.1 < 16
theorem sg_len (V K : Nat → Nat) (f n : Nat) : (sg V K f n).length = n := by
  unfold sg
  rw [List.length_map, List.length_range]
theorem rl_len (r : RowS) : (rl r).length = r.2.2 := sg_len _ _ _ _
theorem rl_get {r : RowS} {x : Nat} (h : x < r.2.2) : (rl r)[x]? = some (r.1 x, r.2.1 x) := by
  have e := sg_get (V := r.1) (K := r.2.1) (f := 0) h
  rw [Nat.zero_add] at e
  exact e
theorem rl_mem {r : RowS} {q : Nat × Nat} (h : q ∈ rl r) : ∃ x, x < r.2.2 ∧ q = (r.1 x, r.2.1 x) := by
  obtain ⟨x, _, h2, h3⟩ := sg_mem h
  exact ⟨x, by omega, h3⟩
theorem rl_in {r : RowS} {x : Nat} (h : x < r.2.2) : (r.1 x, r.2.1 x) ∈ rl r := List.mem_of_getElem? (rl_get h)
theorem rl_16 {r : RowS} (h : rowOK r) : L16 (rl r) := fun q hq => by
  obtain ⟨x, hx, rfl⟩ := rl_mem hq
  have hn := h.1
  exact (h.2 x (by omega)).1
theorem rl_eq {r s : RowS} (h : rl r = rl s) : r.2.2 = s.2.2 ∧ ∀ x, x < r.2.2 → r.2.1 x = s.2.1 x ∧ r.1 x = s.1 x := by
  have hn : r.2.2 = s.2.2 := by rw [← rl_len r, h, rl_len]
  refine ⟨hn, fun x hx => ?_⟩
  have e := rl_get hx
  rw [h, rl_get (by omega)] at e
  have e2 := Option.some.inj e
  exact ⟨(congrArg Prod.snd e2).symm, (congrArg Prod.fst e2).symm⟩
theorem rl_ovl {f g V K : Nat → Nat} {n : Nat} : rl (ovl f V n, ovl g K n, n) = sg f g 0 n := sg_cong (fun x _ hx => by
  have hx : x < 0 + n := hx
  exact ⟨ovl_in (by omega), ovl_in (by omega)⟩)
theorem rl_rev {V K : Nat → Nat} {n : Nat} : rl (rev V n n, rev K n n, n) = (sg V K 0 n).reverse := by
  apply List.ext_getElem?
  intro x
  by_cases hx : x < n
  · rw [rl_get hx, List.getElem?_reverse (by rw [sg_len]; exact hx), sg_len, sg_get (show n - 1 - x < n by omega), Nat.zero_add]
    have e : ∀ f : Nat → Nat, rev f n n x = f (n - 1 - x) := fun f => if_pos ⟨hx, Or.inl hx⟩
    show some (rev V n n x, rev K n n x) = _
    rw [e, e]
  · rw [List.getElem?_eq_none (by rw [rl_len]; exact Nat.le_of_not_lt hx), List.getElem?_eq_none (by rw [List.length_reverse, sg_len]; exact Nat.le_of_not_lt hx)]
theorem rl_rem {V K : Nat → Nat} {n q : Nat} (hq : q < n) : rl (shl V q (n - 1), shl K q (n - 1), n - 1) = (sg V K 0 n).eraseIdx q := by
  apply List.ext_getElem?
  intro x
  rw [List.getElem?_eraseIdx]
  by_cases hx : x < n - 1
  · rw [rl_get hx]
    show some (shl V q (n - 1) x, shl K q (n - 1) x) = _
    by_cases e : x < q
    · have g : ∀ f : Nat → Nat, shl f q (n - 1) x = f x := fun f => if_neg (by omega)
      rw [if_pos e, sg_get (show x < n by omega), Nat.zero_add, g, g]
    · have g : ∀ f : Nat → Nat, shl f q (n - 1) x = f (x + 1) := fun f => if_pos (by omega)
      rw [if_neg e, sg_get (show x + 1 < n by omega), Nat.zero_add, g, g]
  · have e0 : (rl (shl V q (n - 1), shl K q (n - 1), n - 1))[x]? = none := List.getElem?_eq_none (by rw [rl_len]; exact Nat.le_of_not_lt hx)
    rw [e0, if_neg (show ¬ x < q by omega), List.getElem?_eq_none (by rw [sg_len]; omega)]
/-! keys in lists -/
theorem kf_rev (c : Nat → Nat) (t : Nat) (l : List (Nat × Nat)) : kf c t l.reverse = (kf c t l).reverse := by
  unfold kf
  rw [List.filter_reverse]
theorem Srt.eq {c : Nat → Nat} {l l2 l3 : List (Nat × Nat)} (h : Srt c l l2) (h2 : Srt c l l3) : l2 = l3 := uniqL l2 l3 (fun t => (h.1 t).trans (h2.1 t).symm) h.2 h2.2
theorem Srt.mem {c : Nat → Nat} {l l2 : List (Nat × Nat)} (h : Srt c l l2) {q : Nat × Nat} : q ∈ l2 ↔ q ∈ l := by
  constructor
  · intro hq
    have := (kf_mem (c := c) (t := c q.1)).mpr ⟨hq, rfl⟩
    rw [h.1] at this
    exact (kf_mem.mp this).1
  · intro hq
    have := (kf_mem (c := c) (t := c q.1)).mpr ⟨hq, rfl⟩
    rw [← h.1] at this
    exact (kf_mem.mp this).1
theorem Srt.l16 {c : Nat → Nat} {l l2 : List (Nat × Nat)} (h : Srt c l l2) (h2 : L16 l) : L16 l2 := fun q hq => h2 q (h.mem.mp hq)
theorem Srt.again {c : Nat → Nat} {l l2 : List (Nat × Nat)} (h : Srt c l l2) : Srt c l2 l2 := ⟨fun _ => rfl, h.2⟩
theorem Pw.cong {c d : Nat → Nat} {l : List (Nat × Nat)} (h : Pw c l) (hl : L16 l) (e : ∀ v, v < 16 → c v = d v) : Pw d l := List.Pairwise.imp_of_mem (fun {a b} ha hb h9 => by rw [← e a.1 (hl a ha), ← e b.1 (hl b hb)]; exact h9) h
theorem Srt.cong {c d : Nat → Nat} {l l2 : List (Nat × Nat)} (h : Srt c l l2) (hl : L16 l) (e : ∀ v, v < 16 → c v = d v) : Srt d l l2 :=
  ⟨fun t => by
    rw [← kf_cong (c := c) (d := d) (t := t) (l := l2) (fun z hz => e _ (h.l16 hl z hz)), ← kf_cong (c := c) (d := d) (t := t) (l := l) (fun z hz => e _ (hl z hz))]
    exact h.1 t, h.2.cong (h.l16 hl) e⟩
/-- from what the sorter brings about -/
theorem Srt.of {c : Nat → Nat} {r s : RowS} (hn : s.2.2 = r.2.2) (h : SP c (r.1, r.2.1) (s.1, s.2.1) 0 r.2.2) (h2 : srt c s.1 0 r.2.2) : Srt c (rl r) (rl s) := by
  refine ⟨fun t => ?_, ?_⟩
  · have := h.2 t
    rw [Nat.sub_zero] at this
    unfold rl
    rw [hn]
    exact this
  · unfold rl Pw
    rw [hn]
    exact srt_pw (by rw [Nat.zero_add]; exact h2)
/-! turned orders -/
theorem dig_not {k v : Nat} {d : Bool} (hv : v < 16) : digK k (!d) v + digK k d v = 15 := by
  have h := numK_lt (k := k) hv
  unfold digK
  cases d with
  | true => rw [if_neg (by decide), if_pos rfl]; omega
  | false => rw [if_pos (by decide), if_neg (by decide)]; omega
theorem code_not {K : Nat → Nat} {D : Nat → Bool} {v : Nat} (hv : v < 16) : ∀ n, codeOf K (fun k => !D k) n v + codeOf K D n v + 1 = 16 ^ n
  | 0 => rfl
  | n + 1 => by
    have ih := code_not (K := K) (D := D) hv n
    have h := dig_not (k := K n) (d := D n) hv
    rw [Nat.pow_succ, ← ih]
    show (codeOf K (fun k => !D k) n v * 16 + digK (K n) (!D n) v) + (codeOf K D n v * 16 + digK (K n) (D n) v) + 1 = _
    omega
/-- a row turned, sorted, turned: sorted by the turned order -/
theorem turned_srt {c d : Nat → Nat} {w : Nat} {l l2 : List (Nat × Nat)} (h : Srt c l.reverse l2) (hl : L16 l) (e : ∀ v, v < 16 → d v + c v + 1 = w) : Srt d l l2.reverse := by
  have h16 : L16 l2 := h.l16 (fun q hq => hl q (List.mem_reverse.mp hq))
  refine ⟨fun t => ?_, ?_⟩
  · by_cases ht : t + 1 ≤ w
    · have key : ∀ l9 : List (Nat × Nat), L16 l9 → kf d t l9 = kf c (w - 1 - t) l9 := fun l9 => by
        induction l9 with
        | nil => intro _; rfl
        | cons z l9 ih =>
          intro hz
          have i1 := ih (fun y hy => hz y (List.mem_cons_of_mem _ hy))
          have z16 := e z.1 (hz z List.mem_cons_self)
          by_cases e1 : d z.1 = t
          · rw [kf_t e1, kf_t (show c z.1 = w - 1 - t by omega), i1]
          · rw [kf_f e1, kf_f (show c z.1 ≠ w - 1 - t by omega), i1]
      rw [key _ (fun q hq => h16 q (List.mem_reverse.mp hq)), key _ hl, kf_rev, h.1, kf_rev, List.reverse_reverse]
    · have no : ∀ l9 : List (Nat × Nat), L16 l9 → kf d t l9 = [] := fun l9 h9 => kf_none (fun q hq => by have := e q.1 (h9 q hq); omega)
      rw [no _ (fun q hq => h16 q (List.mem_reverse.mp hq)), no _ hl]
  · unfold Pw
    rw [List.pairwise_reverse]
    exact List.Pairwise.imp_of_mem (fun {a b} ha hb h9 => by have h1 := e a.1 (h16 a ha); have h2 := e b.1 (h16 b hb); omega) h.2
/-! products -/
theorem code_app2 {K K2 : Nat → Nat} {D D2 : Nat → Bool} {n v : Nat} : ∀ m, codeOf (fun k => if k < n then K k else K2 (k - n)) (fun k => if k < n then D k else D2 (k - n)) (n + m) v = codeOf K D n v * 16 ^ m + codeOf K2 D2 m v
  | 0 => by
    show codeOf _ _ n v = codeOf K D n v * 1 + 0
    rw [Nat.mul_one, Nat.add_zero]
    exact codeOf_cong (fun k hk => ⟨if_pos hk, if_pos hk⟩)
  | m + 1 => by
    have ih := code_app2 (K := K) (K2 := K2) (D := D) (D2 := D2) (n := n) (v := v) m
    show codeOf _ _ (n + m) v * 16 + digK (if n + m < n then K (n + m) else K2 (n + m - n)) (if n + m < n then D (n + m) else D2 (n + m - n)) v = codeOf K D n v * 16 ^ (m + 1) + (codeOf K2 D2 m v * 16 + digK (K2 m) (D2 m) v)
    rw [ih, if_neg (by omega), if_neg (by omega), Nat.add_sub_cancel_left, Nat.pow_succ, Nat.add_mul, Nat.mul_assoc, Nat.add_assoc]
theorem pw_kf {d c : Nat → Nat} : ∀ {l : List (Nat × Nat)}, (∀ t, Pw c (kf d t l)) → List.Pairwise (fun a b : Nat × Nat => d a.1 = d b.1 → c a.1 ≤ c b.1) l
  | [], _ => List.Pairwise.nil
  | a :: l, h => by
    refine List.pairwise_cons.mpr ⟨fun b hb e => ?_, pw_kf (fun t => ?_)⟩
    · have h1 := h (d a.1)
      rw [kf_t rfl] at h1
      exact (List.pairwise_cons.mp h1).1 b (kf_mem.mpr ⟨hb, e.symm⟩)
    · have h1 := h t
      by_cases e : d a.1 = t
      · rw [kf_t e] at h1
        exact (List.pairwise_cons.mp h1).2
      · rw [kf_f e] at h1
        exact h1
theorem kf_kf (c d : Nat → Nat) (t u : Nat) (l : List (Nat × Nat)) : kf c t (kf d u l) = kf d u (kf c t l) := by
  unfold kf
  rw [List.filter_filter, List.filter_filter]
  refine List.filter_congr (fun x _ => ?_)
  rw [Bool.and_comm]
theorem Pw.kf {c d : Nat → Nat} {l : List (Nat × Nat)} (h : Pw c l) (t : Nat) : Pw c (kf d t l) := List.Pairwise.filter _ h
/-- sorted by c, then by d: sorted by d and c -/
theorem prod_srt {c d p : Nat → Nat} {w : Nat} {l l1 l2 : List (Nat × Nat)} (h1 : Srt c l l1) (h2 : Srt d l1 l2) (hl : L16 l) (hc : ∀ v, v < 16 → c v < w) (e : ∀ v, v < 16 → p v = d v * w + c v) : Srt p l l2 := by
  have hl1 := h1.l16 hl
  have hl2 := h2.l16 hl1
  have hw : 0 < w := Nat.lt_of_le_of_lt (Nat.zero_le _) (hc 0 (by decide))
  have key : ∀ (t : Nat) (l9 : List (Nat × Nat)), L16 l9 → kf p t l9 = kf c (t % w) (kf d (t / w) l9) := fun t l9 => by
    induction l9 with
    | nil => intro _; rfl
    | cons z l9 ih =>
      intro hz
      have i1 := ih (fun y hy => hz y (List.mem_cons_of_mem _ hy))
      have z1 := e z.1 (hz z List.mem_cons_self)
      have z2 := hc z.1 (hz z List.mem_cons_self)
      have hd : p z.1 / w = d z.1 := by rw [z1, Nat.mul_comm, Nat.mul_add_div hw, Nat.div_eq_of_lt z2, Nat.add_zero]
      have hm : p z.1 % w = c z.1 := by rw [z1, Nat.mul_comm, Nat.mul_add_mod, Nat.mod_eq_of_lt z2]
      by_cases e1 : p z.1 = t
      · rw [kf_t e1, kf_t (show d z.1 = t / w by rw [← e1, hd]), kf_t (show c z.1 = t % w by rw [← e1, hm]), i1]
      · rw [kf_f e1]
        by_cases e2 : d z.1 = t / w
        · have e3 : c z.1 ≠ t % w := fun q => e1 (by rw [z1, e2, q, Nat.mul_comm]; exact Nat.div_add_mod t w)
          rw [kf_t e2, kf_f e3, i1]
        · rw [kf_f e2, i1]
  refine ⟨fun t => ?_, ?_⟩
  · rw [key t l2 hl2, key t l hl, h2.1, kf_kf, h1.1, kf_kf]
  · have a := pw_kf (d := d) (c := c) (l := l2) (fun t => by rw [h2.1]; exact h1.2.kf t)
    have b := h2.2
    unfold Pw at b ⊢
    refine List.Pairwise.imp_of_mem (fun {x y} hx hy h9 => ?_) (List.Pairwise.and a b)
    rw [e x.1 (hl2 x hx), e y.1 (hl2 y hy)]
    have c1 := hc x.1 (hl2 x hx)
    rcases Nat.lt_or_eq_of_le h9.2 with h8 | h8
    · have h7 : (d x.1 + 1) * w ≤ d y.1 * w := Nat.mul_le_mul_right w h8
      rw [Nat.add_mul, Nat.one_mul] at h7
      omega
    · rw [h8]
      exact Nat.add_le_add_left (h9.1 h8) _
/-! ranks and classes -/
theorem cnt_one {p p2 : Nat → Bool} {a : Nat} (h1 : p a = false) (h2 : p2 a = true) (h : ∀ k, k ≠ a → p2 k = p k) : ∀ m, a < m → cntB p2 m = cntB p m + 1
  | 0, h3 => absurd h3 (Nat.not_lt_zero _)
  | m + 1, h3 => by
    by_cases e : a = m
    · subst e
      rw [cntB_t h2, cntB_f h1, cntB_cong (fun k hk => h k (by omega))]
    · have ih := cnt_one h1 h2 h m (by omega)
      rw [cntB, cntB, ih, h m (fun z => e z.symm)]
      omega
theorem img_cnt {R : Nat → Nat} {m : Nat} : ∀ n, (∀ v, v < n → R v < m) → cntB (fun k => decide (∃ v, v < n ∧ R v = k)) m = cntB (headB R) n
  | 0, _ => cntB_none (fun k _ => decide_eq_false (fun z => by obtain ⟨v, h, _⟩ := z; exact absurd h (Nat.not_lt_zero _)))
  | n + 1, h => by
    have ih := img_cnt (R := R) (m := m) n (fun v hv => h v (by omega))
    by_cases e : headB R n = true
    · have e2 : ∀ k, k < n → R k ≠ R n := of_decide_eq_true e
      rw [cntB_t e, ← ih]
      refine cnt_one (a := R n) (decide_eq_false (fun z => ?_)) (decide_eq_true ⟨n, Nat.lt_succ_self n, rfl⟩) (fun k hk => decide_eq_decide.mpr ⟨fun z => ?_, fun z => ?_⟩) m (h n (Nat.lt_succ_self n))
      · obtain ⟨v, h1, h2⟩ := z
        exact e2 v h1 h2
      · obtain ⟨v, h1, h2⟩ := z
        by_cases e3 : v = n
        · subst e3; exact absurd h2.symm hk
        · exact ⟨v, by omega, h2⟩
      · obtain ⟨v, h1, h2⟩ := z
        exact ⟨v, by omega, h2⟩
    · have e1 : headB R n = false := Bool.eq_false_iff.mpr e
      have e2 : ∃ k, k < n ∧ R k = R n := Classical.byContradiction (fun z => e (decide_eq_true (fun k hk w => z ⟨k, hk, w⟩)))
      rw [cntB_f e1, ← ih]
      refine cntB_cong (fun k _ => decide_eq_decide.mpr ⟨fun z => ?_, fun z => ?_⟩)
      · obtain ⟨v, h1, h2⟩ := z
        by_cases e3 : v = n
        · obtain ⟨u, h3, h4⟩ := e2
          exact ⟨u, h3, by rw [h4, ← e3]; exact h2⟩
        · exact ⟨v, by omega, h2⟩
      · obtain ⟨v, h1, h2⟩ := z
        exact ⟨v, by omega, h2⟩
theorem rank_all {o : OrdS} (h : ordOK o) : cntB (rankSome o.2.2.2.1) 16 = o.2.2.2.2.2 := by
  rw [h.2.2.2]
  have h1 : cntB (rankSome o.2.2.2.1) 16 = cntB (headB o.2.2.2.1) 16 := img_cnt 16 (fun v hv => by
    rw [h.2.2.1 v hv]
    exact Nat.lt_of_lt_of_le (rank_class _ hv) (classC_le _))
  rw [h1]
  refine cntB_cong (fun k hk => decide_eq_decide.mpr ⟨fun z q hq w => ?_, fun z q hq w => ?_⟩)
  · refine z q hq ?_
    rw [h.2.2.1 q (by omega), h.2.2.1 k hk]
    unfold rankC
    rw [w]
  · have a1 := rank_iff (c := codeOf o.1 o.2.1 o.2.2.2.2.1) (v := q) (u := k) (by omega) hk
    have a2 := rank_iff (c := codeOf o.1 o.2.1 o.2.2.2.2.1) (v := k) (u := q) hk (by omega)
    rw [h.2.2.1 q (by omega), h.2.2.1 k hk] at w
    have b1 : ¬ codeOf o.1 o.2.1 o.2.2.2.2.1 q < codeOf o.1 o.2.1 o.2.2.2.2.1 k := fun y => by have := a1.mp y; omega
    have b2 : ¬ codeOf o.1 o.2.1 o.2.2.2.2.1 k < codeOf o.1 o.2.1 o.2.2.2.2.1 q := fun y => by have := a2.mp y; omega
    exact z q hq (by omega)
theorem rank_eq {o : OrdS} (h : ordOK o) {v u : Nat} (hv : v < 16) (hu : u < 16) (e : o.2.2.1 v = o.2.2.1 u) : o.2.2.2.1 v = o.2.2.2.1 u := by
  have a1 := ord_iff h hv hu
  have a2 := ord_iff h hu hv
  have b1 : ¬ o.2.2.2.1 v < o.2.2.2.1 u := fun y => by have := a1.mpr y; omega
  have b2 : ¬ o.2.2.2.1 u < o.2.2.2.1 v := fun y => by have := a2.mpr y; omega
  omega
/-! refining -/
theorem finer_alike {c d : Nat → Nat} (h : finerB c d = true) {a b : Nat} (ha : a < 16) (hb : b < 16) (e : c a = c b) : d a = d b := by
  have h1 : ∀ a, a < 16 → ∀ b, b < 16 → d a < d b → c a < c b := of_decide_eq_true h
  have b1 : ¬ d a < d b := fun y => by have := h1 a ha b hb y; omega
  have b2 : ¬ d b < d a := fun y => by have := h1 b hb a ha y; omega
  omega
theorem finer_cls {o o2 : OrdS} (h : ordOK o) (h2 : ordOK o2) (f : finerB o.2.2.1 o2.2.2.1 = true) : o2.2.2.2.2.2 ≤ o.2.2.2.2.2 := by
  rw [h.2.2.2, h2.2.2.2]
  refine cntB_mono (fun k hk hh => decide_eq_true (fun q hq w => ?_))
  have hh : ∀ q, q < k → codeOf o2.1 o2.2.1 o2.2.2.2.2.1 q ≠ codeOf o2.1 o2.2.1 o2.2.2.2.2.1 k := of_decide_eq_true hh
  refine hh q hq ?_
  rw [← h2.2.1 q (by omega), ← h2.2.1 k hk]
  exact finer_alike f (by omega) hk (by rw [h.2.1 q (by omega), h.2.1 k hk]; exact w)
def l00 : List (Nat × Nat) := sg (fun k => k) (fun k => k) 0 16
theorem l00_in {v : Nat} (h : v < 16) : (v, v) ∈ l00 := by
  have := List.mem_of_getElem? (sg_get (V := fun k => k) (K := fun k => k) (f := 0) h)
  rw [Nat.zero_add] at this
  exact this
theorem l00_16 : L16 l00 := fun q hq => by
  obtain ⟨x, _, h2, rfl⟩ := sg_mem hq
  show x < 16
  omega
/-- the values sorted by c: in sequence by d too, and alike ones alike, just if d is refined by c -/
theorem finer_sort {c d : Nat → Nat} {r : RowS} (hn : r.2.2 = 16) (h : Srt c l00 (rl r)) : finerB c d = (seqB d r.1 r.2.2 && alikeB c d) := by
  have h16 := h.l16 l00_16
  have hv : ∀ x, x < 16 → r.1 x < 16 := fun x hx => h16 _ (rl_in (by omega))
  have hs : ∀ x y, x < y → y < 16 → c (r.1 x) ≤ c (r.1 y) := fun x y h1 h2 => by
    have hp := h.2
    unfold Pw rl at hp
    rw [hn] at hp
    exact srt_of (K := r.2.1) hp x y (Nat.zero_le _) h1 (by omega)
  by_cases f : finerB c d = true
  · have f1 : ∀ a, a < 16 → ∀ b, b < 16 → d a < d b → c a < c b := of_decide_eq_true f
    have s1 : seqB d r.1 r.2.2 = true := decide_eq_true (fun q hq => Nat.le_of_not_lt (fun w => by
      rw [hn] at hq
      have := f1 _ (hv (q + 1) (by omega)) _ (hv q (by omega)) w
      have := hs q (q + 1) (Nat.lt_succ_self _) (by omega)
      omega))
    have s2 : alikeB c d = true := decide_eq_true (fun a ha b hb _ e => finer_alike f ha hb e)
    rw [f, s1, s2]
    rfl
  · have f0 : finerB c d = false := Bool.eq_false_iff.mpr f
    rw [f0]
    by_cases s2 : alikeB c d = true
    · have s2' : ∀ a, a < 16 → ∀ b, b < 16 → a < b → c a = c b → d a = d b := of_decide_eq_true s2
      by_cases s1 : seqB d r.1 r.2.2 = true
      · exfalso
        have s1' : ∀ q, q < r.2.2 - 1 → d (r.1 q) ≤ d (r.1 (q + 1)) := of_decide_eq_true s1
        rw [hn] at s1'
        have mono : ∀ k x, x + k < 16 → d (r.1 x) ≤ d (r.1 (x + k)) := fun k => by
          induction k with
          | zero => intro x _; exact Nat.le_refl _
          | succ k ih =>
            intro x hx
            exact Nat.le_trans (ih x (by omega)) (s1' (x + k) (by omega))
        refine f (decide_eq_true (fun a ha b hb hd => ?_))
        rcases Nat.lt_trichotomy (c a) (c b) with e | e | e
        · exact e
        · exfalso
          rcases Nat.lt_trichotomy a b with w | w | w
          · have := s2' a ha b hb w e; omega
          · subst w; omega
          · have := s2' b hb a ha w e.symm; omega
        · exfalso
          obtain ⟨x, hx, ex⟩ := rl_mem (h.mem.mpr (l00_in ha))
          obtain ⟨y, hy, ey⟩ := rl_mem (h.mem.mpr (l00_in hb))
          have ea : a = r.1 x := congrArg Prod.fst ex
          have eb : b = r.1 y := congrArg Prod.fst ey
          have hxy : y < x := by
            rcases Nat.lt_trichotomy x y with w | w | w
            · have := hs x y w (by omega)
              rw [← ea, ← eb] at this
              omega
            · subst w; rw [ea, eb] at e; omega
            · exact w
          have := mono (x - y) y (by omega)
          rw [show y + (x - y) = x by omega, ← ea, ← eb] at this
          omega
      · rw [Bool.eq_false_iff.mpr s1]
        rfl
    · rw [Bool.eq_false_iff.mpr s2, Bool.and_false]
/-- a product refines its first -/
theorem finer_prod {p c d : Nat → Nat} {w : Nat} (e : ∀ v, v < 16 → p v = c v * w + d v) (hd : ∀ v, v < 16 → d v < w) : finerB p c = true := decide_eq_true (fun a ha b hb h => by
  rw [e a ha, e b hb]
  have c1 := hd a ha
  have h7 : (c a + 1) * w ≤ c b * w := Nat.mul_le_mul_right w h
  rw [Nat.add_mul, Nat.one_mul] at h7
  omega)
/-! the first of the least, again and again -/
theorem best_min {c : Nat → Nat} : ∀ {n b : Nat}, bestB (fun _ => true) (fun x y => decide (c x < c y)) n = some b → (∀ x, x < n → c b ≤ c x) ∧ ∀ x, x < b → c b < c x
  | 0, b, h => by cases h
  | n + 1, b, h => by
    cases hb : bestB (fun _ => true) (fun x y => decide (c x < c y)) n with
    | none =>
      have h0 : n = 0 := by
        rcases Nat.eq_zero_or_pos n with w | w
        · exact w
        · obtain ⟨b9, h9⟩ := bestB_some (lt := fun x y => decide (c x < c y)) w
          rw [hb] at h9
          cases h9
      rw [bestB_first rfl hb] at h
      cases h
      exact ⟨fun x hx => by rw [show x = n by omega]; exact Nat.le_refl _, fun x hx => by omega⟩
    | some b1 =>
      obtain ⟨i1, i2⟩ := best_min hb
      have hb1 := (bestB_lt hb).1
      by_cases e : decide (c n < c b1) = true
      · rw [bestB_new rfl hb e] at h
        cases h
        have e := of_decide_eq_true e
        refine ⟨fun x hx => ?_, fun x hx => Nat.lt_of_lt_of_le e (i1 x hx)⟩
        by_cases w : x = n
        · rw [w]; exact Nat.le_refl _
        · exact Nat.le_of_lt (Nat.lt_of_lt_of_le e (i1 x (by omega)))
      · have e2 := Bool.eq_false_iff.mpr e
        rw [bestB_old rfl hb e2] at h
        cases h
        have e3 : ¬ c n < c b := fun w => e (decide_eq_true w)
        refine ⟨fun x hx => ?_, i2⟩
        by_cases w : x = n
        · rw [w]; omega
        · exact i1 x (by omega)
theorem take_drop_at {l : List (Nat × Nat)} {q : Nat} {a : Nat × Nat} (h : l[q]? = some a) : l = l.take q ++ a :: l.drop (q + 1) := by
  obtain ⟨h1, h2⟩ := List.getElem?_eq_some_iff.mp h
  rw [← h2, List.getElem_cons_drop, List.take_append_drop]
theorem mem_take {l : List (Nat × Nat)} {q : Nat} {z : Nat × Nat} (h : z ∈ l.take q) : ∃ x, x < q ∧ l[x]? = some z := by
  obtain ⟨x, hx⟩ := List.mem_iff_getElem?.mp h
  rw [List.getElem?_take] at hx
  split at hx
  · exact ⟨x, by assumption, hx⟩
  · cases hx
/-- one round of the queue: the first of the least is like the next in sequence; without both the rest is the same -/
theorem queue_step {c : Nat → Nat} {r : RowS} {l : List (Nat × Nat)} {q b : Nat} {a : Nat × Nat} (hl : Pw c l) (hq : l[q]? = some a) (hk : ∀ t, kf c t (rl r) = kf c t (l.drop q)) (hb : bestB (fun _ => true) (fun x y => decide (c (r.1 x) < c (r.1 y))) r.2.2 = some b) : c (r.1 b) = c a.1 ∧ ∀ t, kf c t ((rl r).eraseIdx b) = kf c t (l.drop (q + 1)) := by
  have hbn := (bestB_lt hb).1
  obtain ⟨m1, m2⟩ := best_min (c := fun x => c (r.1 x)) hb
  have hd : l.drop q = a :: l.drop (q + 1) := by
    obtain ⟨h1, h2⟩ := List.getElem?_eq_some_iff.mp hq
    rw [← h2, List.getElem_cons_drop]
  have e : c (r.1 b) = c a.1 := by
    refine Nat.le_antisymm ?_ ?_
    · have h1 : a ∈ kf c (c a.1) (l.drop q) := kf_mem.mpr ⟨by rw [hd]; exact List.mem_cons_self, rfl⟩
      rw [← hk] at h1
      obtain ⟨x, hx, rfl⟩ := rl_mem (kf_mem.mp h1).1
      exact m1 x hx
    · have h1 : (r.1 b, r.2.1 b) ∈ kf c (c (r.1 b)) (rl r) := kf_mem.mpr ⟨rl_in hbn, rfl⟩
      rw [hk] at h1
      have h2 := (kf_mem.mp h1).1
      have h3 : Pw c (l.drop q) := List.Pairwise.drop hl
      rw [hd] at h2 h3
      rcases List.mem_cons.mp h2 with h4 | h4
      · rw [← h4]; exact Nat.le_refl _
      · exact (List.pairwise_cons.mp h3).1 _ h4
  refine ⟨e, fun t => ?_⟩
  have hs := take_drop_at (rl_get hbn)
  have he : (rl r).eraseIdx b = (rl r).take b ++ (rl r).drop (b + 1) := List.eraseIdx_eq_take_drop_succ ..
  have h1 := hk t
  rw [hs, kf_app, hd] at h1
  rw [he, kf_app]
  by_cases ht : c a.1 = t
  · have h0 : kf c t ((rl r).take b) = [] := kf_none (fun z hz w => by
      obtain ⟨x, hx, hx2⟩ := mem_take hz
      rw [rl_get (by omega)] at hx2
      have h9 := m2 x hx
      have h8 := Option.some.inj hx2
      have h7 : r.1 x = z.1 := congrArg Prod.fst h8
      have h9 : c (r.1 b) < c (r.1 x) := h9
      rw [h7] at h9
      omega)
    rw [h0, List.nil_append, kf_t (show c (r.1 b, r.2.1 b).1 = t by rw [← ht]; exact e), kf_t ht] at h1
    rw [h0, List.nil_append]
    exact (List.cons.inj h1).2
  · rw [kf_f (show c (r.1 b, r.2.1 b).1 ≠ t by intro w; exact ht (e.symm.trans w)), kf_f ht] at h1
    exact h1
/-! what a call of the auditor leaves, as lists -/
def FR (S S1 : XS) (i : Nat) (l : List (Nat × Nat)) : Prop := rl (S1.1 i) = l ∧ (∀ k, k ≠ i → S1.1 k = S.1 k) ∧ S1.2 = S.2
def FS (S S1 : XS) (i j : Nat) : Prop := Srt (S.2.1 j).2.2.1 (rl (S.1 i)) (rl (S1.1 i)) ∧ (∀ k, k ≠ i → k ≠ 5 → S1.1 k = S.1 k) ∧ S1.2 = S.2
/-- only the order made has changed: its codes are f -/
def FO (S S1 : XS) (P : (Nat → Nat) → Prop) : Prop := S1.1 = S.1 ∧ (∀ k, k ≠ 5 → S1.2.1 k = S.2.1 k) ∧ P (S1.2.1 5).2.2.1
theorem FR.row {S S1 : XS} {i : Nat} {r : RowS} (hw : S1 = xR S i r) : FR S S1 i (rl r) := by
  rw [hw]
  exact ⟨by rw [xR_row], fun k hk => xR_ne _ _ hk, rfl⟩
theorem FR.copy {S S1 : XS} {i t : Nat} (hw : S1 = xR S i (ovl (S.1 t).1 (S.1 i).1 (S.1 t).2.2, ovl (S.1 t).2.1 (S.1 i).2.1 (S.1 t).2.2, (S.1 t).2.2)) : FR S S1 i (rl (S.1 t)) := by
  have h := FR.row hw
  rw [rl_ovl] at h
  exact h
theorem FR.rev {S S1 : XS} {i : Nat} (hw : S1 = xR S i (rev (S.1 i).1 (S.1 i).2.2 (S.1 i).2.2, rev (S.1 i).2.1 (S.1 i).2.2 (S.1 i).2.2, (S.1 i).2.2)) : FR S S1 i (rl (S.1 i)).reverse := by
  have h := FR.row hw
  rw [rl_rev] at h
  exact h
theorem FR.all {S S1 : XS} {i : Nat} (hw : S1 = xR S i (ovl (fun k => k) (S.1 i).1 16, ovl (fun k => k) (S.1 i).2.1 16, 16)) : FR S S1 i l00 := by
  have h := FR.row hw
  rw [rl_ovl] at h
  exact h
theorem FR.rem {S S1 : XS} {i q : Nat} (hw : S1 = xR S i (shl (S.1 i).1 q ((S.1 i).2.2 - 1), shl (S.1 i).2.1 q ((S.1 i).2.2 - 1), (S.1 i).2.2 - 1)) (hq : q < (S.1 i).2.2) : FR S S1 i ((rl (S.1 i)).eraseIdx q) := by
  have h := FR.row hw
  rw [rl_rem hq] at h
  exact h
theorem FS.arr {S S1 : XS} {i j : Nat} (h : keepR S S1 i (3 + 2 * 1)) (h2 : SP (S.2.1 j).2.2.1 ((S.1 i).1, (S.1 i).2.1) ((S1.1 i).1, (S1.1 i).2.1) 0 (S.1 i).2.2) (h3 : srt (S.2.1 j).2.2.1 (S1.1 i).1 0 (S.1 i).2.2) : FS S S1 i j := ⟨Srt.of h.2.2.2.2 h2 h3, fun k a b => h.2.1 k a b, h.1⟩
theorem FS.ins {S S1 : XS} {i j : Nat} {r : RowS} (hw : S1 = xR S i r) (hn : r.2.2 = (S.1 i).2.2) (h2 : SP (S.2.1 j).2.2.1 ((S.1 i).1, (S.1 i).2.1) (r.1, r.2.1) 0 (S.1 i).2.2) (h3 : srt (S.2.1 j).2.2.1 r.1 0 (S.1 i).2.2) : FS S S1 i j := by
  rw [hw]
  exact ⟨by rw [xR_row]; exact Srt.of hn h2 h3, fun k a _ => xR_ne _ _ a, rfl⟩
theorem ord_code {o : OrdS} (h : ordOK o) {K : Nat → Nat} {D : Nat → Bool} {n : Nat} (hn : o.2.2.2.2.1 = n) (e : ∀ k, k < n → o.1 k = K k ∧ o.2.1 k = D k) : ∀ v, v < 16 → o.2.2.1 v = codeOf K D n v := fun v hv => by
  rw [h.2.1 v hv, hn]
  exact codeOf_cong e
theorem FO.mk {S S1 : XS} {o : OrdS} {P : (Nat → Nat) → Prop} (hw : S1 = xO S 5 o) (hP : S1.2.1 5 = o → P (S1.2.1 5).2.2.1) : FO S S1 P := ⟨by rw [hw]; rfl, fun k hk => by rw [hw]; exact xO_ne _ _ hk, hP (by rw [hw]; exact xO_ord _ _ _)⟩
theorem FO.copy {S S1 : XS} {t : Nat} (hw : S1 = xO S 5 (newO (apn (S.2.1 5).1 (S.2.1 t).1 0 (S.2.1 t).2.2.2.2.1) (apn (S.2.1 5).2.1 (S.2.1 t).2.1 0 (S.2.1 t).2.2.2.2.1) (S.2.1 t).2.2.2.2.1 (S.2.1 5).2.2.1 (S.2.1 5).2.2.2.1)) (h5 : ordOK (S1.2.1 5)) (ht : ordOK (S.2.1 t)) : FO S S1 (fun c => ∀ v, v < 16 → c v = (S.2.1 t).2.2.1 v) := by
  refine FO.mk hw (fun e5 v hv => ?_)
  rw [ht.2.1 v hv]
  have hn : (S1.2.1 5).2.2.2.2.1 = (S.2.1 t).2.2.2.2.1 := (congrArg (fun o : OrdS => o.2.2.2.2.1) e5).trans rfl
  have hK : (S1.2.1 5).1 = apn (S.2.1 5).1 (S.2.1 t).1 0 (S.2.1 t).2.2.2.2.1 := (congrArg (fun o : OrdS => o.1) e5).trans rfl
  have hD : (S1.2.1 5).2.1 = apn (S.2.1 5).2.1 (S.2.1 t).2.1 0 (S.2.1 t).2.2.2.2.1 := (congrArg (fun o : OrdS => o.2.1) e5).trans rfl
  refine ord_code h5 hn (fun k hk => ?_) v hv
  have g : ∀ {α : Type} (f h : Nat → α), apn f h 0 (S.2.1 t).2.2.2.2.1 k = h k := fun f h => if_pos ⟨Nat.zero_le _, by omega⟩
  rw [hK, hD, g, g]
  exact ⟨rfl, rfl⟩
theorem FO.rev {S S1 : XS} (hw : S1 = xO S 5 (newO (S.2.1 5).1 (ovl (fun k => !(S.2.1 5).2.1 k) (S.2.1 5).2.1 (S.2.1 5).2.2.2.2.1) (S.2.1 5).2.2.2.2.1 (S.2.1 5).2.2.1 (S.2.1 5).2.2.2.1)) (h5 : ordOK (S1.2.1 5)) (h : ordOK (S.2.1 5)) : FO S S1 (fun c => ∀ v, v < 16 → c v + (S.2.1 5).2.2.1 v + 1 = 16 ^ (S.2.1 5).2.2.2.2.1) := by
  refine FO.mk hw (fun e5 v hv => ?_)
  have hn : (S1.2.1 5).2.2.2.2.1 = (S.2.1 5).2.2.2.2.1 := (congrArg (fun o : OrdS => o.2.2.2.2.1) e5).trans rfl
  have hK : (S1.2.1 5).1 = (S.2.1 5).1 := (congrArg (fun o : OrdS => o.1) e5).trans rfl
  have hD : (S1.2.1 5).2.1 = ovl (fun k => !(S.2.1 5).2.1 k) (S.2.1 5).2.1 (S.2.1 5).2.2.2.2.1 := (congrArg (fun o : OrdS => o.2.1) e5).trans rfl
  have e := ord_code h5 (K := (S.2.1 5).1) (D := fun k => !(S.2.1 5).2.1 k) hn (fun k hk => by rw [hK, hD, ovl_in hk]; exact ⟨rfl, rfl⟩) v hv
  rw [e, h.2.1 v hv]
  exact code_not hv _
theorem FO.prod {S S1 : XS} {i t : Nat} (hw : S1 = xO S 5 (newO (apn (apn ((S.2.1 5).1) ((S.2.1 i).1) 0 ((S.2.1 i).2.2.2.2.1)) (S.2.1 t).1 (S.2.1 i).2.2.2.2.1 (S.2.1 t).2.2.2.2.1) (apn (apn ((S.2.1 5).2.1) ((S.2.1 i).2.1) 0 ((S.2.1 i).2.2.2.2.1)) (S.2.1 t).2.1 (S.2.1 i).2.2.2.2.1 (S.2.1 t).2.2.2.2.1) ((S.2.1 i).2.2.2.2.1 + (S.2.1 t).2.2.2.2.1) (S.2.1 5).2.2.1 (S.2.1 5).2.2.2.1)) (h5 : ordOK (S1.2.1 5)) (hi : ordOK (S.2.1 i)) (ht : ordOK (S.2.1 t)) : FO S S1 (fun c => ∀ v, v < 16 → c v = (S.2.1 i).2.2.1 v * 16 ^ (S.2.1 t).2.2.2.2.1 + (S.2.1 t).2.2.1 v) := by
  refine FO.mk hw (fun e5 v hv => ?_)
  have hn : (S1.2.1 5).2.2.2.2.1 = (S.2.1 i).2.2.2.2.1 + (S.2.1 t).2.2.2.2.1 := (congrArg (fun o : OrdS => o.2.2.2.2.1) e5).trans rfl
  have hK : (S1.2.1 5).1 = apn (apn ((S.2.1 5).1) ((S.2.1 i).1) 0 ((S.2.1 i).2.2.2.2.1)) (S.2.1 t).1 (S.2.1 i).2.2.2.2.1 (S.2.1 t).2.2.2.2.1 := (congrArg (fun o : OrdS => o.1) e5).trans rfl
  have hD : (S1.2.1 5).2.1 = apn (apn ((S.2.1 5).2.1) ((S.2.1 i).2.1) 0 ((S.2.1 i).2.2.2.2.1)) (S.2.1 t).2.1 (S.2.1 i).2.2.2.2.1 (S.2.1 t).2.2.2.2.1 := (congrArg (fun o : OrdS => o.2.1) e5).trans rfl
  rw [hi.2.1 v hv, ht.2.1 v hv, ← code_app2]
  refine ord_code h5 hn (fun k hk => ?_) v hv
  have g : ∀ {α : Type} (f a b : Nat → α), apn (apn f a 0 (S.2.1 i).2.2.2.2.1) b (S.2.1 i).2.2.2.2.1 (S.2.1 t).2.2.2.2.1 k = if k < (S.2.1 i).2.2.2.2.1 then a k else b (k - (S.2.1 i).2.2.2.2.1) := fun f a b => by
    by_cases e : k < (S.2.1 i).2.2.2.2.1
    · rw [if_pos e]
      have e1 : apn (apn f a 0 (S.2.1 i).2.2.2.2.1) b (S.2.1 i).2.2.2.2.1 (S.2.1 t).2.2.2.2.1 k = apn f a 0 (S.2.1 i).2.2.2.2.1 k := if_neg (by omega)
      have e2 : apn f a 0 (S.2.1 i).2.2.2.2.1 k = a k := if_pos ⟨Nat.zero_le _, by omega⟩
      rw [e1, e2]
    · rw [if_neg e]
      exact if_pos ⟨by omega, by omega⟩
  rw [hK, hD]
  exact ⟨g _ _ _, g _ _ _⟩
theorem code_lt {o : OrdS} (h : ordOK o) : ∀ v, v < 16 → o.2.2.1 v < 16 ^ o.2.2.2.2.1 := fun v hv => by
  rw [h.2.1 v hv]
  exact codeOf_lt _ _ hv _
theorem like_ok {r s : RowS} (h : rl r = rl s) : decide (r.2.2 = s.2.2 ∧ ∀ k, k < r.2.2 → r.2.1 k = s.2.1 k ∧ r.1 k = s.1 k) = true := decide_eq_true (rl_eq h)
theorem seq_ok {c : Nat → Nat} {r : RowS} (h : Pw c (rl r)) : seqB c r.1 r.2.2 = true := decide_eq_true (fun q hq => by
  have h9 := srt_of (V := r.1) (K := r.2.1) (f := 0) (m := r.2.2) h
  exact h9 q (q + 1) (Nat.zero_le _) (Nat.lt_succ_self q) (by omega))
section AUD
variable {S S1 S2 S3 S4 S5 S6 S7 S8 : XS} {i j t : Nat}
theorem stays_ok (F1 : FR S S1 6 (rl (S.1 i))) (F2 : FS S1 S2 6 j) (F3 : FR S2 S3 7 (rl (S2.1 6))) (F4 : FS S3 S4 7 j) : Pw (S4.2.1 j).2.2.1 (rl (S4.1 6)) ∧ rl (S4.1 6) = rl (S4.1 7) := by
  have e6 : S4.1 6 = S2.1 6 := (F4.2.1 6 (by decide) (by decide)).trans (F3.2.1 6 (by decide))
  have a := F4.1
  rw [F3.1, F3.2.2] at a
  rw [e6, F4.2.2, F3.2.2]
  have b := F2.1
  rw [← F2.2.2] at b
  exact ⟨b.2, (b.again.eq a)⟩
theorem prod_ok (hi : i < 5) (hI : rowOK (S.1 i)) (hj : ordOK (S.2.1 j)) (F1 : FR S S1 6 (rl (S.1 i))) (F2 : FS S1 S2 6 j) (F3 : FS S2 S3 6 t) (F4 : FO S3 S4 (fun c => ∀ v, v < 16 → c v = (S3.2.1 t).2.2.1 v * 16 ^ (S3.2.1 j).2.2.2.2.1 + (S3.2.1 j).2.2.1 v)) (F5 : FR S4 S5 7 (rl (S4.1 i))) (F6 : FS S5 S6 7 5) : rl (S6.1 6) = rl (S6.1 7) := by
  have e6 : S6.1 6 = S3.1 6 := ((F6.2.1 6 (by decide) (by decide)).trans (F5.2.1 6 (by decide))).trans (congrFun F4.1 6)
  have ei : S4.1 i = S.1 i := (((congrFun F4.1 i).trans (F3.2.1 i (by omega) (by omega))).trans (F2.2.1 i (by omega) (by omega))).trans (F1.2.1 i (by omega))
  have a1 := F2.1
  rw [F1.1, F1.2.2] at a1
  have a2 := F3.1
  rw [F2.2.2, F1.2.2] at a2
  have a4 := F4.2.2
  rw [F3.2.2, F2.2.2, F1.2.2] at a4
  have a6 := F6.1
  rw [F5.1, ei, F5.2.2] at a6
  rw [e6]
  exact (prod_srt a1 a2 (rl_16 hI) (code_lt hj) a4).eq a6
theorem turn_ok (hi : i < 5) (hj : j < 5) (hI : rowOK (S.1 i)) (F1 : FR S S1 6 (rl (S.1 i))) (F2 : FR S1 S2 6 (rl (S1.1 6)).reverse) (F3 : FS S2 S3 6 j) (F4 : FR S3 S4 6 (rl (S3.1 6)).reverse) (F5 : FO S4 S5 (fun c => ∀ v, v < 16 → c v = (S4.2.1 j).2.2.1 v)) (F6 : FO S5 S6 (fun c => ∀ v, v < 16 → c v + (S5.2.1 5).2.2.1 v + 1 = 16 ^ (S5.2.1 5).2.2.2.2.1)) (F7 : FR S6 S7 7 (rl (S6.1 i))) (F8 : FS S7 S8 7 5) : rl (S8.1 6) = rl (S8.1 7) := by
  have e6 : S8.1 6 = S4.1 6 := (((F8.2.1 6 (by decide) (by decide)).trans (F7.2.1 6 (by decide))).trans (congrFun F6.1 6)).trans (congrFun F5.1 6)
  have ei : S6.1 i = S.1 i := (((((congrFun F6.1 i).trans (congrFun F5.1 i)).trans (F4.2.1 i (by omega))).trans (F3.2.1 i (by omega) (by omega))).trans (F2.2.1 i (by omega))).trans (F1.2.1 i (by omega))
  have a3 := F3.1
  rw [F2.1, F1.1, F2.2.2, F1.2.2] at a3
  have a5 := F5.2.2
  rw [F4.2.2, F3.2.2, F2.2.2, F1.2.2] at a5
  have a6 := F6.2.2
  have a8 := F8.1
  rw [F7.1, ei, F7.2.2] at a8
  rw [e6, F4.1]
  exact (turned_srt (d := (S6.2.1 5).2.2.1) (w := 16 ^ (S5.2.1 5).2.2.2.2.1) a3 (rl_16 hI) (fun v hv => by have h1 := a6 v hv; have h2 := a5 v hv; omega)).eq a8
theorem way_ok {l : List (Nat × Nat)} (hL : Srt (S2.2.1 j).2.2.1 l (rl (S2.1 6))) (F3 : FR S2 S3 7 l) (F4 : FS S3 S4 7 j) : rl (S4.1 6) = rl (S4.1 7) ∧ Srt (S4.2.1 j).2.2.1 l (rl (S4.1 6)) := by
  have e6 : S4.1 6 = S2.1 6 := (F4.2.1 6 (by decide) (by decide)).trans (F3.2.1 6 (by decide))
  have a := F4.1
  rw [F3.1, F3.2.2] at a
  rw [e6, F4.2.2, F3.2.2]
  exact ⟨hL.eq a, hL⟩
theorem queue_ok {q b : Nat} (hL : Pw (S1.2.1 j).2.2.1 (rl (S1.1 6))) (hR : ∀ u, kf (S1.2.1 j).2.2.1 u (rl (S1.1 7)) = kf (S1.2.1 j).2.2.1 u ((rl (S1.1 6)).drop q)) (hq : q < (S1.1 6).2.2) (hb : bestB (fun _ => true) (fun x y => decide ((S1.2.1 j).2.2.1 ((S1.1 7).1 x) < (S1.2.1 j).2.2.1 ((S1.1 7).1 y))) (S1.1 7).2.2 = some b) (ho : ordOK (S1.2.1 j)) (h6 : rowOK (S1.1 6)) (h7 : rowOK (S1.1 7)) : (S1.2.1 j).2.2.2.1 ((S1.1 7).1 b) = (S1.2.1 j).2.2.2.1 ((S1.1 6).1 q) ∧ ∀ u, kf (S1.2.1 j).2.2.1 u ((rl (S1.1 7)).eraseIdx b) = kf (S1.2.1 j).2.2.1 u ((rl (S1.1 6)).drop (q + 1)) := by
  have h := queue_step hL (rl_get hq) hR hb
  have hbn := (bestB_lt hb).1
  have n6 := h6.1
  have n7 := h7.1
  exact ⟨rank_eq ho (h7.2 b (by omega)).1 (h6.2 q (by omega)).1 h.1, h.2⟩
end AUD

