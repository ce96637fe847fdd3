section
/-! things in a stretch of places as a list; keys; what a stable sorting keeps -/
abbrev PQ : Type := (Nat → Nat) × (Nat → Nat)
def sg (V K : Nat → Nat) (f m : Nat) : List (Nat × Nat) := (List.range m).map (fun x => (V (f + x), K (f + x)))
def kf (c : Nat → Nat) (t : Nat) (l : List (Nat × Nat)) : List (Nat × Nat) := l.filter (fun q => decide (c q.1 = t))
theorem kf_app (c : Nat → Nat) (t : Nat) (a b : List (Nat × Nat)) : kf c t (a ++ b) = kf c t a ++ kf c t b := List.filter_append ..
theorem kf_nil (c : Nat → Nat) (t : Nat) : kf c t [] = [] := rfl
theorem kf_t {c : Nat → Nat} {t : Nat} {q : Nat × Nat} {l : List (Nat × Nat)} (h : c q.1 = t) : kf c t (q :: l) = q :: kf c t l := List.filter_cons_of_pos (decide_eq_true h)
theorem kf_f {c : Nat → Nat} {t : Nat} {q : Nat × Nat} {l : List (Nat × Nat)} (h : c q.1 ≠ t) : kf c t (q :: l) = kf c t l := List.filter_cons_of_neg (by rw [decide_eq_false h]; decide)
theorem kf_mem {c : Nat → Nat} {t : Nat} {q : Nat × Nat} {l : List (Nat × Nat)} : q ∈ kf c t l ↔ q ∈ l ∧ c q.1 = t := by
  unfold kf
  rw [List.mem_filter, decide_eq_true_iff]
theorem kf_none {c : Nat → Nat} {t : Nat} : ∀ {l : List (Nat × Nat)}, (∀ q, q ∈ l → c q.1 ≠ t) → kf c t l = []
  | [], _ => rfl
  | q :: l, h => by rw [kf_f (h q List.mem_cons_self), kf_none (fun x hx => h x (List.mem_cons_of_mem _ hx))]
theorem kf_cong {c d : Nat → Nat} {t : Nat} : ∀ {l : List (Nat × Nat)}, (∀ q, q ∈ l → c q.1 = d q.1) → kf c t l = kf d t l
  | [], _ => rfl
  | q :: l, h => by
    have ih := kf_cong (c := c) (d := d) (t := t) (l := l) (fun x hx => h x (List.mem_cons_of_mem _ hx))
    have h0 := h q List.mem_cons_self
    by_cases e : c q.1 = t
    · rw [kf_t e, kf_t (h0.symm.trans e), ih]
    · rw [kf_f e, kf_f (fun z => e (h0.trans z)), ih]
section SG
variable {V V2 K K2 : Nat → Nat} {f m : Nat}
theorem sg_0 : sg V K f 0 = [] := rfl
theorem sg_s : sg V K f (m + 1) = sg V K f m ++ [(V (f + m), K (f + m))] := by
  unfold sg
  rw [List.range_succ, List.map_append]
  rfl
theorem sg_1 : sg V K f 1 = [(V f, K f)] := rfl
theorem sg_add (a : Nat) : ∀ b, sg V K f (a + b) = sg V K f a ++ sg V K (f + a) b
  | 0 => by rw [sg_0, List.append_nil]; rfl
  | b + 1 => by
    show sg V K f ((a + b) + 1) = _
    rw [sg_s, sg_add a b, sg_s, List.append_assoc, Nat.add_assoc]
theorem sg_2 : sg V K f 2 = [(V f, K f), (V (f + 1), K (f + 1))] := rfl
theorem sg_cong (h : ∀ x, f ≤ x → x < f + m → V x = V2 x ∧ K x = K2 x) : sg V K f m = sg V2 K2 f m := by
  unfold sg
  refine List.map_congr_left (fun x hx => ?_)
  have h1 := List.mem_range.mp hx
  rw [(h (f + x) (by omega) (by omega)).1, (h (f + x) (by omega) (by omega)).2]
theorem sg_get {x : Nat} (h : x < m) : (sg V K f m)[x]? = some (V (f + x), K (f + x)) := by
  unfold sg
  rw [List.getElem?_map, List.getElem?_range h]
  rfl
theorem sg_inj (h : sg V K f m = sg V2 K2 f m) {x : Nat} (h1 : f ≤ x) (h2 : x < f + m) : V x = V2 x ∧ K x = K2 x := by
  have e := congrArg (fun l : List (Nat × Nat) => l[x - f]?) h
  rw [sg_get (by omega), sg_get (by omega), show f + (x - f) = x by omega] at e
  have e2 := Option.some.inj e
  exact ⟨congrArg Prod.fst e2, congrArg Prod.snd e2⟩
theorem sg_mem {q : Nat × Nat} (h : q ∈ sg V K f m) : ∃ x, f ≤ x ∧ x < f + m ∧ q = (V x, K x) := by
  unfold sg at h
  obtain ⟨x, hx, rfl⟩ := List.mem_map.mp h
  have h1 := List.mem_range.mp hx
  exact ⟨f + x, by omega, by omega, rfl⟩
end SG
/-- two lists in sequence, of each key the same things in the same sequence: they are the same -/
theorem uniqL {c : Nat → Nat} : ∀ (l l2 : List (Nat × Nat)), (∀ t, kf c t l = kf c t l2) → List.Pairwise (fun a b : Nat × Nat => c a.1 ≤ c b.1) l → List.Pairwise (fun a b : Nat × Nat => c a.1 ≤ c b.1) l2 → l = l2
  | [], [], _, _, _ => rfl
  | [], b :: r, h, _, _ => by
    have h1 := h (c b.1)
    rw [kf_t rfl, kf_nil] at h1
    cases h1
  | a :: r, [], h, _, _ => by
    have h1 := h (c a.1)
    rw [kf_t rfl, kf_nil] at h1
    cases h1
  | a :: r, b :: r2, h, s1, s2 => by
    have e : c a.1 = c b.1 := by
      have ha : a ∈ kf c (c a.1) (a :: r) := kf_mem.mpr ⟨List.mem_cons_self, rfl⟩
      have hb : b ∈ kf c (c b.1) (b :: r2) := kf_mem.mpr ⟨List.mem_cons_self, rfl⟩
      rw [h] at ha
      rw [← h] at hb
      have h1 : c b.1 ≤ c a.1 := (List.mem_cons.mp (kf_mem.mp ha).1).elim (fun e => by rw [e]; exact Nat.le_refl _) (fun hm => (List.pairwise_cons.mp s2).1 a hm)
      have h2 : c a.1 ≤ c b.1 := (List.mem_cons.mp (kf_mem.mp hb).1).elim (fun e => by rw [e]; exact Nat.le_refl _) (fun hm => (List.pairwise_cons.mp s1).1 b hm)
      omega
    have h0 := h (c a.1)
    rw [kf_t rfl, kf_t e.symm] at h0
    have h3 := (List.cons.inj h0).1
    have h4 := (List.cons.inj h0).2
    subst h3
    refine congrArg (fun z => a :: z) (uniqL r r2 (fun t => ?_) (List.pairwise_cons.mp s1).2 (List.pairwise_cons.mp s2).2)
    by_cases ht : c a.1 = t
    · subst ht; exact h4
    · have h5 := h t
      rw [kf_f ht, kf_f ht] at h5
      exact h5
/-- in sequence from f on, ahead of e -/
def srt (c V : Nat → Nat) (f e : Nat) : Prop := ∀ x y, f ≤ x → x < y → y < e → c (V x) ≤ c (V y)
theorem srt_pw {c V K : Nat → Nat} {f : Nat} : ∀ {m : Nat}, srt c V f (f + m) → List.Pairwise (fun a b : Nat × Nat => c a.1 ≤ c b.1) (sg V K f m)
  | 0, _ => List.Pairwise.nil
  | m + 1, h => by
    rw [sg_s, List.pairwise_append]
    refine ⟨srt_pw (fun x y h1 h2 h3 => h x y h1 h2 (by omega)), List.pairwise_singleton _ _, fun a ha b hb => ?_⟩
    obtain ⟨x, h1, h2, rfl⟩ := sg_mem ha
    rw [List.mem_singleton.mp hb]
    exact h x (f + m) h1 (by omega) (by omega)
/-- q is p, its things from f on ahead of e at other places, alike ones as they stood -/
def SP (c : Nat → Nat) (p q : PQ) (f e : Nat) : Prop := (∀ x, x < f ∨ e ≤ x → q.1 x = p.1 x ∧ q.2 x = p.2 x) ∧ ∀ t, kf c t (sg q.1 q.2 f (e - f)) = kf c t (sg p.1 p.2 f (e - f))
theorem SP.refl (c : Nat → Nat) (p : PQ) (f e : Nat) : SP c p p f e := ⟨fun _ _ => ⟨rfl, rfl⟩, fun _ => rfl⟩
theorem SP.trans {c : Nat → Nat} {p q r : PQ} {f e : Nat} (h : SP c p q f e) (h2 : SP c q r f e) : SP c p r f e := ⟨fun x hx => ⟨(h2.1 x hx).1.trans (h.1 x hx).1, (h2.1 x hx).2.trans (h.1 x hx).2⟩, fun t => (h2.2 t).trans (h.2 t)⟩
theorem xch_at {f : Nat → Nat} {a b x : Nat} : xch f a b x = if x = b then f a else if x = a then f b else f x := rfl
theorem xch_com (f : Nat → Nat) (a b : Nat) : xch f a b = xch f b a := by
  funext x
  rw [xch_at, xch_at]
  by_cases h1 : x = b
  · by_cases h2 : x = a
    · rw [if_pos h1, if_pos h2, ← h1, ← h2]
    · rw [if_pos h1, if_neg h2, if_pos h1]
  · by_cases h2 : x = a
    · rw [if_neg h1, if_pos h2, if_pos h2]
    · rw [if_neg h1, if_neg h2, if_neg h2, if_neg h1]
theorem kf_pair {c : Nat → Nat} {t : Nat} {a b : Nat × Nat} (h : c b.1 < c a.1) : kf c t [b, a] = kf c t [a, b] := by
  by_cases e1 : c a.1 = t
  · have e2 : c b.1 ≠ t := by omega
    rw [kf_f e2, kf_t e1, kf_t e1, kf_f e2]
  · by_cases e2 : c b.1 = t
    · rw [kf_t e2, kf_f e1, kf_f e1, kf_t e2]
    · rw [kf_f e2, kf_f e1, kf_f e1, kf_f e2]
/-- two neighbours change, the second one ahead of the first -/
theorem SP.swap {c : Nat → Nat} {p q : PQ} {f e k : Nat} (h : SP c p q f e) (h1 : f ≤ k) (h2 : k + 1 < e) (hc : c (q.1 (k + 1)) < c (q.1 k)) : SP c p (xch q.1 k (k + 1), xch q.2 k (k + 1)) f e := by
  refine ⟨fun x hx => ?_, fun t => ?_⟩
  · have e1 : x ≠ k + 1 := by omega
    have e2 : x ≠ k := by omega
    show xch q.1 k (k + 1) x = p.1 x ∧ xch q.2 k (k + 1) x = p.2 x
    rw [xch_at, xch_at, if_neg e1, if_neg e2, if_neg e1, if_neg e2]
    exact h.1 x hx
  · rw [← h.2 t, show e - f = (k - f) + (2 + (e - (k + 2))) by omega, sg_add, sg_add, sg_add (f := f), sg_add (f := f + (k - f)), show f + (k - f) = k by omega]
    have a1 : sg (xch q.1 k (k + 1)) (xch q.2 k (k + 1)) f (k - f) = sg q.1 q.2 f (k - f) := sg_cong (fun x h3 h4 => by
      rw [xch_at, xch_at, if_neg (by omega), if_neg (by omega), if_neg (by omega), if_neg (by omega)]; exact ⟨rfl, rfl⟩)
    have a3 : sg (xch q.1 k (k + 1)) (xch q.2 k (k + 1)) (k + 2) (e - (k + 2)) = sg q.1 q.2 (k + 2) (e - (k + 2)) := sg_cong (fun x h3 h4 => by
      rw [xch_at, xch_at, if_neg (by omega), if_neg (by omega), if_neg (by omega), if_neg (by omega)]; exact ⟨rfl, rfl⟩)
    have a2 : sg (xch q.1 k (k + 1)) (xch q.2 k (k + 1)) k 2 = [(q.1 (k + 1), q.2 (k + 1)), (q.1 k, q.2 k)] := by
      rw [sg_2, xch_at, xch_at, xch_at, xch_at, if_neg (show k ≠ k + 1 by omega), if_neg (show k ≠ k + 1 by omega), if_pos rfl, if_pos rfl, if_pos rfl, if_pos rfl]
    show kf c t (sg (xch q.1 k (k + 1)) (xch q.2 k (k + 1)) f (k - f) ++ (sg (xch q.1 k (k + 1)) (xch q.2 k (k + 1)) k 2 ++ sg (xch q.1 k (k + 1)) (xch q.2 k (k + 1)) (k + 2) (e - (k + 2)))) = _
    rw [a1, a2, a3, sg_2 (V := q.1), kf_app, kf_app, kf_app, kf_app, kf_pair hc]
theorem SP.cong {c d : Nat → Nat} {p q : PQ} {f e : Nat} (h : SP c p q f e) (hp : ∀ x, f ≤ x → x < e → c (p.1 x) = d (p.1 x)) (hq : ∀ x, f ≤ x → x < e → c (q.1 x) = d (q.1 x)) : SP d p q f e := by
  refine ⟨h.1, fun t => ?_⟩
  rw [← kf_cong (c := c) (d := d) (t := t) (l := sg q.1 q.2 f (e - f)) (fun z hz => by obtain ⟨x, h1, h2, rfl⟩ := sg_mem hz; exact hq x h1 (by omega)), ← kf_cong (c := c) (d := d) (t := t) (l := sg p.1 p.2 f (e - f)) (fun z hz => by obtain ⟨x, h1, h2, rfl⟩ := sg_mem hz; exact hp x h1 (by omega))]
  exact h.2 t
theorem srt.cong {c d V : Nat → Nat} {f e : Nat} (h : srt c V f e) (hq : ∀ x, f ≤ x → x < e → c (V x) = d (V x)) : srt d V f e := fun x y h1 h2 h3 => by
  rw [← hq x h1 (by omega), ← hq y (by omega) h3]
  exact h x y h1 h2 h3
/-- sorted twice, from the same: the same -/
theorem SP.eq {c : Nat → Nat} {p p2 q q2 : PQ} {f e N : Nat} (h1 : SP c p p2 f e) (s1 : srt c p2.1 f e) (h2 : SP c q q2 f e) (s2 : srt c q2.1 f e) (hfe : f ≤ e) (hN : e ≤ N) (hpq : ∀ x, x < N → p.1 x = q.1 x ∧ p.2 x = q.2 x) : ∀ x, x < N → p2.1 x = q2.1 x ∧ p2.2 x = q2.2 x := by
  intro x hx
  by_cases hi : f ≤ x ∧ x < e
  · have he : f + (e - f) = e := by omega
    refine sg_inj (f := f) (m := e - f) (uniqL (c := c) _ _ (fun t => ?_) (srt_pw (by rw [he]; exact s1)) (srt_pw (by rw [he]; exact s2))) hi.1 (by omega)
    rw [h1.2 t, h2.2 t, sg_cong (fun y h3 h4 => hpq y (by omega))]
  · have a := h1.1 x (by omega)
    have b := h2.1 x (by omega)
    rw [a.1, a.2, b.1, b.2]
    exact hpq x hx
/-! one thing put among those ahead of it -/
/-- [f, nx] in sequence but for place a, which is ahead of, or alike, those behind it -/
def srtB (c V : Nat → Nat) (f nx a : Nat) : Prop := (∀ x y, f ≤ x → x < y → y ≤ nx → x ≠ a → y ≠ a → c (V x) ≤ c (V y)) ∧ ∀ y, a < y → y ≤ nx → c (V a) ≤ c (V y)
theorem srtB.of {c V : Nat → Nat} {f nx : Nat} (h : srt c V f nx) : srtB c V f nx nx := ⟨fun x y h1 h2 h3 h4 h5 => h x y h1 h2 (by omega), fun y h1 h2 => by omega⟩
theorem srtB.swap {c V : Nat → Nat} {f nx a : Nat} (h : srtB c V f nx a) (h1 : f + 1 ≤ a) (h2 : a ≤ nx) (hc : c (V a) < c (V (a - 1))) : srtB c (xch V a (a - 1)) f nx (a - 1) := by
  have g : ∀ x, x ≠ a → x ≠ a - 1 → xch V a (a - 1) x = V x := fun x e1 e2 => by rw [xch_at, if_neg e2, if_neg e1]
  have g1 : xch V a (a - 1) (a - 1) = V a := by rw [xch_at, if_pos rfl]
  have g2 : xch V a (a - 1) a = V (a - 1) := by rw [xch_at, if_neg (by omega), if_pos rfl]
  refine ⟨fun x y h3 h4 h5 h6 h7 => ?_, fun y h3 h4 => ?_⟩
  · by_cases e1 : x = a
    · rw [e1, g2, g y (by omega) h7]; exact h.1 (a - 1) y (by omega) (by omega) h5 (by omega) (by omega)
    · by_cases e2 : y = a
      · rw [e2, g2, g x e1 h6]; exact h.1 x (a - 1) h3 (by omega) (by omega) e1 (by omega)
      · rw [g x e1 h6, g y e2 h7]; exact h.1 x y h3 h4 h5 e1 e2
  · rw [g1]
    by_cases e2 : y = a
    · rw [e2, g2]; exact Nat.le_of_lt hc
    · rw [g y e2 (by omega)]; exact h.2 y (by omega) h4
theorem srtB.done {c V : Nat → Nat} {f nx a : Nat} (h : srtB c V f nx a) (h1 : a ≤ f ∨ c (V (a - 1)) ≤ c (V a)) (h2 : f ≤ a) : srt c V f (nx + 1) := fun x y h3 h4 h5 => by
  by_cases e1 : x = a
  · rw [e1]; exact h.2 y (by omega) (by omega)
  · by_cases e2 : y = a
    · rcases h1 with h1 | h1
      · omega
      · by_cases e3 : x = a - 1
        · rw [e2, e3]; exact h1
        · rw [e2]; exact Nat.le_trans (h.1 x (a - 1) h3 (by omega) (by omega) e1 (by omega)) h1
    · exact h.1 x y h3 h4 (by omega) e1 e2
/-! two runs merged -/
/-- of the runs [lo, mi) and [mi, hi) of row p those ahead of a and of b stand in g, ahead of place q -/
def MG (c : Nat → Nat) (p g0 g : PQ) (lo mi hi a b q : Nat) : Prop := (∀ x, x < lo → g.1 x = g0.1 x ∧ g.2 x = g0.2 x) ∧ (∀ t, kf c t (sg g.1 g.2 lo (q - lo) ++ (sg p.1 p.2 a (mi - a) ++ sg p.1 p.2 b (hi - b))) = kf c t (sg p.1 p.2 lo (hi - lo))) ∧ srt c g.1 lo q ∧ ∀ x, lo ≤ x → x < q → (∀ y, a ≤ y → y < mi → c (g.1 x) ≤ c (p.1 y)) ∧ ∀ y, b ≤ y → y < hi → c (g.1 x) ≤ c (p.1 y)
theorem MG.start {c : Nat → Nat} {p g : PQ} {lo mi hi : Nat} (h1 : lo ≤ mi) (h2 : mi ≤ hi) : MG c p g g lo mi hi lo mi lo := by
  refine ⟨fun _ _ => ⟨rfl, rfl⟩, fun t => ?_, fun x y h3 h4 h5 => by omega, fun x h3 h4 => by omega⟩
  rw [show lo - lo = 0 by omega, sg_0, List.nil_append, show hi - lo = (mi - lo) + (hi - mi) by omega, sg_add, show lo + (mi - lo) = mi by omega]
theorem sg_up {V K : Nat → Nat} {lo q v u : Nat} (h : lo ≤ q) : sg (va_up V q v) (va_up K q u) lo (q + 1 - lo) = sg V K lo (q - lo) ++ [(v, u)] := by
  rw [show q + 1 - lo = (q - lo) + 1 by omega, sg_s, show lo + (q - lo) = q by omega, va_up_self, va_up_self]
  rw [sg_cong (fun x h1 h2 => ⟨va_up_ne _ _ (by omega), va_up_ne _ _ (by omega)⟩)]
theorem sg_hd {V K : Nat → Nat} {a m : Nat} (h : a < m) : sg V K a (m - a) = (V a, K a) :: sg V K (a + 1) (m - (a + 1)) := by
  rw [show m - a = 1 + (m - (a + 1)) by omega, sg_add, sg_1]
  rfl
theorem MG.left {c : Nat → Nat} {p g0 g : PQ} {lo mi hi a b q : Nat} (h : MG c p g0 g lo mi hi a b q) (hq : lo ≤ q) (ha : a < mi) (s1 : srt c p.1 lo mi) (s2 : srt c p.1 mi hi) (hla : lo ≤ a) (hmb : mi ≤ b) (hc : hi ≤ b ∨ c (p.1 a) ≤ c (p.1 b)) : MG c p g0 (va_up g.1 q (p.1 a), va_up g.2 q (p.2 a)) lo mi hi (a + 1) b (q + 1) := by
  obtain ⟨h1, h2, h3, h4⟩ := h
  refine ⟨fun x hx => ?_, fun t => ?_, fun x y e1 e2 e3 => ?_, fun x e1 e2 => ?_⟩
  · show va_up g.1 q (p.1 a) x = g0.1 x ∧ va_up g.2 q (p.2 a) x = g0.2 x
    rw [va_up_ne _ _ (by omega), va_up_ne _ _ (by omega)]
    exact h1 x hx
  · show kf c t (sg (va_up g.1 q (p.1 a)) (va_up g.2 q (p.2 a)) lo (q + 1 - lo) ++ _) = _
    rw [sg_up hq, ← h2 t, sg_hd ha, List.append_assoc]
    rfl
  · show c (va_up g.1 q (p.1 a) x) ≤ c (va_up g.1 q (p.1 a) y)
    rw [va_up_ne _ _ (show x ≠ q by omega)]
    by_cases e : y = q
    · rw [e, va_up_self]; exact (h4 x e1 (by omega)).1 a (Nat.le_refl _) ha
    · rw [va_up_ne _ _ e]; exact h3 x y e1 e2 (by omega)
  · show (∀ y, a + 1 ≤ y → y < mi → c (va_up g.1 q (p.1 a) x) ≤ c (p.1 y)) ∧ ∀ y, b ≤ y → y < hi → c (va_up g.1 q (p.1 a) x) ≤ c (p.1 y)
    by_cases e : x = q
    · rw [e, va_up_self]
      refine ⟨fun y f1 f2 => s1 a y hla (by omega) f2, fun y f1 f2 => ?_⟩
      rcases hc with hc | hc
      · omega
      · by_cases e9 : y = b
        · rw [e9]; exact hc
        · exact Nat.le_trans hc (s2 b y hmb (by omega) f2)
    · rw [va_up_ne _ _ e]
      exact ⟨fun y f1 f2 => (h4 x e1 (by omega)).1 y (by omega) f2, (h4 x e1 (by omega)).2⟩
theorem MG.right {c : Nat → Nat} {p g0 g : PQ} {lo mi hi a b q : Nat} (h : MG c p g0 g lo mi hi a b q) (hq : lo ≤ q) (hb : b < hi) (s1 : srt c p.1 lo mi) (s2 : srt c p.1 mi hi) (hla : lo ≤ a) (hmb : mi ≤ b) (hc : mi ≤ a ∨ c (p.1 b) < c (p.1 a)) : MG c p g0 (va_up g.1 q (p.1 b), va_up g.2 q (p.2 b)) lo mi hi a (b + 1) (q + 1) := by
  obtain ⟨h1, h2, h3, h4⟩ := h
  have hlt : ∀ y, a ≤ y → y < mi → c (p.1 b) < c (p.1 y) := fun y f1 f2 => by
    rcases hc with hc | hc
    · omega
    · by_cases e9 : y = a
      · rw [e9]; exact hc
      · exact Nat.lt_of_lt_of_le hc (s1 a y hla (by omega) f2)
  refine ⟨fun x hx => ?_, fun t => ?_, fun x y e1 e2 e3 => ?_, fun x e1 e2 => ?_⟩
  · show va_up g.1 q (p.1 b) x = g0.1 x ∧ va_up g.2 q (p.2 b) x = g0.2 x
    rw [va_up_ne _ _ (by omega), va_up_ne _ _ (by omega)]
    exact h1 x hx
  · show kf c t (sg (va_up g.1 q (p.1 b)) (va_up g.2 q (p.2 b)) lo (q + 1 - lo) ++ _) = _
    rw [sg_up hq, ← h2 t, sg_hd hb]
    have e5 : kf c t ([(p.1 b, p.2 b)] ++ sg p.1 p.2 a (mi - a)) = kf c t (sg p.1 p.2 a (mi - a) ++ [(p.1 b, p.2 b)]) := by
      rw [kf_app, kf_app]
      by_cases ht : c (p.1 b) = t
      · rw [kf_none (l := sg p.1 p.2 a (mi - a)) (fun z hz => by
          obtain ⟨y, f1, f2, rfl⟩ := sg_mem hz
          have := hlt y f1 (by omega)
          show c (p.1 y) ≠ t
          omega), List.append_nil, List.nil_append]
      · rw [show kf c t [(p.1 b, p.2 b)] = [] from kf_f ht, List.append_nil, List.nil_append]
    rw [List.append_assoc, kf_app, kf_app (a := sg g.1 g.2 lo (q - lo)), ← List.append_assoc, kf_app, e5, ← kf_app, List.append_assoc]
    rfl
  · show c (va_up g.1 q (p.1 b) x) ≤ c (va_up g.1 q (p.1 b) y)
    rw [va_up_ne _ _ (show x ≠ q by omega)]
    by_cases e : y = q
    · rw [e, va_up_self]; exact (h4 x e1 (by omega)).2 b (Nat.le_refl _) hb
    · rw [va_up_ne _ _ e]; exact h3 x y e1 e2 (by omega)
  · show (∀ y, a ≤ y → y < mi → c (va_up g.1 q (p.1 b) x) ≤ c (p.1 y)) ∧ ∀ y, b + 1 ≤ y → y < hi → c (va_up g.1 q (p.1 b) x) ≤ c (p.1 y)
    by_cases e : x = q
    · rw [e, va_up_self]
      exact ⟨fun y f1 f2 => Nat.le_of_lt (hlt y f1 f2), fun y f1 f2 => s2 b y hmb (by omega) f2⟩
    · rw [va_up_ne _ _ e]
      exact ⟨(h4 x e1 (by omega)).1, fun y f1 f2 => (h4 x e1 (by omega)).2 y (by omega) f2⟩
/-- merged: the run [lo, hi) in sequence, what stood ahead of it as it was -/
theorem MG.done {c : Nat → Nat} {p g0 g : PQ} {lo mi hi a b q : Nat} (h : MG c p g0 g lo mi hi a b q) (ha : mi ≤ a) (hb : hi ≤ b) (hq : q = hi) : (∀ x, x < lo → g.1 x = g0.1 x ∧ g.2 x = g0.2 x) ∧ (∀ t, kf c t (sg g.1 g.2 lo (hi - lo)) = kf c t (sg p.1 p.2 lo (hi - lo))) ∧ srt c g.1 lo hi := by
  subst hq
  obtain ⟨h1, h2, h3, -⟩ := h
  refine ⟨h1, fun t => ?_, h3⟩
  have h5 := h2 t
  rw [show mi - a = 0 by omega, show q - b = 0 by omega, sg_0, sg_0, List.append_nil, List.append_nil] at h5
  exact h5
/-! rounds of merging: runs of w -/
def blk (c V : Nat → Nat) (n w : Nat) : Prop := ∀ x y, x < y → y < n → x / w = y / w → c (V x) ≤ c (V y)
theorem blk_1 (c V : Nat → Nat) (n : Nat) : blk c V n 1 := fun x y h1 _ h3 => by rw [Nat.div_one, Nat.div_one] at h3; omega
theorem blk_all {c V : Nat → Nat} {n w : Nat} (h : blk c V n w) (hw : n ≤ w) : srt c V 0 n := fun x y _ h2 h3 => h x y h2 h3 (by rw [Nat.div_eq_of_lt (by omega), Nat.div_eq_of_lt (by omega)])
theorem div_in {x w j : Nat} (h1 : w * j ≤ x) (h2 : x < w * j + w) : x / w = j := Nat.div_eq_of_lt_le (by rw [Nat.mul_comm]; exact h1) (by rw [Nat.add_mul, Nat.one_mul, Nat.mul_comm]; exact h2)
theorem blk_run {c V : Nat → Nat} {n w j lo hi : Nat} (h : blk c V n w) (hlo : lo = w * j) (hhi : hi ≤ lo + w) (hn : hi ≤ n) : srt c V lo hi := fun x y h1 h2 h3 => h x y h2 (by omega) (by rw [div_in (j := j) (by omega) (by omega), div_in (j := j) (by omega) (by omega)])
/-- the gathered things up to lo -/
def GT (c : Nat → Nat) (p g : PQ) (w lo : Nat) : Prop := (∀ t, kf c t (sg g.1 g.2 0 lo) = kf c t (sg p.1 p.2 0 lo)) ∧ blk c g.1 lo (2 * w)
theorem GT.start (c : Nat → Nat) (p g : PQ) (w : Nat) : GT c p g w 0 := ⟨fun _ => rfl, fun x y _ h _ => absurd h (Nat.not_lt_zero _)⟩
theorem GT.more {c : Nat → Nat} {p g g2 : PQ} {w lo hi j : Nat} (h : GT c p g w lo) (hj : lo = 2 * w * j) (hhi : hi ≤ lo + 2 * w) (hlh : lo ≤ hi) (m1 : ∀ x, x < lo → g2.1 x = g.1 x ∧ g2.2 x = g.2 x) (m2 : ∀ t, kf c t (sg g2.1 g2.2 lo (hi - lo)) = kf c t (sg p.1 p.2 lo (hi - lo))) (m3 : srt c g2.1 lo hi) : GT c p g2 w hi := by
  refine ⟨fun t => ?_, fun x y h1 h2 h3 => ?_⟩
  · rw [show hi = lo + (hi - lo) by omega, sg_add, sg_add (V := p.1), kf_app, kf_app, Nat.zero_add, m2 t, sg_cong (fun x _ hx => m1 x (by omega)), h.1 t]
  · by_cases e1 : y < lo
    · rw [(m1 x (by omega)).1, (m1 y e1).1]; exact h.2 x y h1 e1 h3
    · by_cases e2 : lo ≤ x
      · exact m3 x y e2 h1 h2
      · have d2 : y / (2 * w) = j := div_in (by omega) (by omega)
        have hw : 0 < 2 * w := by omega
        have d1 : x / (2 * w) < j := (Nat.div_lt_iff_lt_mul hw).mpr (by rw [Nat.mul_comm]; omega)
        omega
/-! gathered rank by rank -/
def gtr (r : Nat → Nat) (l : List (Nat × Nat)) : Nat → List (Nat × Nat)
  | 0 => []
  | k + 1 => gtr r l k ++ kf r k l
theorem gtr_kf {r : Nat → Nat} {l : List (Nat × Nat)} {t : Nat} : ∀ {k : Nat}, kf r t (gtr r l k) = if t < k then kf r t l else []
  | 0 => by rw [if_neg (Nat.not_lt_zero _)]; rfl
  | k + 1 => by
    rw [gtr, kf_app, gtr_kf]
    by_cases e : t = k
    · subst e
      rw [if_neg (Nat.lt_irrefl _), if_pos (Nat.lt_succ_self _), List.nil_append]
      unfold kf
      rw [List.filter_filter]
      simp
    · have e2 : kf r t (kf r k l) = [] := kf_none (fun z hz => by rw [(kf_mem.mp hz).2]; exact fun q => e q.symm)
      rw [e2, List.append_nil]
      by_cases h : t < k
      · rw [if_pos h, if_pos (by omega)]
      · rw [if_neg h, if_neg (by omega)]
theorem gtr_pw {r : Nat → Nat} {l : List (Nat × Nat)} : ∀ {k : Nat}, List.Pairwise (fun a b : Nat × Nat => r a.1 ≤ r b.1) (gtr r l k) ∧ ∀ a, a ∈ gtr r l k → r a.1 < k
  | 0 => ⟨List.Pairwise.nil, fun _ h => absurd h List.not_mem_nil⟩
  | k + 1 => by
    obtain ⟨h1, h2⟩ := gtr_pw (r := r) (l := l) (k := k)
    refine ⟨?_, fun a ha => ?_⟩
    · rw [gtr, List.pairwise_append]
      refine ⟨h1, ?_, fun a ha b hb => ?_⟩
      · exact List.Pairwise.imp_of_mem (R := fun _ _ => True) (fun {a b} ha hb _ => by rw [(kf_mem.mp ha).2, (kf_mem.mp hb).2]; exact Nat.le_refl _) (List.pairwise_of_forall (fun _ _ => trivial))
      · rw [(kf_mem.mp hb).2]; exact Nat.le_of_lt (h2 a ha)
    · rw [gtr] at ha
      rcases List.mem_append.mp ha with ha | ha
      · have := h2 a ha; omega
      · rw [(kf_mem.mp ha).2]; exact Nat.lt_succ_self _
/-- pairwise in a list of a stretch: in sequence -/
theorem srt_of {c V K : Nat → Nat} {f m : Nat} (h : List.Pairwise (fun a b : Nat × Nat => c a.1 ≤ c b.1) (sg V K f m)) : srt c V f (f + m) := fun x y h1 h2 h3 => by
  have h4 := List.pairwise_iff_getElem.mp h (x - f) (y - f) (by rw [sg, List.length_map, List.length_range]; omega) (by rw [sg, List.length_map, List.length_range]; omega) (by omega)
  have e : ∀ z (hz : z - f < (sg V K f m).length), f ≤ z → (sg V K f m)[z - f].1 = V z := fun z hz hf => by
    have h9 : z - f < m := by rw [sg, List.length_map, List.length_range] at hz; exact hz
    have h8 := sg_get (V := V) (K := K) (f := f) h9
    rw [List.getElem?_eq_getElem hz] at h8
    rw [Option.some.inj h8, show f + (z - f) = z by omega]
  rw [e x _ h1, e y _ (by omega)] at h4
  exact h4
/-- by ranks is by codes -/
theorem key_iff {c r : Nat → Nat} {p q : PQ} {e : Nat} (hcr : ∀ v u, v < 16 → u < 16 → (c v < c u ↔ r v < r u)) (hp : ∀ x, x < e → p.1 x < 16) (hq : ∀ x, x < e → q.1 x < 16) (ho : ∀ x, e ≤ x → q.1 x = p.1 x ∧ q.2 x = p.2 x) (hk : ∀ t, kf r t (sg q.1 q.2 0 e) = kf r t (sg p.1 p.2 0 e)) (hs : srt r q.1 0 e) : SP c p q 0 e ∧ srt c q.1 0 e := by
  refine ⟨⟨fun x hx => ho x (by omega), fun t => ?_⟩, fun x y h1 h2 h3 => ?_⟩
  · rw [Nat.sub_zero]
    by_cases ht : ∃ v, v < 16 ∧ c v = t
    · obtain ⟨v, hv, rfl⟩ := ht
      have one : ∀ g : PQ, (∀ x, x < e → g.1 x < 16) → kf c (c v) (sg g.1 g.2 0 e) = kf r (r v) (sg g.1 g.2 0 e) := fun g hg => by
        have gen : ∀ l : List (Nat × Nat), (∀ z, z ∈ l → z.1 < 16) → kf c (c v) l = kf r (r v) l := fun l => by
          induction l with
          | nil => intro _; rfl
          | cons z l ih =>
            intro hz
            have i1 := ih (fun y hy => hz y (List.mem_cons_of_mem _ hy))
            have z16 := hz z List.mem_cons_self
            have a1 := hcr z.1 v z16 hv
            have a2 := hcr v z.1 hv z16
            by_cases e1 : c z.1 = c v
            · have e2 : r z.1 = r v := by
                have b1 : ¬ r z.1 < r v := fun w => by have := a1.mpr w; omega
                have b2 : ¬ r v < r z.1 := fun w => by have := a2.mpr w; omega
                omega
              rw [kf_t e1, kf_t e2, i1]
            · have e2 : r z.1 ≠ r v := fun w => by
                have b1 : ¬ c z.1 < c v := fun w2 => by have := a1.mp w2; omega
                have b2 : ¬ c v < c z.1 := fun w2 => by have := a2.mp w2; omega
                omega
              rw [kf_f e1, kf_f e2, i1]
        exact gen _ (fun z hz => by obtain ⟨x, _, h2, rfl⟩ := sg_mem hz; exact hg x (by omega))
      rw [one q hq, one p hp, hk]
    · have no : ∀ g : PQ, (∀ x, x < e → g.1 x < 16) → kf c t (sg g.1 g.2 0 e) = [] := fun g hg => kf_none (fun z hz w => by
        obtain ⟨x, _, h2, rfl⟩ := sg_mem hz
        exact ht ⟨g.1 x, hg x (by omega), w⟩)
      rw [no q hq, no p hp]
  · have a := hs x y h1 h2 h3
    have b := hcr (q.1 y) (q.1 x) (hq y h3) (hq x (by omega))
    by_cases w : c (q.1 y) < c (q.1 x)
    · have := b.mp w; omega
    · omega
end
section
/-! the reference's rounds: a stable sorting -/
theorem SP_swp {c : Nat → Nat} {p0 p : PQ} {f e k : Nat} (h : SP c p0 p f e) (h1 : f ≤ k) (h2 : k + 1 < e) : SP c p0 (swp c p k) f e := by
  unfold swp
  split
  · rename_i hc
    exact h.swap h1 h2 hc
  · exact h
theorem SP_pass {c : Nat → Nat} {p0 p : PQ} {f e : Nat} (h : SP c p0 p f e) : ∀ a, f + a < e → SP c p0 (passN c f p a) f e
  | 0, _ => h
  | a + 1, ha => SP_swp (SP_pass h a (by omega)) (by omega) (by omega)
theorem SP_rnd {c : Nat → Nat} {p0 : PQ} {f e w : Nat} (hw : f + w < e ∨ w = 0) : ∀ r, SP c p0 (rndN c f w p0 r) f e
  | 0 => SP.refl c p0 f e
  | r + 1 => by
    have ih := SP_rnd (c := c) (p0 := p0) (e := e) hw r
    rcases hw with hw | hw
    · exact SP_pass ih w hw
    · subst hw
      exact ih
def Tl (c V : Nat → Nat) (f e r : Nat) : Prop := ∀ x y, f ≤ x → x < y → y < e → e ≤ y + r → c (V x) ≤ c (V y)
def Mx (c V : Nat → Nat) (f k : Nat) : Prop := ∀ x, f ≤ x → x ≤ k → c (V x) ≤ c (V k)
theorem Tl_swp {c : Nat → Nat} {p : PR} {f e r k : Nat} (h : Tl c p.1 f e r) (h1 : f ≤ k) (h2 : k + 1 < e) : Tl c (swp c p k).1 f e r := by
  by_cases hc : c (p.1 (k + 1)) < c (p.1 k)
  · rw [swp_t hc]
    by_cases hr : e ≤ k + 1 + r
    · have := h k (k + 1) h1 (by omega) h2 hr
      omega
    · intro x y a1 a2 a3 a4
      show c (xch p.1 k (k + 1) x) ≤ c (xch p.1 k (k + 1) y)
      have hy : xch p.1 k (k + 1) y = p.1 y := by rw [xch_at, if_neg (by omega), if_neg (by omega)]
      rw [hy, xch_at]
      split
      · exact h k y h1 (by omega) a3 a4
      · split
        · exact h (k + 1) y (by omega) (by omega) a3 a4
        · exact h x y a1 a2 a3 a4
  · rw [swp_f hc]
    exact h
theorem Mx_swp {c : Nat → Nat} {p : PR} {f k : Nat} (h : Mx c p.1 f k) : Mx c (swp c p k).1 f (k + 1) := by
  by_cases hc : c (p.1 (k + 1)) < c (p.1 k)
  · rw [swp_t hc]
    intro x a1 a2
    show c (xch p.1 k (k + 1) x) ≤ c (xch p.1 k (k + 1) (k + 1))
    have e : xch p.1 k (k + 1) (k + 1) = p.1 k := by rw [xch_at, if_pos rfl]
    rw [e, xch_at]
    split
    · exact Nat.le_refl _
    · split
      · exact Nat.le_of_lt hc
      · exact h x a1 (by omega)
  · rw [swp_f hc]
    intro x a1 a2
    by_cases e : x = k + 1
    · rw [e]; exact Nat.le_refl _
    · exact Nat.le_trans (h x a1 (by omega)) (by omega)
theorem pass_T {c : Nat → Nat} {p : PR} {f e r : Nat} (h : Tl c p.1 f e r) : ∀ a, f + a < e → Tl c (passN c f p a).1 f e r ∧ Mx c (passN c f p a).1 f (f + a) ∧ (e ≤ f + a + 1 + r → Tl c (passN c f p a).1 f e (r + 1))
  | 0, ha => ⟨h, fun x a1 a2 => by rw [show x = f + 0 by omega]; exact Nat.le_refl _, fun hr x y a1 a2 a3 a4 => h x y a1 a2 a3 (by omega)⟩
  | a + 1, ha => by
    obtain ⟨i1, i2, i3⟩ := pass_T h a (by omega)
    have j1 : Tl c (passN c f p (a + 1)).1 f e r := Tl_swp i1 (by omega) (by omega)
    have j2 : Mx c (passN c f p (a + 1)).1 f (f + (a + 1)) := Mx_swp i2
    refine ⟨j1, j2, fun hr x y a1 a2 a3 a4 => ?_⟩
    by_cases hy : e ≤ y + r
    · exact j1 x y a1 a2 a3 hy
    · by_cases h9 : e ≤ f + a + 1 + r
      · have j3 : Tl c (passN c f p (a + 1)).1 f e (r + 1) := Tl_swp (i3 h9) (by omega) (by omega)
        exact j3 x y a1 a2 a3 a4
      · rw [show y = f + (a + 1) by omega]
        exact j2 x a1 (by omega)
theorem rnd_T {c : Nat → Nat} {p : PR} {f e w : Nat} (hw : f + w + 1 = e) : ∀ r, Tl c (rndN c f w p r).1 f e r
  | 0 => fun x y _ _ h3 h4 => by omega
  | r + 1 => fun x y a1 a2 a3 a4 => by
    by_cases h9 : e ≤ f + w + 1 + r
    · exact (pass_T (rnd_T hw r) w (by omega)).2.2 h9 x y a1 a2 a3 a4
    · omega
theorem rnd_srt {c : Nat → Nat} {p : PR} {f e : Nat} : srt c (rndN c f (e - f - 1) p (e - f)).1 f e := fun x y h1 h2 h3 => rnd_T (w := e - f - 1) (by omega) (e - f) x y h1 h2 h3 (by omega)
theorem rnd_SP {c : Nat → Nat} {p : PR} {f e : Nat} : SP c p (rndN c f (e - f - 1) p (e - f)) f e := SP_rnd (by omega) _
/-! counts in a stretch -/
theorem cntB_split (p : Nat → Bool) (a : Nat) : ∀ b, cntB p (a + b) = cntB p a + cntB (fun k => p (a + k)) b
  | 0 => rfl
  | b + 1 => by
    show cntB p (a + b) + (if p (a + b) then 1 else 0) = cntB p a + (cntB (fun k => p (a + k)) b + (if p (a + b) then 1 else 0))
    rw [cntB_split p a b]
    omega
theorem cnt_seg {p : Nat → Bool} {q q2 n : Nat} (h : ∀ k, k < n → k < q ∨ q2 ≤ k → p k = false) (h1 : q ≤ q2) (h2 : q2 ≤ n) : cntB p n = cntB (fun a => p (q + a)) (q2 - q) := by
  rw [show n = q + ((q2 - q) + (n - q2)) by omega, cntB_split, cntB_split, cntB_none (n := q) (fun k hk => h k (by omega) (Or.inl hk)), cntB_none (n := n - q2) (fun k hk => h _ (by omega) (Or.inr (by omega)))]
  omega
/-! round and round -/
theorem rot_at {f : Nat → Nat} {n : Nat} : ∀ {sh x : Nat}, sh ≤ n → x < n → rotI f n sh x = f ((x + n - sh) % n)
  | 0, x, _, hx => by rw [Nat.sub_zero, Nat.add_mod_right, Nat.mod_eq_of_lt hx]; rfl
  | sh + 1, x, hs, hx => by
    show car (rotI f n sh) n 0 x = _
    unfold car
    rw [if_neg (Nat.not_lt_zero _)]
    by_cases e : x = 0
    · rw [if_pos e, rot_at (by omega) (by omega)]
      subst e
      rw [show n - 1 + n - sh = (0 + n - (sh + 1)) + n by omega, Nat.add_mod_right]
    · rw [if_neg e, if_pos hx, rot_at (by omega) (by omega), show x - 1 + n - sh = x + n - (sh + 1) by omega]
end
section
/-! sorters: what they bring about -/
theorem rank_lt {c : Nat → Nat} {v u : Nat} (hv : v < 16) (h : c v < c u) : rankC c v < rankC c u := by
  obtain ⟨k, h1, h2, h3⟩ := head_ex c 16 v hv
  refine cntB_lt (a := k) (fun x _ hx => ?_) (by omega) ?_ ?_
  · rw [Bool.and_eq_true] at hx ⊢
    exact ⟨hx.1, decide_eq_true (Nat.lt_trans (of_decide_eq_true hx.2) h)⟩
  · show (headB c k && decide (c k < c v)) = false
    rw [decide_eq_false (by omega), Bool.and_false]
  · show (headB c k && decide (c k < c u)) = true
    rw [h3, decide_eq_true (by omega)]
    rfl
theorem rank_iff {c : Nat → Nat} {v u : Nat} (hv : v < 16) (hu : u < 16) : c v < c u ↔ rankC c v < rankC c u := by
  refine ⟨rank_lt hv, fun h => ?_⟩
  rcases Nat.lt_trichotomy (c v) (c u) with e | e | e
  · exact e
  · have : rankC c v = rankC c u := by unfold rankC; rw [e]
    omega
  · have := rank_lt (c := c) hu e
    omega
theorem ord_iff {o : OrdS} (h : ordOK o) {v u : Nat} (hv : v < 16) (hu : u < 16) : o.2.2.1 v < o.2.2.1 u ↔ o.2.2.2.1 v < o.2.2.2.1 u := by
  rw [h.2.1 v hv, h.2.1 u hu, h.2.2.1 v hv, h.2.2.1 u hu]
  exact rank_iff hv hu
theorem SP.swapD {c : Nat → Nat} {p q : PQ} {f e a : Nat} (h : SP c p q f e) (h1 : f + 1 ≤ a) (h2 : a < e) (hc : c (q.1 a) < c (q.1 (a - 1))) : SP c p (xch q.1 a (a - 1), xch q.2 a (a - 1)) f e := by
  have e1 : a - 1 + 1 = a := by omega
  have := h.swap (k := a - 1) (by omega) (by omega) (by rw [e1]; exact hc)
  rw [e1] at this
  rw [xch_com q.1, xch_com q.2]
  exact this
theorem srt_lo {c V : Nat → Nat} {f : Nat} : srt c V f (f + 1) := fun x y h1 h2 h3 => by omega
theorem srt_le {c V : Nat → Nat} {f e e2 : Nat} (h : srt c V f e) (he : e2 ≤ e) : srt c V f e2 := fun x y h1 h2 h3 => h x y h1 h2 (by omega)
def MDone (c : Nat → Nat) (p g0 g : PQ) (lo hi : Nat) : Prop := (∀ x, x < lo → g.1 x = g0.1 x ∧ g.2 x = g0.2 x) ∧ (∀ t, kf c t (sg g.1 g.2 lo (hi - lo)) = kf c t (sg p.1 p.2 lo (hi - lo))) ∧ srt c g.1 lo hi
theorem mr_runs {c V : Nat → Nat} {N w lo j9 : Nat} (h : blk c V N w) (hlo : lo = 2 * w * j9) (hlN : lo ≤ N) : srt c V lo (min (lo + w) N) ∧ srt c V (min (lo + w) N) (min (min (lo + w) N + w) N) := by
  have e1 : lo = w * (2 * j9) := by rw [hlo, Nat.mul_comm 2 w, Nat.mul_assoc]
  refine ⟨blk_run (j := 2 * j9) h e1 (by omega) (by omega), ?_⟩
  by_cases hh : lo + w ≤ N
  · have e2 : min (lo + w) N = w * (2 * j9 + 1) := by
      rw [Nat.min_eq_left hh, Nat.mul_add, Nat.mul_one, ← e1]
    exact blk_run (j := 2 * j9 + 1) h e2 (by omega) (by omega)
  · intro x y h1 h2 h3
    omega
theorem mr_step {S S1 : XS} {i j g lo w9 N : Nat} {r r2 : RowS} (hc : S1.2 = S.2) (hig : i ≠ g) (hg : (∃ j9, lo = 2 * w9 * j9) ∧ GT (S.2.1 j).2.2.1 ((S1.1 i).1, (S1.1 i).2.1) (r.1, r.2.1) w9 (min lo N)) (hlo : lo < N)
    (hm : MDone ((xR S1 g (r.1, r.2.1, r.2.2)).2.1 j).2.2.1 (((xR S1 g (r.1, r.2.1, r.2.2)).1 i).1, ((xR S1 g (r.1, r.2.1, r.2.2)).1 i).2.1) (((xR S1 g (r.1, r.2.1, r.2.2)).1 g).1, ((xR S1 g (r.1, r.2.1, r.2.2)).1 g).2.1) (r2.1, r2.2.1) lo (min (min (lo + w9) N + w9) N)) :
    (∃ j9, lo + 2 * w9 = 2 * w9 * j9) ∧ GT (S.2.1 j).2.2.1 ((S1.1 i).1, (S1.1 i).2.1) (r2.1, r2.2.1) w9 (min (lo + 2 * w9) N) := by
  obtain ⟨⟨j9, hj⟩, hG⟩ := hg
  rw [xR_row, xR_ne _ _ hig] at hm
  have hm : MDone (S1.2.1 j).2.2.1 ((S1.1 i).1, (S1.1 i).2.1) (r.1, r.2.1) (r2.1, r2.2.1) lo (min (min (lo + w9) N + w9) N) := hm
  rw [hc] at hm
  obtain ⟨m1, m2, m3⟩ := hm
  refine ⟨⟨j9 + 1, by rw [Nat.mul_add, Nat.mul_one, ← hj]⟩, ?_⟩
  rw [Nat.min_eq_left (show lo ≤ N by omega)] at hG
  rw [show min (lo + 2 * w9) N = min (min (lo + w9) N + w9) N by omega]
  exact GT.more hG hj (by omega) (by omega) m1 m2 m3
theorem mr_next {c : Nat → Nat} {p cur : PQ} {S2 : XS} {i g N w : Nat} (h : SP c p cur 0 N) (hg : GT c cur ((S2.1 g).1, (S2.1 g).2.1) w N) (hn : (S2.1 g).2.2 = N) (ho : ((S2.1 i).1, (S2.1 i).2.1) = cur) : SP c p (((xR S2 i (ovl (S2.1 g).1 (S2.1 i).1 (S2.1 g).2.2, ovl (S2.1 g).2.1 (S2.1 i).2.1 (S2.1 g).2.2, (S2.1 g).2.2)).1 i).1, ((xR S2 i (ovl (S2.1 g).1 (S2.1 i).1 (S2.1 g).2.2, ovl (S2.1 g).2.1 (S2.1 i).2.1 (S2.1 g).2.2, (S2.1 g).2.2)).1 i).2.1) 0 N ∧ blk c ((xR S2 i (ovl (S2.1 g).1 (S2.1 i).1 (S2.1 g).2.2, ovl (S2.1 g).2.1 (S2.1 i).2.1 (S2.1 g).2.2, (S2.1 g).2.2)).1 i).1 N (w * 2) := by
  subst ho
  rw [xR_row, hn]
  refine ⟨h.trans ⟨fun x hx => ?_, fun t => ?_⟩, fun x y h1 h2 h3 => ?_⟩
  · show ovl (S2.1 g).1 (S2.1 i).1 N x = (S2.1 i).1 x ∧ ovl (S2.1 g).2.1 (S2.1 i).2.1 N x = (S2.1 i).2.1 x
    rw [ovl_out (by omega), ovl_out (by omega)]
    exact ⟨rfl, rfl⟩
  · show kf c t (sg (ovl (S2.1 g).1 (S2.1 i).1 N) (ovl (S2.1 g).2.1 (S2.1 i).2.1 N) 0 (N - 0)) = _
    rw [Nat.sub_zero, sg_cong (V2 := (S2.1 g).1) (K2 := (S2.1 g).2.1) (fun x _ hx => ⟨ovl_in (by omega), ovl_in (by omega)⟩)]
    exact hg.1 t
  · show c (ovl (S2.1 g).1 (S2.1 i).1 N x) ≤ c (ovl (S2.1 g).1 (S2.1 i).1 N y)
    rw [ovl_in (by omega), ovl_in h2]
    exact hg.2 x y h1 h2 (by rw [Nat.mul_comm 2 w]; exact h3)
/-- gathered by ranks, laid over the row -/
theorem gr_done {S2 : XS} {o : OrdS} {V K : Nat → Nat} {i g N : Nat} (ho : ordOK o) (hV : ∀ x, x < N → V x < 16) (hl : sg (S2.1 g).1 (S2.1 g).2.1 0 N = gtr o.2.2.2.1 (sg V K 0 N) o.2.2.2.2.2) (hn : (S2.1 g).2.2 = N) (hi : ((S2.1 i).1, (S2.1 i).2.1) = (V, K)) : SP o.2.2.1 (V, K) (((xR S2 i (ovl (S2.1 g).1 (S2.1 i).1 (S2.1 g).2.2, ovl (S2.1 g).2.1 (S2.1 i).2.1 (S2.1 g).2.2, (S2.1 g).2.2)).1 i).1, ((xR S2 i (ovl (S2.1 g).1 (S2.1 i).1 (S2.1 g).2.2, ovl (S2.1 g).2.1 (S2.1 i).2.1 (S2.1 g).2.2, (S2.1 g).2.2)).1 i).2.1) 0 N ∧ srt o.2.2.1 ((xR S2 i (ovl (S2.1 g).1 (S2.1 i).1 (S2.1 g).2.2, ovl (S2.1 g).2.1 (S2.1 i).2.1 (S2.1 g).2.2, (S2.1 g).2.2)).1 i).1 0 N := by
  have e1 : (S2.1 i).1 = V := congrArg Prod.fst hi
  have e2 : (S2.1 i).2.1 = K := congrArg Prod.snd hi
  rw [xR_row, hn, e1, e2]
  have hsg : sg (ovl (S2.1 g).1 V N) (ovl (S2.1 g).2.1 K N) 0 N = gtr o.2.2.2.1 (sg V K 0 N) o.2.2.2.2.2 := by
    rw [← hl]
    exact sg_cong (fun x _ hx => ⟨ovl_in (by omega), ovl_in (by omega)⟩)
  have hrl : ∀ v, v < 16 → o.2.2.2.1 v < o.2.2.2.2.2 := fun v hv => by rw [ho.2.2.2, ho.2.2.1 v hv]; exact rank_class _ hv
  have hmem : ∀ z, z ∈ gtr o.2.2.2.1 (sg V K 0 N) o.2.2.2.2.2 → z.1 < 16 := by
    have gen : ∀ k, ∀ z, z ∈ gtr o.2.2.2.1 (sg V K 0 N) k → z.1 < 16 := fun k => by
      induction k with
      | zero => intro z hz; exact absurd hz List.not_mem_nil
      | succ k ih =>
        intro z hz
        rw [gtr] at hz
        rcases List.mem_append.mp hz with hz | hz
        · exact ih z hz
        · obtain ⟨x, _, h2, rfl⟩ := sg_mem (kf_mem.mp hz).1
          exact hV x (by omega)
    exact gen _
  refine key_iff (p := (V, K)) (q := (ovl (S2.1 g).1 V N, ovl (S2.1 g).2.1 K N)) (r := o.2.2.2.1) (fun v u hv hu => ord_iff ho hv hu) hV (fun x hx => ?_) (fun x hx => ⟨ovl_out hx, ovl_out hx⟩) (fun t => ?_) ?_
  · have h9 := sg_get (V := ovl (S2.1 g).1 V N) (K := ovl (S2.1 g).2.1 K N) (f := 0) hx
    rw [hsg] at h9
    have := hmem _ (List.mem_of_getElem? h9)
    rw [Nat.zero_add] at this
    exact this
  · rw [hsg, gtr_kf]
    by_cases ht : t < o.2.2.2.2.2
    · rw [if_pos ht]
    · rw [if_neg ht]
      refine (kf_none (fun z hz w => ?_)).symm
      obtain ⟨x, _, h2, rfl⟩ := sg_mem hz
      have := hrl _ (hV x (by omega))
      have w2 : o.2.2.2.1 (V x) = t := w
      omega
  · have h9 := (gtr_pw (r := o.2.2.2.1) (l := sg V K 0 N) (k := o.2.2.2.2.2)).1
    rw [← hsg] at h9
    have h8 := srt_of h9
    rw [Nat.zero_add] at h8
    exact h8
set_option maxHeartbeats 4000000 in
set_option maxRecDepth 100000 in
theorem s_X3_insertEach (l : Launch) (dC : Nat → ClassId) (dI : Nat → Nat → Nat) (ad : Nat → Nat) (S : XS) (w i j f t9 : Nat) (hw : w < 2) (hi : i < 8) (hj : j < 6) (hro : rowOK (S.1 i)) (ho : ordOK (S.2.1 j)) (hf : f ≤ t9) (ht9 : t9 ≤ (S.1 i).2.2) : Met l yX3_insertEach wsX3_insertEach ({ frames := 2, cells := 0, slots := 0, locals := 47 } : Room) (va_Pc [.ref (ad (54 + w)), .ref (ad (3 * i)), .ref (ad (24 + 5 * j)), .int (nI f), .int (nI t9)] (PX dC dI ad S)) (va_Qv (fun S' => ∃ r' : RowS, S' = xR S i r' ∧ rowOK r' ∧ r'.2.2 = (S.1 i).2.2 ∧ SP (S.2.1 j).2.2.1 ((S.1 i).1, (S.1 i).2.1) (r'.1, r'.2.1) f t9 ∧ srt (S.2.1 j).2.2.1 r'.1 f t9) (PX dC dI ad) (AX ad)) 0 0 (AX ad) := by
  refine Met.ofW (cc := cX3_insertEach) (maxL := 7) (ret := none) pl_X3 rfl ?_
  intro p e s m args below meth c s₁ B hml hv
  obtain ⟨rfl, hPX⟩ := hv
  have hx := B.exec
  have hb := B.bytes
  have hr := B.returns
  have hts := atoms_spec (ws := wsX3_insertEach) B.pre
  have hown : s.vm.findClass RX3 = some m.cls := findClass_of_methodNamed B.named
  have hlocks := B.notSynchronized
  have hX := WX.of hPX
  have hl := lv_entry ([.ref (ad (54 + w)), .ref (ad (3 * i)), .ref (ad (24 + 5 * j)), .int (nI f), .int (nI t9)]) (n := 7) (Nat.le_of_ble_eq_true rfl)
  rw [lg_entry_eq]
  generalize (lg_sl ([.ref (ad (54 + w)), .ref (ad (3 * i)), .ref (ad (24 + 5 * j)), .int (nI f), .int (nI t9)]) ++ List.replicate (7 - (lg_sl ([.ref (ad (54 + w)), .ref (ad (3 * i)), .ref (ad (24 + 5 * j)), .int (nI f), .int (nI t9)])).length) Slot.unset).toArray = ls at hl ⊢
  have hl : lv_has ls 7 [(0, .ref (ad (54 + w))), (1, .ref (ad (3 * i))), (2, .ref (ad (24 + 5 * j))), (3, .int (nI f)), (4, .int (nI t9))] := hl
  show W p l e ({ frames := 2, cells := 0, slots := 0, locals := 47 } : Room) s m ([.ref (ad (54 + w)), .ref (ad (3 * i)), .ref (ad (24 + 5 * j)), .int (nI f), .int (nI t9)]).toArray below meth c s.heap [] 0 0 (MQ below (va_Qv (fun S' => ∃ r' : RowS, S' = xR S i r' ∧ rowOK r' ∧ r'.2.2 = (S.1 i).2.2 ∧ SP (S.2.1 j).2.2.1 ((S.1 i).1, (S.1 i).2.1) (r'.1, r'.2.1) f t9 ∧ srt (S.2.1 j).2.2.1 r'.1 f t9) (PX dC dI ad) (AX ad)) ([.ref (ad (54 + w)), .ref (ad (3 * i)), .ref (ad (24 + 5 * j)), .int (nI f), .int (nI t9)]).toArray s 0 0 (AX ad)) (F0 m 0 ls [])
  have hn := hro.1
  refine lv_iload_n hx hb dX3_insertEach_0 rfl (lv_at hl 3 rfl) ?_
  refine lv_iconst (v := nI 1) hx hb dX3_insertEach_1 (by decide) ?_
  refine kn_iadd hx hb dX3_insertEach_2 ?_
  refine lv_istore (lv' := [(5, .int (nI (f + 1))), (0, .ref (ad (54 + w))), (1, .ref (ad (3 * i))), (2, .ref (ad (24 + 5 * j))), (3, .int (nI f)), (4, .int (nI t9))]) hx hb dX3_insertEach_3 hl (by decide) rfl (fun ls hl => ?_)
  have loop5 : ∀ (fuel : Nat) (r : RowS) (nx : Nat) (hr9 : rowOK r ∧ r.2.2 = (S.1 i).2.2) (hnx : f + 1 ≤ nx ∧ nx ≤ 17) (hs9 : SP (S.2.1 j).2.2.1 ((S.1 i).1, (S.1 i).2.1) (r.1, r.2.1) f t9 ∧ srt (S.2.1 j).2.2.1 r.1 f nx) (H : Heap) (locs : List Loc), 18 - nx < fuel → WX dC dI ad (xR S i (r.1, r.2.1, r.2.2)) (AX ad) s H locs → ∀ ls : Array Slot, lv_has ls 7 [(0, .ref (ad (54 + w))), (1, .ref (ad (3 * i))), (2, .ref (ad (24 + 5 * j))), (3, .int (nI f)), (4, .int (nI t9)), (5, .int (nI nx))] → W p l e ({ frames := 2, cells := 0, slots := 0, locals := 47 } : Room) s m ([.ref (ad (54 + w)), .ref (ad (3 * i)), .ref (ad (24 + 5 * j)), .int (nI f), .int (nI t9)]).toArray below meth c H locs 0 0 (MQ below (va_Qv (fun S' => ∃ r' : RowS, S' = xR S i r' ∧ rowOK r' ∧ r'.2.2 = (S.1 i).2.2 ∧ SP (S.2.1 j).2.2.1 ((S.1 i).1, (S.1 i).2.1) (r'.1, r'.2.1) f t9 ∧ srt (S.2.1 j).2.2.1 r'.1 f t9) (PX dC dI ad) (AX ad)) ([.ref (ad (54 + w)), .ref (ad (3 * i)), .ref (ad (24 + 5 * j)), .int (nI f), .int (nI t9)]).toArray s 0 0 (AX ad)) (F0 m 5 ls []) := by
    intro fuel
    induction fuel with
    | zero => intro r nx hr9 hnx hs9 H locs hf; exact absurd hf (Nat.not_lt_zero _)
    | succ fuel ih5 =>
      intro r nx hr9 hnx hs9 H locs hf hX ls hl
      refine lv_iload hx hb dX3_insertEach_5 (lv_at hl 5 rfl) ?_
      refine lv_iload hx hb dX3_insertEach_7 (lv_at hl 4 rfl) ?_
      refine kn_icmp_ge (tgt := 65) hx hb (by omega) (by omega) dX3_insertEach_9 (by decide) (fun k_1 => ?_) (fun k_1 => ?_)
      · skip
        exact W.vret hx hb hr (fun t9 ht9 hW9 => ⟨⟨(xR S i (r.1, r.2.1, r.2.2)), rfl, ⟨r, rfl, hr9.1, hr9.2, hs9.1, srt_le hs9.2 (by omega)⟩, hX.P ht9 hW9⟩, hX.2.2.2.F ht9⟩) hX.2.2.2.2.2 dX3_insertEach_65
      · skip
        refine lv_iload hx hb dX3_insertEach_12 (lv_at hl 5 rfl) ?_
        refine lv_istore (lv' := [(6, .int (nI nx)), (0, .ref (ad (54 + w))), (1, .ref (ad (3 * i))), (2, .ref (ad (24 + 5 * j))), (3, .int (nI f)), (4, .int (nI t9)), (5, .int (nI nx))]) hx hb dX3_insertEach_14 hl (by decide) rfl (fun ls hl => ?_)
        have loop16 : ∀ (fuel : Nat) (r : RowS) (a : Nat) (hr9 : rowOK r ∧ r.2.2 = (S.1 i).2.2) (ha : f ≤ a ∧ a ≤ nx) (hb9 : SP (S.2.1 j).2.2.1 ((S.1 i).1, (S.1 i).2.1) (r.1, r.2.1) f t9 ∧ srtB (S.2.1 j).2.2.1 r.1 f nx a) (H : Heap) (locs : List Loc), a < fuel → WX dC dI ad (xR S i (r.1, r.2.1, r.2.2)) (AX ad) s H locs → ∀ ls : Array Slot, lv_has ls 7 [(0, .ref (ad (54 + w))), (1, .ref (ad (3 * i))), (2, .ref (ad (24 + 5 * j))), (3, .int (nI f)), (4, .int (nI t9)), (5, .int (nI nx)), (6, .int (nI a))] → W p l e ({ frames := 2, cells := 0, slots := 0, locals := 47 } : Room) s m ([.ref (ad (54 + w)), .ref (ad (3 * i)), .ref (ad (24 + 5 * j)), .int (nI f), .int (nI t9)]).toArray below meth c H locs 0 0 (MQ below (va_Qv (fun S' => ∃ r' : RowS, S' = xR S i r' ∧ rowOK r' ∧ r'.2.2 = (S.1 i).2.2 ∧ SP (S.2.1 j).2.2.1 ((S.1 i).1, (S.1 i).2.1) (r'.1, r'.2.1) f t9 ∧ srt (S.2.1 j).2.2.1 r'.1 f t9) (PX dC dI ad) (AX ad)) ([.ref (ad (54 + w)), .ref (ad (3 * i)), .ref (ad (24 + 5 * j)), .int (nI f), .int (nI t9)]).toArray s 0 0 (AX ad)) (F0 m 16 ls []) := by
          intro fuel
          induction fuel with
          | zero => intro r a hr9 ha hb9 H locs hf; exact absurd hf (Nat.not_lt_zero _)
          | succ fuel ih16 =>
            intro r a hr9 ha hb9 H locs hf hX ls hl
            refine lv_iload hx hb dX3_insertEach_16 (lv_at hl 6 rfl) ?_
            refine lv_iload_n hx hb dX3_insertEach_18 rfl (lv_at hl 3 rfl) ?_
            refine kn_icmp_le (tgt := 59) hx hb (by omega) (by omega) dX3_insertEach_19 (by decide) (fun k_2 => ?_) (fun k_2 => ?_)
            · skip
              refine lv_iinc (v := nI (nx + 1)) (lv' := [(5, .int (nI (nx + 1))), (0, .ref (ad (54 + w))), (1, .ref (ad (3 * i))), (2, .ref (ad (24 + 5 * j))), (3, .int (nI f)), (4, .int (nI t9)), (6, .int (nI a))]) hx hb dX3_insertEach_59 hl (k := 5) rfl (nI_1 nx) (by decide) rfl (fun ls hl => ?_)
              refine lv_goto (tgt := 5) hx hb dX3_insertEach_62 (by decide) ?_
              exact ih5  r (nx + 1) hr9 (by omega) ⟨hb9.1, hb9.2.done (Or.inl (by omega)) (by omega)⟩ _ _ (by omega) hX _ (lv_sub hl [1, 2, 3, 4, 5, 0] rfl)
            · skip
              refine lv_aload_n hx hb dX3_insertEach_22 rfl (lv_at hl 2 rfl) ?_
              refine lv_aload_n hx hb dX3_insertEach_23 rfl (lv_at hl 1 rfl) ?_
              refine lv_iload hx hb dX3_insertEach_24 (lv_at hl 6 rfl) ?_
              refine kx_cr (v := nI (r.1 a)) (va_runV (As := [.int (nI a)]) (rest := [.ref (ad (24 + 5 * j))]) ⟨hx, hb, hml, hown, hts⟩ (m_X2_valueOn l dC dI ad (xR S i (r.1, r.2.1, r.2.2)) i a hi (by omega)) (cwV 1 hts gX3_insertEach_X2_valueOn rfl rfl rfl hdX2_valueOn_1 ⟨Nat.le_of_ble_eq_true rfl, Nat.le_of_ble_eq_true rfl⟩) (hX.preRow hi) rfl rfl hl.1 rfl (lv_room (Nat.le_of_ble_eq_true rfl)) dX3_insertEach_26 ⟨Nat.le_of_ble_eq_true rfl, Nat.le_of_ble_eq_true rfl⟩) (fun _ h => by rw [h, xR_row]) ?_
              refine lv_aload_n hx hb dX3_insertEach_29 rfl (lv_at hl 1 rfl) ?_
              refine lv_iload hx hb dX3_insertEach_30 (lv_at hl 6 rfl) ?_
              refine lv_iconst (v := nI 1) hx hb dX3_insertEach_32 (by decide) ?_
              refine kn_isub hx hb (by omega) dX3_insertEach_33 ?_
              refine kx_cr (v := nI (r.1 (a - 1))) (va_runV (As := [.int (nI (a - 1))]) (rest := [.int (nI (r.1 a)), .ref (ad (24 + 5 * j))]) ⟨hx, hb, hml, hown, hts⟩ (m_X2_valueOn l dC dI ad (xR S i (r.1, r.2.1, r.2.2)) i (a - 1) hi (by omega)) (cwV 1 hts gX3_insertEach_X2_valueOn rfl rfl rfl hdX2_valueOn_1 ⟨Nat.le_of_ble_eq_true rfl, Nat.le_of_ble_eq_true rfl⟩) (hX.preRow hi) rfl rfl hl.1 rfl (lv_room (Nat.le_of_ble_eq_true rfl)) dX3_insertEach_34 ⟨Nat.le_of_ble_eq_true rfl, Nat.le_of_ble_eq_true rfl⟩) (fun _ h => by rw [h, xR_row]) ?_
              refine kx_cr (v := cmpI (((S.2.1 j).2.2.1) (r.1 a)) (((S.2.1 j).2.2.1) (r.1 (a - 1)))) (va_runV (As := [.int (nI (r.1 a)), .int (nI (r.1 (a - 1)))]) (rest := []) ⟨hx, hb, hml, hown, hts⟩ (m_X1_compared l dC dI ad (xR S i (r.1, r.2.1, r.2.2)) j (r.1 a) (r.1 (a - 1)) hj ho (hr9.1.2 _ (by omega)).1 (hr9.1.2 _ (by omega)).1) (cwV 2 hts gX3_insertEach_X1_compared rfl rfl rfl hdX1_compared_2 ⟨Nat.le_of_ble_eq_true rfl, Nat.le_of_ble_eq_true rfl⟩) (hX.preOrd hj) rfl rfl hl.1 rfl (lv_room (Nat.le_of_ble_eq_true rfl)) dX3_insertEach_37 ⟨Nat.le_of_ble_eq_true rfl, Nat.le_of_ble_eq_true rfl⟩) (fun _ h => h) ?_
              refine kc_if_ge (tgt := 59) hx hb dX3_insertEach_40 (by decide) (fun k_3 => ?_) (fun k_3 => ?_)
              · skip
                refine lv_iinc (v := nI (nx + 1)) (lv' := [(5, .int (nI (nx + 1))), (0, .ref (ad (54 + w))), (1, .ref (ad (3 * i))), (2, .ref (ad (24 + 5 * j))), (3, .int (nI f)), (4, .int (nI t9)), (6, .int (nI a))]) hx hb dX3_insertEach_59 hl (k := 5) rfl (nI_1 nx) (by decide) rfl (fun ls hl => ?_)
                refine lv_goto (tgt := 5) hx hb dX3_insertEach_62 (by decide) ?_
                exact ih5  r (nx + 1) hr9 (by omega) ⟨hb9.1, hb9.2.done (Or.inr k_3) (by omega)⟩ _ _ (by omega) hX _ (lv_sub hl [1, 2, 3, 4, 5, 0] rfl)
              · skip
                refine lv_aload_n hx hb dX3_insertEach_43 rfl (lv_at hl 1 rfl) ?_
                refine lv_iload hx hb dX3_insertEach_44 (lv_at hl 6 rfl) ?_
                refine lv_iload hx hb dX3_insertEach_46 (lv_at hl 6 rfl) ?_
                refine lv_iconst (v := nI 1) hx hb dX3_insertEach_48 (by decide) ?_
                refine kn_isub hx hb (by omega) dX3_insertEach_49 ?_
                refine kx_cv (va_runV (As := [.int (nI a), .int (nI (a - 1))]) (rest := []) ⟨hx, hb, hml, hown, hts⟩ (m_X2_exchange l dC dI ad (xR S i (r.1, r.2.1, r.2.2)) i a (a - 1) hi (by omega) (by omega)) (cwV 2 hts gX3_insertEach_X2_exchange rfl rfl rfl hdX2_exchange_2 ⟨Nat.le_of_ble_eq_true rfl, Nat.le_of_ble_eq_true rfl⟩) (hX.preRow hi) rfl rfl hl.1 rfl (lv_room (Nat.le_of_ble_eq_true rfl)) dX3_insertEach_50 ⟨Nat.le_of_ble_eq_true rfl, Nat.le_of_ble_eq_true rfl⟩) hX (fun _ h => h) (fun S_ H locs hw hX => ?_)
                rw [xR_row, xR_xR] at hw
                subst hw
                refine lv_iinc (v := nI (a - 1)) (lv' := [(6, .int (nI (a - 1))), (0, .ref (ad (54 + w))), (1, .ref (ad (3 * i))), (2, .ref (ad (24 + 5 * j))), (3, .int (nI f)), (4, .int (nI t9)), (5, .int (nI nx))]) hx hb dX3_insertEach_53 hl (k := 6) rfl (kn_dec (by omega)) (by decide) rfl (fun ls hl => ?_)
                refine lv_goto (tgt := 16) hx hb dX3_insertEach_56 (by decide) ?_
                exact ih16  (xch r.1 a (a - 1), xch r.2.1 a (a - 1), r.2.2) (a - 1) ⟨rowOK_xch hr9.1 (by omega) (by omega), hr9.2⟩ (by omega) ⟨SP.swapD hb9.1 (by omega) (by omega) k_3, hb9.2.swap (by omega) (by omega) k_3⟩ _ _ (by omega) hX _ (lv_sub hl [1, 2, 3, 4, 5, 6, 0] rfl)
        exact loop16 (nx + 1) r nx hr9 (by omega) ⟨hs9.1, srtB.of hs9.2⟩ _ _ (by omega) (WX.eqS rfl hX) _ (lv_sub hl [1, 2, 3, 4, 5, 6, 0] rfl)
  exact loop5 (18 + 1) (S.1 i) (f + 1) ⟨hro, rfl⟩ (by omega) ⟨SP.refl _ _ _ _, srt_lo⟩ _ _ (by omega) (WX.eqS (xR_self S i).symm hX) _ (lv_sub hl [1, 2, 3, 4, 5, 0] rfl)
set_option maxHeartbeats 4000000 in
set_option maxRecDepth 100000 in
theorem s_X3_mergeTwo (l : Launch) (dC : Nat → ClassId) (dI : Nat → Nat → Nat) (ad : Nat → Nat) (S : XS) (w i j lo mi h9 : Nat) (hw : w < 2) (hi : i < 8) (hj : j < 6) (hro : rowOK (S.1 i)) (ho : ordOK (S.2.1 j)) (hig : i ≠ 3 + 2 * w) (hlo : lo ≤ mi) (hmi : mi ≤ h9) (hh9 : h9 ≤ (S.1 i).2.2) (hgo : rowOK (S.1 (3 + 2 * w))) (hgn : (S.1 (3 + 2 * w)).2.2 = lo) (hs1 : srt (S.2.1 j).2.2.1 (S.1 i).1 lo mi) (hs2 : srt (S.2.1 j).2.2.1 (S.1 i).1 mi h9) : Met l yX3_mergeTwo wsX3_mergeTwo ({ frames := 1, cells := 0, slots := 0, locals := 26 } : Room) (va_Pc [.ref (ad (54 + w)), .ref (ad (3 * i)), .ref (ad (24 + 5 * j)), .int (nI lo), .int (nI mi), .int (nI h9)] (PX dC dI ad S)) (va_Qv (fun S' => ∃ r' : RowS, S' = xR S (3 + 2 * w) r' ∧ rowOK r' ∧ r'.2.2 = h9 ∧ MDone (S.2.1 j).2.2.1 ((S.1 i).1, (S.1 i).2.1) ((S.1 (3 + 2 * w)).1, (S.1 (3 + 2 * w)).2.1) (r'.1, r'.2.1) lo h9) (PX dC dI ad) (AX ad)) 0 0 (AX ad) := by
  refine Met.ofW (cc := cX3_mergeTwo) (maxL := 11) (ret := none) pl_X3 rfl ?_
  intro p e s m args below meth c s₁ B hml hv
  obtain ⟨rfl, hPX⟩ := hv
  have hx := B.exec
  have hb := B.bytes
  have hr := B.returns
  have hts := atoms_spec (ws := wsX3_mergeTwo) B.pre
  have hown : s.vm.findClass RX3 = some m.cls := findClass_of_methodNamed B.named
  have hlocks := B.notSynchronized
  have hin3 : ∀ w ∈ u_ws RX3 TX3 1, w ∈ wsX3_mergeTwo := tu 1323 (by decide +kernel) rfl
  have hX := WX.of hPX
  have hl := lv_entry ([.ref (ad (54 + w)), .ref (ad (3 * i)), .ref (ad (24 + 5 * j)), .int (nI lo), .int (nI mi), .int (nI h9)]) (n := 11) (Nat.le_of_ble_eq_true rfl)
  rw [lg_entry_eq]
  generalize (lg_sl ([.ref (ad (54 + w)), .ref (ad (3 * i)), .ref (ad (24 + 5 * j)), .int (nI lo), .int (nI mi), .int (nI h9)]) ++ List.replicate (11 - (lg_sl ([.ref (ad (54 + w)), .ref (ad (3 * i)), .ref (ad (24 + 5 * j)), .int (nI lo), .int (nI mi), .int (nI h9)])).length) Slot.unset).toArray = ls at hl ⊢
  have hl : lv_has ls 11 [(0, .ref (ad (54 + w))), (1, .ref (ad (3 * i))), (2, .ref (ad (24 + 5 * j))), (3, .int (nI lo)), (4, .int (nI mi)), (5, .int (nI h9))] := hl
  show W p l e ({ frames := 1, cells := 0, slots := 0, locals := 26 } : Room) s m ([.ref (ad (54 + w)), .ref (ad (3 * i)), .ref (ad (24 + 5 * j)), .int (nI lo), .int (nI mi), .int (nI h9)]).toArray below meth c s.heap [] 0 0 (MQ below (va_Qv (fun S' => ∃ r' : RowS, S' = xR S (3 + 2 * w) r' ∧ rowOK r' ∧ r'.2.2 = h9 ∧ MDone (S.2.1 j).2.2.1 ((S.1 i).1, (S.1 i).2.1) ((S.1 (3 + 2 * w)).1, (S.1 (3 + 2 * w)).2.1) (r'.1, r'.2.1) lo h9) (PX dC dI ad) (AX ad)) ([.ref (ad (54 + w)), .ref (ad (3 * i)), .ref (ad (24 + 5 * j)), .int (nI lo), .int (nI mi), .int (nI h9)]).toArray s 0 0 (AX ad)) (F0 m 0 ls [])
  have hn := hro.1
  refine lv_iload_n hx hb dX3_mergeTwo_0 rfl (lv_at hl 3 rfl) ?_
  refine lv_istore (lv' := [(6, .int (nI lo)), (0, .ref (ad (54 + w))), (1, .ref (ad (3 * i))), (2, .ref (ad (24 + 5 * j))), (3, .int (nI lo)), (4, .int (nI mi)), (5, .int (nI h9))]) hx hb dX3_mergeTwo_1 hl (by decide) rfl (fun ls hl => ?_)
  refine lv_iload hx hb dX3_mergeTwo_3 (lv_at hl 5 rfl) ?_
  refine lv_istore (lv' := [(7, .int (nI mi)), (6, .int (nI lo)), (0, .ref (ad (54 + w))), (1, .ref (ad (3 * i))), (2, .ref (ad (24 + 5 * j))), (3, .int (nI lo)), (4, .int (nI mi)), (5, .int (nI h9))]) hx hb dX3_mergeTwo_5 hl (by decide) rfl (fun ls hl => ?_)
  refine lv_iload_n hx hb dX3_mergeTwo_7 rfl (lv_at hl 5 rfl) ?_
  refine lv_istore (lv' := [(8, .int (nI lo)), (7, .int (nI mi)), (6, .int (nI lo)), (0, .ref (ad (54 + w))), (1, .ref (ad (3 * i))), (2, .ref (ad (24 + 5 * j))), (3, .int (nI lo)), (4, .int (nI mi)), (5, .int (nI h9))]) hx hb dX3_mergeTwo_8 hl (by decide) rfl (fun ls hl => ?_)
  have loop10 : ∀ (fuel : Nat) (r : RowS) (a c9 q : Nat) (hr9 : rowOK r ∧ r.2.2 = q) (ha : lo ≤ a ∧ a ≤ mi ∧ mi ≤ c9 ∧ c9 ≤ h9 ∧ a + c9 = q + mi) (hm9 : MG (S.2.1 j).2.2.1 ((S.1 i).1, (S.1 i).2.1) ((S.1 (3 + 2 * w)).1, (S.1 (3 + 2 * w)).2.1) (r.1, r.2.1) lo mi h9 a c9 r.2.2) (H : Heap) (locs : List Loc), h9 - q < fuel → WX dC dI ad (xR S (3 + 2 * w) (r.1, r.2.1, r.2.2)) (AX ad) s H locs → ∀ ls : Array Slot, lv_has ls 11 [(0, .ref (ad (54 + w))), (1, .ref (ad (3 * i))), (2, .ref (ad (24 + 5 * j))), (3, .int (nI lo)), (4, .int (nI mi)), (5, .int (nI h9)), (6, .int (nI a)), (7, .int (nI c9)), (8, .int (nI q))] → W p l e ({ frames := 1, cells := 0, slots := 0, locals := 26 } : Room) s m ([.ref (ad (54 + w)), .ref (ad (3 * i)), .ref (ad (24 + 5 * j)), .int (nI lo), .int (nI mi), .int (nI h9)]).toArray below meth c H locs 0 0 (MQ below (va_Qv (fun S' => ∃ r' : RowS, S' = xR S (3 + 2 * w) r' ∧ rowOK r' ∧ r'.2.2 = h9 ∧ MDone (S.2.1 j).2.2.1 ((S.1 i).1, (S.1 i).2.1) ((S.1 (3 + 2 * w)).1, (S.1 (3 + 2 * w)).2.1) (r'.1, r'.2.1) lo h9) (PX dC dI ad) (AX ad)) ([.ref (ad (54 + w)), .ref (ad (3 * i)), .ref (ad (24 + 5 * j)), .int (nI lo), .int (nI mi), .int (nI h9)]).toArray s 0 0 (AX ad)) (F0 m 10 ls []) := by
    intro fuel
    induction fuel with
    | zero => intro r a c9 q hr9 ha hm9 H locs hf; exact absurd hf (Nat.not_lt_zero _)
    | succ fuel ih10 =>
      intro r a c9 q hr9 ha hm9 H locs hf hX ls hl
      refine lv_iload hx hb dX3_mergeTwo_10 (lv_at hl 8 rfl) ?_
      refine lv_iload hx hb dX3_mergeTwo_12 (lv_at hl 5 rfl) ?_
      refine kn_icmp_ge (tgt := 110) hx hb (by omega) (by omega) dX3_mergeTwo_14 (by decide) (fun k_1 => ?_) (fun k_1 => ?_)
      · skip
        exact W.vret hx hb hr (fun t9 ht9 hW9 => ⟨⟨(xR S (3 + 2 * w) (r.1, r.2.1, r.2.2)), rfl, ⟨r, rfl, hr9.1, by omega, hm9.done (by omega) (by omega) (by omega)⟩, hX.P ht9 hW9⟩, hX.2.2.2.F ht9⟩) hX.2.2.2.2.2 dX3_mergeTwo_110
      · skip
        refine lv_iload hx hb dX3_mergeTwo_17 (lv_at hl 6 rfl) ?_
        refine lv_iload hx hb dX3_mergeTwo_19 (lv_at hl 4 rfl) ?_
        refine kn_icmp_ge (tgt := 50) hx hb (by omega) (by omega) dX3_mergeTwo_21 (by decide) (fun k_2 => ?_) (fun k_2 => ?_)
        · skip
          refine lv_iconst (v := nI 1) hx hb dX3_mergeTwo_50 (by decide) ?_
          refine lv_goto (tgt := 55) hx hb dX3_mergeTwo_51 (by decide) ?_
          refine lv_istore (lv' := [(9, .int (nI 1)), (0, .ref (ad (54 + w))), (1, .ref (ad (3 * i))), (2, .ref (ad (24 + 5 * j))), (3, .int (nI lo)), (4, .int (nI mi)), (5, .int (nI h9)), (6, .int (nI a)), (7, .int (nI c9)), (8, .int (nI q))]) hx hb dX3_mergeTwo_55 hl (by decide) rfl (fun ls hl => ?_)
          refine lv_iload hx hb dX3_mergeTwo_57 (lv_at hl 0 rfl) ?_
          refine kn_if_eq (tgt := 67) hx hb (by omega) dX3_mergeTwo_59 (by decide) (fun k_3 => absurd k_3 (by omega)) (fun k_3 => ?_)
          refine lv_iload hx hb dX3_mergeTwo_62 (lv_at hl 8 rfl) ?_
          refine lv_goto (tgt := 69) hx hb dX3_mergeTwo_64 (by decide) ?_
          refine lv_istore (lv' := [(10, .int (nI c9)), (9, .int (nI 1)), (0, .ref (ad (54 + w))), (1, .ref (ad (3 * i))), (2, .ref (ad (24 + 5 * j))), (3, .int (nI lo)), (4, .int (nI mi)), (5, .int (nI h9)), (6, .int (nI a)), (7, .int (nI c9)), (8, .int (nI q))]) hx hb dX3_mergeTwo_69 hl (by decide) rfl (fun ls hl => ?_)
          refine lv_aload_n hx hb dX3_mergeTwo_71 rfl (lv_at hl 2 rfl) ?_
          refine ks_gg hx hb hts hin3 hown hX hw (hts (.fieldLink RX3 10 "Orderlattice$Sorter" "gathered" "LOrderlattice$Row;") (tm 20 (by decide +kernel) rfl)) dX3_mergeTwo_72 ?_
          refine lv_aload_n hx hb dX3_mergeTwo_75 rfl (lv_at hl 3 rfl) ?_
          refine lv_iload hx hb dX3_mergeTwo_76 (lv_at hl 0 rfl) ?_
          refine kx_cr (v := nI ((S.1 i).1 c9)) (va_runV (As := [.int (nI c9)]) (rest := [.ref (ad (3 * (3 + 2 * w)))]) ⟨hx, hb, hml, hown, hts⟩ (m_X2_valueOn l dC dI ad (xR S (3 + 2 * w) (r.1, r.2.1, r.2.2)) i c9 hi (by omega)) (cwV 1 hts gX3_mergeTwo_X2_valueOn rfl rfl rfl hdX2_valueOn_1 ⟨Nat.le_of_ble_eq_true rfl, Nat.le_of_ble_eq_true rfl⟩) (hX.preRow hi) rfl rfl hl.1 rfl (lv_room (Nat.le_of_ble_eq_true rfl)) dX3_mergeTwo_78 ⟨Nat.le_of_ble_eq_true rfl, Nat.le_of_ble_eq_true rfl⟩) (fun _ h => by rw [h, xR_ne _ _ hig]) ?_
          refine lv_aload_n hx hb dX3_mergeTwo_81 rfl (lv_at hl 3 rfl) ?_
          refine lv_iload hx hb dX3_mergeTwo_82 (lv_at hl 0 rfl) ?_
          refine kx_cr (v := nI ((S.1 i).2.1 c9)) (va_runV (As := [.int (nI c9)]) (rest := [.int (nI ((S.1 i).1 c9)), .ref (ad (3 * (3 + 2 * w)))]) ⟨hx, hb, hml, hown, hts⟩ (m_X2_markOn l dC dI ad (xR S (3 + 2 * w) (r.1, r.2.1, r.2.2)) i c9 hi (by omega)) (cwV 1 hts gX3_mergeTwo_X2_markOn rfl rfl rfl hdX2_markOn_1 ⟨Nat.le_of_ble_eq_true rfl, Nat.le_of_ble_eq_true rfl⟩) (hX.preRow hi) rfl rfl hl.1 rfl (lv_room (Nat.le_of_ble_eq_true rfl)) dX3_mergeTwo_84 ⟨Nat.le_of_ble_eq_true rfl, Nat.le_of_ble_eq_true rfl⟩) (fun _ h => by rw [h, xR_ne _ _ hig]) ?_
          refine kx_cv (va_runV (As := [.int (nI ((S.1 i).1 c9)), .int (nI ((S.1 i).2.1 c9))]) (rest := []) ⟨hx, hb, hml, hown, hts⟩ (m_X2_append l dC dI ad (xR S (3 + 2 * w) (r.1, r.2.1, r.2.2)) (3 + 2 * w) ((S.1 i).1 c9) ((S.1 i).2.1 c9) (by omega) (by rw [xR_row]; show r.2.2 < 16; omega)) (cwV 2 hts gX3_mergeTwo_X2_append rfl rfl rfl hdX2_append_2 ⟨Nat.le_of_ble_eq_true rfl, Nat.le_of_ble_eq_true rfl⟩) (hX.preRow (by omega)) rfl rfl hl.1 rfl (lv_room (Nat.le_of_ble_eq_true rfl)) dX3_mergeTwo_87 ⟨Nat.le_of_ble_eq_true rfl, Nat.le_of_ble_eq_true rfl⟩) hX (fun _ h => h) (fun S_ H locs hw hX => ?_)
          rw [xR_row, xR_xR] at hw
          subst hw
          refine lv_iload hx hb dX3_mergeTwo_90 (lv_at hl 1 rfl) ?_
          refine kn_if_eq (tgt := 101) hx hb (by omega) dX3_mergeTwo_92 (by decide) (fun k_4 => absurd k_4 (by omega)) (fun k_4 => ?_)
          refine lv_iinc (v := nI (c9 + 1)) (lv' := [(7, .int (nI (c9 + 1))), (10, .int (nI c9)), (9, .int (nI 1)), (0, .ref (ad (54 + w))), (1, .ref (ad (3 * i))), (2, .ref (ad (24 + 5 * j))), (3, .int (nI lo)), (4, .int (nI mi)), (5, .int (nI h9)), (6, .int (nI a)), (8, .int (nI q))]) hx hb dX3_mergeTwo_95 hl (k := 9) rfl (nI_1 c9) (by decide) rfl (fun ls hl => ?_)
          refine lv_goto (tgt := 104) hx hb dX3_mergeTwo_98 (by decide) ?_
          refine lv_iinc (v := nI (q + 1)) (lv' := [(8, .int (nI (q + 1))), (7, .int (nI (c9 + 1))), (10, .int (nI c9)), (9, .int (nI 1)), (0, .ref (ad (54 + w))), (1, .ref (ad (3 * i))), (2, .ref (ad (24 + 5 * j))), (3, .int (nI lo)), (4, .int (nI mi)), (5, .int (nI h9)), (6, .int (nI a))]) hx hb dX3_mergeTwo_104 hl (k := 10) rfl (nI_1 q) (by decide) rfl (fun ls hl => ?_)
          refine lv_goto (tgt := 10) hx hb dX3_mergeTwo_107 (by decide) ?_
          exact ih10  (va_up r.1 r.2.2 ((S.1 i).1 c9), va_up r.2.1 r.2.2 ((S.1 i).2.1 c9), r.2.2 + 1) a (c9 + 1) (q + 1) ⟨rowOK_app hr9.1 (by omega) (hro.2 _ (by omega)).1 (hro.2 _ (by omega)).2, congrArg (· + 1) hr9.2⟩ (by omega) (MG.right hm9 (by omega) (by omega) hs1 hs2 (by omega) (by omega) (Or.inl k_2)) _ _ (by omega) hX _ (lv_sub hl [4, 5, 6, 7, 8, 9, 10, 1, 0] rfl)
        · skip
          refine lv_iload hx hb dX3_mergeTwo_24 (lv_at hl 7 rfl) ?_
          refine lv_iload hx hb dX3_mergeTwo_26 (lv_at hl 5 rfl) ?_
          refine kn_icmp_ge (tgt := 54) hx hb (by omega) (by omega) dX3_mergeTwo_28 (by decide) (fun k_5 => ?_) (fun k_5 => ?_)
          · skip
            refine lv_iconst (v := nI 0) hx hb dX3_mergeTwo_54 (by decide) ?_
            refine lv_istore (lv' := [(9, .int (nI 0)), (0, .ref (ad (54 + w))), (1, .ref (ad (3 * i))), (2, .ref (ad (24 + 5 * j))), (3, .int (nI lo)), (4, .int (nI mi)), (5, .int (nI h9)), (6, .int (nI a)), (7, .int (nI c9)), (8, .int (nI q))]) hx hb dX3_mergeTwo_55 hl (by decide) rfl (fun ls hl => ?_)
            refine lv_iload hx hb dX3_mergeTwo_57 (lv_at hl 0 rfl) ?_
            refine kn_if_eq (tgt := 67) hx hb (by omega) dX3_mergeTwo_59 (by decide) (fun k_6 => ?_) (fun k_6 => absurd k_6 (by omega))
            refine lv_iload hx hb dX3_mergeTwo_67 (lv_at hl 7 rfl) ?_
            refine lv_istore (lv' := [(10, .int (nI a)), (9, .int (nI 0)), (0, .ref (ad (54 + w))), (1, .ref (ad (3 * i))), (2, .ref (ad (24 + 5 * j))), (3, .int (nI lo)), (4, .int (nI mi)), (5, .int (nI h9)), (6, .int (nI a)), (7, .int (nI c9)), (8, .int (nI q))]) hx hb dX3_mergeTwo_69 hl (by decide) rfl (fun ls hl => ?_)
            refine lv_aload_n hx hb dX3_mergeTwo_71 rfl (lv_at hl 2 rfl) ?_
            refine ks_gg hx hb hts hin3 hown hX hw (hts (.fieldLink RX3 10 "Orderlattice$Sorter" "gathered" "LOrderlattice$Row;") (tm 20 (by decide +kernel) rfl)) dX3_mergeTwo_72 ?_
            refine lv_aload_n hx hb dX3_mergeTwo_75 rfl (lv_at hl 3 rfl) ?_
            refine lv_iload hx hb dX3_mergeTwo_76 (lv_at hl 0 rfl) ?_
            refine kx_cr (v := nI ((S.1 i).1 a)) (va_runV (As := [.int (nI a)]) (rest := [.ref (ad (3 * (3 + 2 * w)))]) ⟨hx, hb, hml, hown, hts⟩ (m_X2_valueOn l dC dI ad (xR S (3 + 2 * w) (r.1, r.2.1, r.2.2)) i a hi (by omega)) (cwV 1 hts gX3_mergeTwo_X2_valueOn rfl rfl rfl hdX2_valueOn_1 ⟨Nat.le_of_ble_eq_true rfl, Nat.le_of_ble_eq_true rfl⟩) (hX.preRow hi) rfl rfl hl.1 rfl (lv_room (Nat.le_of_ble_eq_true rfl)) dX3_mergeTwo_78 ⟨Nat.le_of_ble_eq_true rfl, Nat.le_of_ble_eq_true rfl⟩) (fun _ h => by rw [h, xR_ne _ _ hig]) ?_
            refine lv_aload_n hx hb dX3_mergeTwo_81 rfl (lv_at hl 3 rfl) ?_
            refine lv_iload hx hb dX3_mergeTwo_82 (lv_at hl 0 rfl) ?_
            refine kx_cr (v := nI ((S.1 i).2.1 a)) (va_runV (As := [.int (nI a)]) (rest := [.int (nI ((S.1 i).1 a)), .ref (ad (3 * (3 + 2 * w)))]) ⟨hx, hb, hml, hown, hts⟩ (m_X2_markOn l dC dI ad (xR S (3 + 2 * w) (r.1, r.2.1, r.2.2)) i a hi (by omega)) (cwV 1 hts gX3_mergeTwo_X2_markOn rfl rfl rfl hdX2_markOn_1 ⟨Nat.le_of_ble_eq_true rfl, Nat.le_of_ble_eq_true rfl⟩) (hX.preRow hi) rfl rfl hl.1 rfl (lv_room (Nat.le_of_ble_eq_true rfl)) dX3_mergeTwo_84 ⟨Nat.le_of_ble_eq_true rfl, Nat.le_of_ble_eq_true rfl⟩) (fun _ h => by rw [h, xR_ne _ _ hig]) ?_
            refine kx_cv (va_runV (As := [.int (nI ((S.1 i).1 a)), .int (nI ((S.1 i).2.1 a))]) (rest := []) ⟨hx, hb, hml, hown, hts⟩ (m_X2_append l dC dI ad (xR S (3 + 2 * w) (r.1, r.2.1, r.2.2)) (3 + 2 * w) ((S.1 i).1 a) ((S.1 i).2.1 a) (by omega) (by rw [xR_row]; show r.2.2 < 16; omega)) (cwV 2 hts gX3_mergeTwo_X2_append rfl rfl rfl hdX2_append_2 ⟨Nat.le_of_ble_eq_true rfl, Nat.le_of_ble_eq_true rfl⟩) (hX.preRow (by omega)) rfl rfl hl.1 rfl (lv_room (Nat.le_of_ble_eq_true rfl)) dX3_mergeTwo_87 ⟨Nat.le_of_ble_eq_true rfl, Nat.le_of_ble_eq_true rfl⟩) hX (fun _ h => h) (fun S_ H locs hw hX => ?_)
            rw [xR_row, xR_xR] at hw
            subst hw
            refine lv_iload hx hb dX3_mergeTwo_90 (lv_at hl 1 rfl) ?_
            refine kn_if_eq (tgt := 101) hx hb (by omega) dX3_mergeTwo_92 (by decide) (fun k_7 => ?_) (fun k_7 => absurd k_7 (by omega))
            refine lv_iinc (v := nI (a + 1)) (lv' := [(6, .int (nI (a + 1))), (10, .int (nI a)), (9, .int (nI 0)), (0, .ref (ad (54 + w))), (1, .ref (ad (3 * i))), (2, .ref (ad (24 + 5 * j))), (3, .int (nI lo)), (4, .int (nI mi)), (5, .int (nI h9)), (7, .int (nI c9)), (8, .int (nI q))]) hx hb dX3_mergeTwo_101 hl (k := 8) rfl (nI_1 a) (by decide) rfl (fun ls hl => ?_)
            refine lv_iinc (v := nI (q + 1)) (lv' := [(8, .int (nI (q + 1))), (6, .int (nI (a + 1))), (10, .int (nI a)), (9, .int (nI 0)), (0, .ref (ad (54 + w))), (1, .ref (ad (3 * i))), (2, .ref (ad (24 + 5 * j))), (3, .int (nI lo)), (4, .int (nI mi)), (5, .int (nI h9)), (7, .int (nI c9))]) hx hb dX3_mergeTwo_104 hl (k := 10) rfl (nI_1 q) (by decide) rfl (fun ls hl => ?_)
            refine lv_goto (tgt := 10) hx hb dX3_mergeTwo_107 (by decide) ?_
            exact ih10  (va_up r.1 r.2.2 ((S.1 i).1 a), va_up r.2.1 r.2.2 ((S.1 i).2.1 a), r.2.2 + 1) (a + 1) c9 (q + 1) ⟨rowOK_app hr9.1 (by omega) (hro.2 _ (by omega)).1 (hro.2 _ (by omega)).2, congrArg (· + 1) hr9.2⟩ (by omega) (MG.left hm9 (by omega) (by omega) hs1 hs2 (by omega) (by omega) (Or.inl k_5)) _ _ (by omega) hX _ (lv_sub hl [4, 5, 6, 7, 8, 9, 1, 10, 0] rfl)
          · skip
            refine lv_aload_n hx hb dX3_mergeTwo_31 rfl (lv_at hl 2 rfl) ?_
            refine lv_aload_n hx hb dX3_mergeTwo_32 rfl (lv_at hl 1 rfl) ?_
            refine lv_iload hx hb dX3_mergeTwo_33 (lv_at hl 7 rfl) ?_
            refine kx_cr (v := nI ((S.1 i).1 c9)) (va_runV (As := [.int (nI c9)]) (rest := [.ref (ad (24 + 5 * j))]) ⟨hx, hb, hml, hown, hts⟩ (m_X2_valueOn l dC dI ad (xR S (3 + 2 * w) (r.1, r.2.1, r.2.2)) i c9 hi (by omega)) (cwV 1 hts gX3_mergeTwo_X2_valueOn rfl rfl rfl hdX2_valueOn_1 ⟨Nat.le_of_ble_eq_true rfl, Nat.le_of_ble_eq_true rfl⟩) (hX.preRow hi) rfl rfl hl.1 rfl (lv_room (Nat.le_of_ble_eq_true rfl)) dX3_mergeTwo_35 ⟨Nat.le_of_ble_eq_true rfl, Nat.le_of_ble_eq_true rfl⟩) (fun _ h => by rw [h, xR_ne _ _ hig]) ?_
            refine lv_aload_n hx hb dX3_mergeTwo_38 rfl (lv_at hl 1 rfl) ?_
            refine lv_iload hx hb dX3_mergeTwo_39 (lv_at hl 6 rfl) ?_
            refine kx_cr (v := nI ((S.1 i).1 a)) (va_runV (As := [.int (nI a)]) (rest := [.int (nI ((S.1 i).1 c9)), .ref (ad (24 + 5 * j))]) ⟨hx, hb, hml, hown, hts⟩ (m_X2_valueOn l dC dI ad (xR S (3 + 2 * w) (r.1, r.2.1, r.2.2)) i a hi (by omega)) (cwV 1 hts gX3_mergeTwo_X2_valueOn rfl rfl rfl hdX2_valueOn_1 ⟨Nat.le_of_ble_eq_true rfl, Nat.le_of_ble_eq_true rfl⟩) (hX.preRow hi) rfl rfl hl.1 rfl (lv_room (Nat.le_of_ble_eq_true rfl)) dX3_mergeTwo_41 ⟨Nat.le_of_ble_eq_true rfl, Nat.le_of_ble_eq_true rfl⟩) (fun _ h => by rw [h, xR_ne _ _ hig]) ?_
            refine kx_cr (v := cmpI (((S.2.1 j).2.2.1) ((S.1 i).1 c9)) (((S.2.1 j).2.2.1) ((S.1 i).1 a))) (va_runV (As := [.int (nI ((S.1 i).1 c9)), .int (nI ((S.1 i).1 a))]) (rest := []) ⟨hx, hb, hml, hown, hts⟩ (m_X1_compared l dC dI ad (xR S (3 + 2 * w) (r.1, r.2.1, r.2.2)) j ((S.1 i).1 c9) ((S.1 i).1 a) hj ho (hro.2 _ (by omega)).1 (hro.2 _ (by omega)).1) (cwV 2 hts gX3_mergeTwo_X1_compared rfl rfl rfl hdX1_compared_2 ⟨Nat.le_of_ble_eq_true rfl, Nat.le_of_ble_eq_true rfl⟩) (hX.preOrd hj) rfl rfl hl.1 rfl (lv_room (Nat.le_of_ble_eq_true rfl)) dX3_mergeTwo_44 ⟨Nat.le_of_ble_eq_true rfl, Nat.le_of_ble_eq_true rfl⟩) (fun _ h => h) ?_
            refine kc_if_ge (tgt := 54) hx hb dX3_mergeTwo_47 (by decide) (fun k_8 => ?_) (fun k_8 => ?_)
            · skip
              refine lv_iconst (v := nI 0) hx hb dX3_mergeTwo_54 (by decide) ?_
              refine lv_istore (lv' := [(9, .int (nI 0)), (0, .ref (ad (54 + w))), (1, .ref (ad (3 * i))), (2, .ref (ad (24 + 5 * j))), (3, .int (nI lo)), (4, .int (nI mi)), (5, .int (nI h9)), (6, .int (nI a)), (7, .int (nI c9)), (8, .int (nI q))]) hx hb dX3_mergeTwo_55 hl (by decide) rfl (fun ls hl => ?_)
              refine lv_iload hx hb dX3_mergeTwo_57 (lv_at hl 0 rfl) ?_
              refine kn_if_eq (tgt := 67) hx hb (by omega) dX3_mergeTwo_59 (by decide) (fun k_9 => ?_) (fun k_9 => absurd k_9 (by omega))
              refine lv_iload hx hb dX3_mergeTwo_67 (lv_at hl 7 rfl) ?_
              refine lv_istore (lv' := [(10, .int (nI a)), (9, .int (nI 0)), (0, .ref (ad (54 + w))), (1, .ref (ad (3 * i))), (2, .ref (ad (24 + 5 * j))), (3, .int (nI lo)), (4, .int (nI mi)), (5, .int (nI h9)), (6, .int (nI a)), (7, .int (nI c9)), (8, .int (nI q))]) hx hb dX3_mergeTwo_69 hl (by decide) rfl (fun ls hl => ?_)
              refine lv_aload_n hx hb dX3_mergeTwo_71 rfl (lv_at hl 2 rfl) ?_
              refine ks_gg hx hb hts hin3 hown hX hw (hts (.fieldLink RX3 10 "Orderlattice$Sorter" "gathered" "LOrderlattice$Row;") (tm 20 (by decide +kernel) rfl)) dX3_mergeTwo_72 ?_
              refine lv_aload_n hx hb dX3_mergeTwo_75 rfl (lv_at hl 3 rfl) ?_
              refine lv_iload hx hb dX3_mergeTwo_76 (lv_at hl 0 rfl) ?_
              refine kx_cr (v := nI ((S.1 i).1 a)) (va_runV (As := [.int (nI a)]) (rest := [.ref (ad (3 * (3 + 2 * w)))]) ⟨hx, hb, hml, hown, hts⟩ (m_X2_valueOn l dC dI ad (xR S (3 + 2 * w) (r.1, r.2.1, r.2.2)) i a hi (by omega)) (cwV 1 hts gX3_mergeTwo_X2_valueOn rfl rfl rfl hdX2_valueOn_1 ⟨Nat.le_of_ble_eq_true rfl, Nat.le_of_ble_eq_true rfl⟩) (hX.preRow hi) rfl rfl hl.1 rfl (lv_room (Nat.le_of_ble_eq_true rfl)) dX3_mergeTwo_78 ⟨Nat.le_of_ble_eq_true rfl, Nat.le_of_ble_eq_true rfl⟩) (fun _ h => by rw [h, xR_ne _ _ hig]) ?_
              refine lv_aload_n hx hb dX3_mergeTwo_81 rfl (lv_at hl 3 rfl) ?_
              refine lv_iload hx hb dX3_mergeTwo_82 (lv_at hl 0 rfl) ?_
              refine kx_cr (v := nI ((S.1 i).2.1 a)) (va_runV (As := [.int (nI a)]) (rest := [.int (nI ((S.1 i).1 a)), .ref (ad (3 * (3 + 2 * w)))]) ⟨hx, hb, hml, hown, hts⟩ (m_X2_markOn l dC dI ad (xR S (3 + 2 * w) (r.1, r.2.1, r.2.2)) i a hi (by omega)) (cwV 1 hts gX3_mergeTwo_X2_markOn rfl rfl rfl hdX2_markOn_1 ⟨Nat.le_of_ble_eq_true rfl, Nat.le_of_ble_eq_true rfl⟩) (hX.preRow hi) rfl rfl hl.1 rfl (lv_room (Nat.le_of_ble_eq_true rfl)) dX3_mergeTwo_84 ⟨Nat.le_of_ble_eq_true rfl, Nat.le_of_ble_eq_true rfl⟩) (fun _ h => by rw [h, xR_ne _ _ hig]) ?_
              refine kx_cv (va_runV (As := [.int (nI ((S.1 i).1 a)), .int (nI ((S.1 i).2.1 a))]) (rest := []) ⟨hx, hb, hml, hown, hts⟩ (m_X2_append l dC dI ad (xR S (3 + 2 * w) (r.1, r.2.1, r.2.2)) (3 + 2 * w) ((S.1 i).1 a) ((S.1 i).2.1 a) (by omega) (by rw [xR_row]; show r.2.2 < 16; omega)) (cwV 2 hts gX3_mergeTwo_X2_append rfl rfl rfl hdX2_append_2 ⟨Nat.le_of_ble_eq_true rfl, Nat.le_of_ble_eq_true rfl⟩) (hX.preRow (by omega)) rfl rfl hl.1 rfl (lv_room (Nat.le_of_ble_eq_true rfl)) dX3_mergeTwo_87 ⟨Nat.le_of_ble_eq_true rfl, Nat.le_of_ble_eq_true rfl⟩) hX (fun _ h => h) (fun S_ H locs hw hX => ?_)
              rw [xR_row, xR_xR] at hw
              subst hw
              refine lv_iload hx hb dX3_mergeTwo_90 (lv_at hl 1 rfl) ?_
              refine kn_if_eq (tgt := 101) hx hb (by omega) dX3_mergeTwo_92 (by decide) (fun k_10 => ?_) (fun k_10 => absurd k_10 (by omega))
              refine lv_iinc (v := nI (a + 1)) (lv' := [(6, .int (nI (a + 1))), (10, .int (nI a)), (9, .int (nI 0)), (0, .ref (ad (54 + w))), (1, .ref (ad (3 * i))), (2, .ref (ad (24 + 5 * j))), (3, .int (nI lo)), (4, .int (nI mi)), (5, .int (nI h9)), (7, .int (nI c9)), (8, .int (nI q))]) hx hb dX3_mergeTwo_101 hl (k := 8) rfl (nI_1 a) (by decide) rfl (fun ls hl => ?_)
              refine lv_iinc (v := nI (q + 1)) (lv' := [(8, .int (nI (q + 1))), (6, .int (nI (a + 1))), (10, .int (nI a)), (9, .int (nI 0)), (0, .ref (ad (54 + w))), (1, .ref (ad (3 * i))), (2, .ref (ad (24 + 5 * j))), (3, .int (nI lo)), (4, .int (nI mi)), (5, .int (nI h9)), (7, .int (nI c9))]) hx hb dX3_mergeTwo_104 hl (k := 10) rfl (nI_1 q) (by decide) rfl (fun ls hl => ?_)
              refine lv_goto (tgt := 10) hx hb dX3_mergeTwo_107 (by decide) ?_
              exact ih10  (va_up r.1 r.2.2 ((S.1 i).1 a), va_up r.2.1 r.2.2 ((S.1 i).2.1 a), r.2.2 + 1) (a + 1) c9 (q + 1) ⟨rowOK_app hr9.1 (by omega) (hro.2 _ (by omega)).1 (hro.2 _ (by omega)).2, congrArg (· + 1) hr9.2⟩ (by omega) (MG.left hm9 (by omega) (by omega) hs1 hs2 (by omega) (by omega) (Or.inr k_8)) _ _ (by omega) hX _ (lv_sub hl [4, 5, 6, 7, 8, 9, 1, 10, 0] rfl)
            · skip
              refine lv_iconst (v := nI 1) hx hb dX3_mergeTwo_50 (by decide) ?_
              refine lv_goto (tgt := 55) hx hb dX3_mergeTwo_51 (by decide) ?_
              refine lv_istore (lv' := [(9, .int (nI 1)), (0, .ref (ad (54 + w))), (1, .ref (ad (3 * i))), (2, .ref (ad (24 + 5 * j))), (3, .int (nI lo)), (4, .int (nI mi)), (5, .int (nI h9)), (6, .int (nI a)), (7, .int (nI c9)), (8, .int (nI q))]) hx hb dX3_mergeTwo_55 hl (by decide) rfl (fun ls hl => ?_)
              refine lv_iload hx hb dX3_mergeTwo_57 (lv_at hl 0 rfl) ?_
              refine kn_if_eq (tgt := 67) hx hb (by omega) dX3_mergeTwo_59 (by decide) (fun k_11 => absurd k_11 (by omega)) (fun k_11 => ?_)
              refine lv_iload hx hb dX3_mergeTwo_62 (lv_at hl 8 rfl) ?_
              refine lv_goto (tgt := 69) hx hb dX3_mergeTwo_64 (by decide) ?_
              refine lv_istore (lv' := [(10, .int (nI c9)), (9, .int (nI 1)), (0, .ref (ad (54 + w))), (1, .ref (ad (3 * i))), (2, .ref (ad (24 + 5 * j))), (3, .int (nI lo)), (4, .int (nI mi)), (5, .int (nI h9)), (6, .int (nI a)), (7, .int (nI c9)), (8, .int (nI q))]) hx hb dX3_mergeTwo_69 hl (by decide) rfl (fun ls hl => ?_)
              refine lv_aload_n hx hb dX3_mergeTwo_71 rfl (lv_at hl 2 rfl) ?_
              refine ks_gg hx hb hts hin3 hown hX hw (hts (.fieldLink RX3 10 "Orderlattice$Sorter" "gathered" "LOrderlattice$Row;") (tm 20 (by decide +kernel) rfl)) dX3_mergeTwo_72 ?_
              refine lv_aload_n hx hb dX3_mergeTwo_75 rfl (lv_at hl 3 rfl) ?_
              refine lv_iload hx hb dX3_mergeTwo_76 (lv_at hl 0 rfl) ?_
              refine kx_cr (v := nI ((S.1 i).1 c9)) (va_runV (As := [.int (nI c9)]) (rest := [.ref (ad (3 * (3 + 2 * w)))]) ⟨hx, hb, hml, hown, hts⟩ (m_X2_valueOn l dC dI ad (xR S (3 + 2 * w) (r.1, r.2.1, r.2.2)) i c9 hi (by omega)) (cwV 1 hts gX3_mergeTwo_X2_valueOn rfl rfl rfl hdX2_valueOn_1 ⟨Nat.le_of_ble_eq_true rfl, Nat.le_of_ble_eq_true rfl⟩) (hX.preRow hi) rfl rfl hl.1 rfl (lv_room (Nat.le_of_ble_eq_true rfl)) dX3_mergeTwo_78 ⟨Nat.le_of_ble_eq_true rfl, Nat.le_of_ble_eq_true rfl⟩) (fun _ h => by rw [h, xR_ne _ _ hig]) ?_
              refine lv_aload_n hx hb dX3_mergeTwo_81 rfl (lv_at hl 3 rfl) ?_
              refine lv_iload hx hb dX3_mergeTwo_82 (lv_at hl 0 rfl) ?_
              refine kx_cr (v := nI ((S.1 i).2.1 c9)) (va_runV (As := [.int (nI c9)]) (rest := [.int (nI ((S.1 i).1 c9)), .ref (ad (3 * (3 + 2 * w)))]) ⟨hx, hb, hml, hown, hts⟩ (m_X2_markOn l dC dI ad (xR S (3 + 2 * w) (r.1, r.2.1, r.2.2)) i c9 hi (by omega)) (cwV 1 hts gX3_mergeTwo_X2_markOn rfl rfl rfl hdX2_markOn_1 ⟨Nat.le_of_ble_eq_true rfl, Nat.le_of_ble_eq_true rfl⟩) (hX.preRow hi) rfl rfl hl.1 rfl (lv_room (Nat.le_of_ble_eq_true rfl)) dX3_mergeTwo_84 ⟨Nat.le_of_ble_eq_true rfl, Nat.le_of_ble_eq_true rfl⟩) (fun _ h => by rw [h, xR_ne _ _ hig]) ?_
              refine kx_cv (va_runV (As := [.int (nI ((S.1 i).1 c9)), .int (nI ((S.1 i).2.1 c9))]) (rest := []) ⟨hx, hb, hml, hown, hts⟩ (m_X2_append l dC dI ad (xR S (3 + 2 * w) (r.1, r.2.1, r.2.2)) (3 + 2 * w) ((S.1 i).1 c9) ((S.1 i).2.1 c9) (by omega) (by rw [xR_row]; show r.2.2 < 16; omega)) (cwV 2 hts gX3_mergeTwo_X2_append rfl rfl rfl hdX2_append_2 ⟨Nat.le_of_ble_eq_true rfl, Nat.le_of_ble_eq_true rfl⟩) (hX.preRow (by omega)) rfl rfl hl.1 rfl (lv_room (Nat.le_of_ble_eq_true rfl)) dX3_mergeTwo_87 ⟨Nat.le_of_ble_eq_true rfl, Nat.le_of_ble_eq_true rfl⟩) hX (fun _ h => h) (fun S_ H locs hw hX => ?_)
              rw [xR_row, xR_xR] at hw
              subst hw
              refine lv_iload hx hb dX3_mergeTwo_90 (lv_at hl 1 rfl) ?_
              refine kn_if_eq (tgt := 101) hx hb (by omega) dX3_mergeTwo_92 (by decide) (fun k_12 => absurd k_12 (by omega)) (fun k_12 => ?_)
              refine lv_iinc (v := nI (c9 + 1)) (lv' := [(7, .int (nI (c9 + 1))), (10, .int (nI c9)), (9, .int (nI 1)), (0, .ref (ad (54 + w))), (1, .ref (ad (3 * i))), (2, .ref (ad (24 + 5 * j))), (3, .int (nI lo)), (4, .int (nI mi)), (5, .int (nI h9)), (6, .int (nI a)), (8, .int (nI q))]) hx hb dX3_mergeTwo_95 hl (k := 9) rfl (nI_1 c9) (by decide) rfl (fun ls hl => ?_)
              refine lv_goto (tgt := 104) hx hb dX3_mergeTwo_98 (by decide) ?_
              refine lv_iinc (v := nI (q + 1)) (lv' := [(8, .int (nI (q + 1))), (7, .int (nI (c9 + 1))), (10, .int (nI c9)), (9, .int (nI 1)), (0, .ref (ad (54 + w))), (1, .ref (ad (3 * i))), (2, .ref (ad (24 + 5 * j))), (3, .int (nI lo)), (4, .int (nI mi)), (5, .int (nI h9)), (6, .int (nI a))]) hx hb dX3_mergeTwo_104 hl (k := 10) rfl (nI_1 q) (by decide) rfl (fun ls hl => ?_)
              refine lv_goto (tgt := 10) hx hb dX3_mergeTwo_107 (by decide) ?_
              exact ih10  (va_up r.1 r.2.2 ((S.1 i).1 c9), va_up r.2.1 r.2.2 ((S.1 i).2.1 c9), r.2.2 + 1) a (c9 + 1) (q + 1) ⟨rowOK_app hr9.1 (by omega) (hro.2 _ (by omega)).1 (hro.2 _ (by omega)).2, congrArg (· + 1) hr9.2⟩ (by omega) (MG.right hm9 (by omega) (by omega) hs1 hs2 (by omega) (by omega) (Or.inr k_8)) _ _ (by omega) hX _ (lv_sub hl [4, 5, 6, 7, 8, 9, 10, 1, 0] rfl)
  exact loop10 (h9 + 1) (S.1 (3 + 2 * w)) lo mi lo ⟨hgo, hgn⟩ (by omega) (by rw [hgn]; exact MG.start hlo hmi) _ _ (by omega) (WX.eqS (xR_self S _).symm hX) _ (lv_sub hl [3, 4, 5, 6, 7, 8, 2, 1, 0] rfl)
set_option maxHeartbeats 4000000 in
set_option maxRecDepth 100000 in
theorem s_X3_mergeRuns (l : Launch) (dC : Nat → ClassId) (dI : Nat → Nat → Nat) (ad : Nat → Nat) (S : XS) (w i j : Nat) (hw : w < 2) (hi : i < 8) (hj : j < 6) (hro : rowOK (S.1 i)) (ho : ordOK (S.2.1 j)) (hig : i ≠ 3 + 2 * w) (hgo : rowOK (S.1 (3 + 2 * w))) : Met l yX3_mergeRuns wsX3_mergeRuns ({ frames := 2, cells := 0, slots := 0, locals := 56 } : Room) (va_Pc [.ref (ad (54 + w)), .ref (ad (3 * i)), .ref (ad (24 + 5 * j))] (PX dC dI ad S)) (va_Qv (fun S' => keepR S S' i (3 + 2 * w) ∧ SP (S.2.1 j).2.2.1 ((S.1 i).1, (S.1 i).2.1) ((S'.1 i).1, (S'.1 i).2.1) 0 (S.1 i).2.2 ∧ srt (S.2.1 j).2.2.1 (S'.1 i).1 0 (S.1 i).2.2) (PX dC dI ad) (AX ad)) 0 0 (AX ad) := by
  refine Met.ofW (cc := cX3_mergeRuns) (maxL := 7) (ret := none) pl_X3 rfl ?_
  intro p e s m args below meth c s₁ B hml hv
  obtain ⟨rfl, hPX⟩ := hv
  have hx := B.exec
  have hb := B.bytes
  have hr := B.returns
  have hts := atoms_spec (ws := wsX3_mergeRuns) B.pre
  have hown : s.vm.findClass RX3 = some m.cls := findClass_of_methodNamed B.named
  have hlocks := B.notSynchronized
  have hin3 : ∀ w ∈ u_ws RX3 TX3 1, w ∈ wsX3_mergeRuns := tu 1323 (by decide +kernel) rfl
  have hX := WX.of hPX
  have hl := lv_entry ([.ref (ad (54 + w)), .ref (ad (3 * i)), .ref (ad (24 + 5 * j))]) (n := 7) (Nat.le_of_ble_eq_true rfl)
  rw [lg_entry_eq]
  generalize (lg_sl ([.ref (ad (54 + w)), .ref (ad (3 * i)), .ref (ad (24 + 5 * j))]) ++ List.replicate (7 - (lg_sl ([.ref (ad (54 + w)), .ref (ad (3 * i)), .ref (ad (24 + 5 * j))])).length) Slot.unset).toArray = ls at hl ⊢
  have hl : lv_has ls 7 [(0, .ref (ad (54 + w))), (1, .ref (ad (3 * i))), (2, .ref (ad (24 + 5 * j)))] := hl
  show W p l e ({ frames := 2, cells := 0, slots := 0, locals := 56 } : Room) s m ([.ref (ad (54 + w)), .ref (ad (3 * i)), .ref (ad (24 + 5 * j))]).toArray below meth c s.heap [] 0 0 (MQ below (va_Qv (fun S' => keepR S S' i (3 + 2 * w) ∧ SP (S.2.1 j).2.2.1 ((S.1 i).1, (S.1 i).2.1) ((S'.1 i).1, (S'.1 i).2.1) 0 (S.1 i).2.2 ∧ srt (S.2.1 j).2.2.1 (S'.1 i).1 0 (S.1 i).2.2) (PX dC dI ad) (AX ad)) ([.ref (ad (54 + w)), .ref (ad (3 * i)), .ref (ad (24 + 5 * j))]).toArray s 0 0 (AX ad)) (F0 m 0 ls [])
  have hn := hro.1
  refine lv_aload_n hx hb dX3_mergeRuns_0 rfl (lv_at hl 1 rfl) ?_
  refine kx_cr (v := nI ((S.1 i).2.2)) (va_runV (As := []) (rest := []) ⟨hx, hb, hml, hown, hts⟩ (m_X2_length l dC dI ad S i hi) (cwV 0 hts gX3_mergeRuns_X2_length rfl rfl rfl hdX2_length_0 ⟨Nat.le_of_ble_eq_true rfl, Nat.le_of_ble_eq_true rfl⟩) (hX.preRow hi) rfl rfl hl.1 rfl (lv_room (Nat.le_of_ble_eq_true rfl)) dX3_mergeRuns_1 ⟨Nat.le_of_ble_eq_true rfl, Nat.le_of_ble_eq_true rfl⟩) (fun _ h => h) ?_
  refine lv_istore_n (lv' := [(3, .int (nI ((S.1 i).2.2))), (0, .ref (ad (54 + w))), (1, .ref (ad (3 * i))), (2, .ref (ad (24 + 5 * j)))]) hx hb dX3_mergeRuns_4 rfl hl (by decide) rfl (fun ls hl => ?_)
  refine lv_iconst (v := nI 1) hx hb dX3_mergeRuns_5 (by decide) ?_
  refine lv_istore (lv' := [(4, .int (nI 1)), (3, .int (nI ((S.1 i).2.2))), (0, .ref (ad (54 + w))), (1, .ref (ad (3 * i))), (2, .ref (ad (24 + 5 * j)))]) hx hb dX3_mergeRuns_6 hl (by decide) rfl (fun ls hl => ?_)
  have loop8 : ∀ (fuel : Nat) (S1 : XS) (w9 : Nat) (hk9 : keepR S S1 i (3 + 2 * w)) (hw9 : 1 ≤ w9 ∧ w9 ≤ 32) (hs9 : SP (S.2.1 j).2.2.1 ((S.1 i).1, (S.1 i).2.1) ((S1.1 i).1, (S1.1 i).2.1) 0 (S.1 i).2.2 ∧ blk (S.2.1 j).2.2.1 (S1.1 i).1 (S.1 i).2.2 w9) (H : Heap) (locs : List Loc), 33 - w9 < fuel → WX dC dI ad S1 (AX ad) s H locs → ∀ ls : Array Slot, lv_has ls 7 [(0, .ref (ad (54 + w))), (1, .ref (ad (3 * i))), (2, .ref (ad (24 + 5 * j))), (3, .int (nI ((S.1 i).2.2))), (4, .int (nI w9))] → W p l e ({ frames := 2, cells := 0, slots := 0, locals := 56 } : Room) s m ([.ref (ad (54 + w)), .ref (ad (3 * i)), .ref (ad (24 + 5 * j))]).toArray below meth c H locs 0 0 (MQ below (va_Qv (fun S' => keepR S S' i (3 + 2 * w) ∧ SP (S.2.1 j).2.2.1 ((S.1 i).1, (S.1 i).2.1) ((S'.1 i).1, (S'.1 i).2.1) 0 (S.1 i).2.2 ∧ srt (S.2.1 j).2.2.1 (S'.1 i).1 0 (S.1 i).2.2) (PX dC dI ad) (AX ad)) ([.ref (ad (54 + w)), .ref (ad (3 * i)), .ref (ad (24 + 5 * j))]).toArray s 0 0 (AX ad)) (F0 m 8 ls []) := by
    intro fuel
    induction fuel with
    | zero => intro S1 w9 hk9 hw9 hs9 H locs hf; exact absurd hf (Nat.not_lt_zero _)
    | succ fuel ih8 =>
      intro S1 w9 hk9 hw9 hs9 H locs hf hX ls hl
      refine lv_iload hx hb dX3_mergeRuns_8 (lv_at hl 4 rfl) ?_
      refine lv_iload_n hx hb dX3_mergeRuns_10 rfl (lv_at hl 3 rfl) ?_
      refine kn_icmp_ge (tgt := 89) hx hb (by omega) (by omega) dX3_mergeRuns_11 (by decide) (fun k_1 => ?_) (fun k_1 => ?_)
      · skip
        have hwn := k_1
        exact W.vret hx hb hr (fun t9 ht9 hW9 => ⟨⟨S1, rfl, ⟨hk9, hs9.1, blk_all hs9.2 hwn⟩, hX.P ht9 hW9⟩, hX.2.2.2.F ht9⟩) hX.2.2.2.2.2 dX3_mergeRuns_89
      · skip
        have hwn := k_1
        refine lv_aload_n hx hb dX3_mergeRuns_14 rfl (lv_at hl 0 rfl) ?_
        refine ks_gg hx hb hts hin3 hown hX hw (hts (.fieldLink RX3 10 "Orderlattice$Sorter" "gathered" "LOrderlattice$Row;") (tm 20 (by decide +kernel) rfl)) dX3_mergeRuns_15 ?_
        refine kx_cv (va_runV (As := []) (rest := []) ⟨hx, hb, hml, hown, hts⟩ (m_X2_empty l dC dI ad S1 (3 + 2 * w)  (by omega)) (cwV 0 hts gX3_mergeRuns_X2_empty rfl rfl rfl hdX2_empty_0 ⟨Nat.le_of_ble_eq_true rfl, Nat.le_of_ble_eq_true rfl⟩) (hX.preRow (by omega)) rfl rfl hl.1 rfl (lv_room (Nat.le_of_ble_eq_true rfl)) dX3_mergeRuns_18 ⟨Nat.le_of_ble_eq_true rfl, Nat.le_of_ble_eq_true rfl⟩) hX (fun _ h => h) (fun S_ H locs hw hX => ?_)
        subst hw
        refine lv_iconst (v := nI 0) hx hb dX3_mergeRuns_21 (by decide) ?_
        refine lv_istore (lv' := [(5, .int (nI 0)), (0, .ref (ad (54 + w))), (1, .ref (ad (3 * i))), (2, .ref (ad (24 + 5 * j))), (3, .int (nI ((S.1 i).2.2))), (4, .int (nI w9))]) hx hb dX3_mergeRuns_22 hl (by decide) rfl (fun ls hl => ?_)
        have loop24 : ∀ (fuel : Nat) (r : RowS) (lo : Nat) (hr9 : rowOK r ∧ r.2.2 = min lo (S.1 i).2.2) (hlo : lo ≤ 64) (hg9 : (∃ j9, lo = 2 * w9 * j9) ∧ GT (S.2.1 j).2.2.1 ((S1.1 i).1, (S1.1 i).2.1) (r.1, r.2.1) w9 (min lo (S.1 i).2.2)) (H : Heap) (locs : List Loc), (S.1 i).2.2 - lo < fuel → WX dC dI ad (xR S1 (3 + 2 * w) (r.1, r.2.1, r.2.2)) (AX ad) s H locs → ∀ ls : Array Slot, lv_has ls 7 [(0, .ref (ad (54 + w))), (1, .ref (ad (3 * i))), (2, .ref (ad (24 + 5 * j))), (3, .int (nI ((S.1 i).2.2))), (4, .int (nI w9)), (5, .int (nI lo))] → W p l e ({ frames := 2, cells := 0, slots := 0, locals := 56 } : Room) s m ([.ref (ad (54 + w)), .ref (ad (3 * i)), .ref (ad (24 + 5 * j))]).toArray below meth c H locs 0 0 (MQ below (va_Qv (fun S' => keepR S S' i (3 + 2 * w) ∧ SP (S.2.1 j).2.2.1 ((S.1 i).1, (S.1 i).2.1) ((S'.1 i).1, (S'.1 i).2.1) 0 (S.1 i).2.2 ∧ srt (S.2.1 j).2.2.1 (S'.1 i).1 0 (S.1 i).2.2) (PX dC dI ad) (AX ad)) ([.ref (ad (54 + w)), .ref (ad (3 * i)), .ref (ad (24 + 5 * j))]).toArray s 0 0 (AX ad)) (F0 m 24 ls []) := by
          intro fuel
          induction fuel with
          | zero => intro r lo hr9 hlo hg9 H locs hf; exact absurd hf (Nat.not_lt_zero _)
          | succ fuel ih24 =>
            intro r lo hr9 hlo hg9 H locs hf hX ls hl
            refine lv_iload hx hb dX3_mergeRuns_24 (lv_at hl 5 rfl) ?_
            refine lv_iload_n hx hb dX3_mergeRuns_26 rfl (lv_at hl 3 rfl) ?_
            refine kn_icmp_ge (tgt := 72) hx hb (by omega) (by omega) dX3_mergeRuns_27 (by decide) (fun k_2 => ?_) (fun k_2 => ?_)
            · skip
              obtain ⟨S2, e2⟩ : ∃ z, z = (xR S1 (3 + 2 * w) (r.1, r.2.1, r.2.2)) := ⟨_, rfl⟩
              replace hX := WX.eqS e2.symm hX
              have hk2 : keepR S S2 i (3 + 2 * w) := by rw [e2]; exact keepR_g hk9 hig hr9.1
              have hg2 : (S2.1 (3 + 2 * w)).2.2 = (S.1 i).2.2 := by rw [e2, xR_row]; show r.2.2 = _; first | omega | (rw [hr9.2, hrk, hall])
              have hG2 : GT (S.2.1 j).2.2.1 ((S1.1 i).1, (S1.1 i).2.1) ((S2.1 (3 + 2 * w)).1, (S2.1 (3 + 2 * w)).2.1) w9 (S.1 i).2.2 := by rw [e2, xR_row]; have h9 := hg9.2; rw [Nat.min_eq_right (by omega)] at h9; exact h9
              have hI2 : ((S2.1 i).1, (S2.1 i).2.1) = ((S1.1 i).1, (S1.1 i).2.1) := by rw [e2, xR_ne _ _ hig]
              refine lv_aload_n hx hb dX3_mergeRuns_72 rfl (lv_at hl 1 rfl) ?_
              refine lv_aload_n hx hb dX3_mergeRuns_73 rfl (lv_at hl 0 rfl) ?_
              refine ks_gg hx hb hts hin3 hown hX hw (hts (.fieldLink RX3 10 "Orderlattice$Sorter" "gathered" "LOrderlattice$Row;") (tm 20 (by decide +kernel) rfl)) dX3_mergeRuns_74 ?_
              refine kx_cv (va_runV (As := [.ref (ad (3 * (3 + 2 * w)))]) (rest := []) ⟨hx, hb, hml, hown, hts⟩ (m_X2_becomeCopyOf l dC dI ad S2 i (3 + 2 * w) hi (by omega) (by rw [hg2]; omega)) (cwV 1 hts gX3_mergeRuns_X2_becomeCopyOf rfl rfl rfl hdX2_becomeCopyOf_1 ⟨Nat.le_of_ble_eq_true rfl, Nat.le_of_ble_eq_true rfl⟩) (hX.preRow hi) rfl rfl hl.1 rfl (lv_room (Nat.le_of_ble_eq_true rfl)) dX3_mergeRuns_77 ⟨Nat.le_of_ble_eq_true rfl, Nat.le_of_ble_eq_true rfl⟩) hX (fun _ h => h) (fun S_ H locs hw hX => ?_)
              subst hw
              refine lv_iload hx hb dX3_mergeRuns_80 (lv_at hl 4 rfl) ?_
              refine lv_iconst (v := nI 2) hx hb dX3_mergeRuns_82 (by decide) ?_
              refine kn_imul hx hb dX3_mergeRuns_83 ?_
              refine lv_istore (lv' := [(4, .int (nI (w9 * 2))), (0, .ref (ad (54 + w))), (1, .ref (ad (3 * i))), (2, .ref (ad (24 + 5 * j))), (3, .int (nI ((S.1 i).2.2))), (5, .int (nI lo))]) hx hb dX3_mergeRuns_84 hl (by decide) rfl (fun ls hl => ?_)
              refine lv_goto (tgt := 8) hx hb dX3_mergeRuns_86 (by decide) ?_
              exact ih8  (xR S2 i (ovl ((S2.1 (3 + 2 * w)).1) ((S2.1 i).1) ((S2.1 (3 + 2 * w)).2.2), ovl ((S2.1 (3 + 2 * w)).2.1) ((S2.1 i).2.1) ((S2.1 (3 + 2 * w)).2.2), (S2.1 (3 + 2 * w)).2.2)) (w9 * 2) (keepR_i hk2 hig (rowOK_ovl hk2.2.2.2.1 hk2.2.2.1) hg2) (by omega) (mr_next hs9.1 hG2 hg2 hI2) _ _ (by omega) hX _ (lv_sub hl [1, 2, 3, 4, 0] rfl)
            · skip
              obtain ⟨j1, hj1⟩ := hg9.1
              have hs1 := mr_runs hs9.2 hj1 (show lo ≤ (S.1 i).2.2 by omega)
              refine lv_iload hx hb dX3_mergeRuns_30 (lv_at hl 5 rfl) ?_
              refine lv_iload hx hb dX3_mergeRuns_32 (lv_at hl 4 rfl) ?_
              refine kn_iadd hx hb dX3_mergeRuns_34 ?_
              refine lv_iload_n hx hb dX3_mergeRuns_35 rfl (lv_at hl 3 rfl) ?_
              refine kn_min hx hb (by rw [hml]; exact hl.1.symm) hown (hts (.methodLink RX3 48 Lib.Math.min.name) (tm 150 (by decide +kernel) rfl)) (hts (.static Lib.Math.min.name) (tm 151 (by decide +kernel) rfl)) (hts (.initialized "java/lang/Math") (tm 152 (by decide +kernel) rfl)) (hts (.code Lib.Math.min.name Lib.Math.min.code 2 (some .int)) (tm 153 (by decide +kernel) rfl)) (Nat.le_of_ble_eq_true rfl) (Nat.le_of_ble_eq_true rfl) (Nat.le_of_ble_eq_true rfl) (Nat.le_of_ble_eq_true rfl) (by omega) (by omega) dX3_mergeRuns_36 ?_
              refine lv_istore (lv' := [(6, .int (nI (min (lo + w9) ((S.1 i).2.2)))), (0, .ref (ad (54 + w))), (1, .ref (ad (3 * i))), (2, .ref (ad (24 + 5 * j))), (3, .int (nI ((S.1 i).2.2))), (4, .int (nI w9)), (5, .int (nI lo))]) hx hb dX3_mergeRuns_39 hl (by decide) rfl (fun ls hl => ?_)
              refine lv_aload_n hx hb dX3_mergeRuns_41 rfl (lv_at hl 1 rfl) ?_
              refine lv_aload_n hx hb dX3_mergeRuns_42 rfl (lv_at hl 2 rfl) ?_
              refine lv_aload_n hx hb dX3_mergeRuns_43 rfl (lv_at hl 3 rfl) ?_
              refine lv_iload hx hb dX3_mergeRuns_44 (lv_at hl 6 rfl) ?_
              refine lv_iload hx hb dX3_mergeRuns_46 (lv_at hl 0 rfl) ?_
              refine lv_iload hx hb dX3_mergeRuns_48 (lv_at hl 0 rfl) ?_
              refine lv_iload hx hb dX3_mergeRuns_50 (lv_at hl 5 rfl) ?_
              refine kn_iadd hx hb dX3_mergeRuns_52 ?_
              refine lv_iload_n hx hb dX3_mergeRuns_53 rfl (lv_at hl 4 rfl) ?_
              refine kn_min hx hb (by rw [hml]; exact hl.1.symm) hown (hts (.methodLink RX3 48 Lib.Math.min.name) (tm 150 (by decide +kernel) rfl)) (hts (.static Lib.Math.min.name) (tm 151 (by decide +kernel) rfl)) (hts (.initialized "java/lang/Math") (tm 152 (by decide +kernel) rfl)) (hts (.code Lib.Math.min.name Lib.Math.min.code 2 (some .int)) (tm 153 (by decide +kernel) rfl)) (Nat.le_of_ble_eq_true rfl) (Nat.le_of_ble_eq_true rfl) (Nat.le_of_ble_eq_true rfl) (Nat.le_of_ble_eq_true rfl) (by omega) (by omega) dX3_mergeRuns_54 ?_
              refine kx_cv (va_runV (As := [.ref (ad (3 * i)), .ref (ad (24 + 5 * j)), .int (nI lo), .int (nI (min (lo + w9) ((S.1 i).2.2))), .int (nI (min (min (lo + w9) ((S.1 i).2.2) + w9) ((S.1 i).2.2)))]) (rest := []) ⟨hx, hb, hml, hown, hts⟩ (s_X3_mergeTwo l dC dI ad (xR S1 (3 + 2 * w) (r.1, r.2.1, r.2.2)) w i j lo (min (lo + w9) ((S.1 i).2.2)) (min (min (lo + w9) ((S.1 i).2.2) + w9) ((S.1 i).2.2)) hw hi hj (by rw [xR_ne _ _ hig]; exact hk9.2.2.2.1) (by show ordOK (S1.2.1 j); rw [hk9.1]; exact ho) hig (by omega) (by omega) (by rw [xR_ne _ _ hig, hk9.2.2.2.2]; omega) (by rw [xR_row]; exact hr9.1) (by rw [xR_row]; show r.2.2 = lo; omega) (by rw [xR_ne _ _ hig]; show srt (S1.2.1 j).2.2.1 (S1.1 i).1 _ _; rw [hk9.1]; exact hs1.1) (by rw [xR_ne _ _ hig]; show srt (S1.2.1 j).2.2.1 (S1.1 i).1 _ _; rw [hk9.1]; exact hs1.2)) (cwV 5 hts gX3_mergeRuns_X3_mergeTwo rfl rfl rfl hdX3_mergeTwo_5 ⟨Nat.le_of_ble_eq_true rfl, Nat.le_of_ble_eq_true rfl⟩) (hX.preSor hw) rfl rfl hl.1 rfl (lv_room (Nat.le_of_ble_eq_true rfl)) dX3_mergeRuns_57 ⟨Nat.le_of_ble_eq_true rfl, Nat.le_of_ble_eq_true rfl⟩) hX (fun _ h => h) (fun S_ H locs hw hX => ?_)
              obtain ⟨r2, hw, hr2, hn2, hm2⟩ := hw
              rw [xR_xR] at hw
              subst hw
              refine lv_iload hx hb dX3_mergeRuns_60 (lv_at hl 6 rfl) ?_
              refine lv_iconst (v := nI 2) hx hb dX3_mergeRuns_62 (by decide) ?_
              refine lv_iload hx hb dX3_mergeRuns_63 (lv_at hl 5 rfl) ?_
              refine kn_imul hx hb dX3_mergeRuns_65 ?_
              refine kn_iadd hx hb dX3_mergeRuns_66 ?_
              refine lv_istore (lv' := [(5, .int (nI (lo + (2 * w9)))), (6, .int (nI (min (lo + w9) ((S.1 i).2.2)))), (0, .ref (ad (54 + w))), (1, .ref (ad (3 * i))), (2, .ref (ad (24 + 5 * j))), (3, .int (nI ((S.1 i).2.2))), (4, .int (nI w9))]) hx hb dX3_mergeRuns_67 hl (by decide) rfl (fun ls hl => ?_)
              refine lv_goto (tgt := 24) hx hb dX3_mergeRuns_69 (by decide) ?_
              exact ih24  (r2.1, r2.2.1, r2.2.2) (lo + (2 * w9)) ⟨hr2, by rw [hn2]; omega⟩ (by omega) (mr_step hk9.1 hig hg9 (by omega) hm2) _ _ (by omega) hX _ (lv_sub hl [2, 3, 4, 5, 6, 0] rfl)
        exact loop24 ((S.1 i).2.2 + 1) ((S1.1 (3 + 2 * w)).1, (S1.1 (3 + 2 * w)).2.1, 0) 0 ⟨rowOK_0 hk9.2.2.1, (Nat.zero_min _).symm⟩ (by omega) ⟨⟨0, rfl⟩, by rw [Nat.zero_min]; exact GT.start _ _ _ _⟩ _ _ (by omega) (WX.eqS rfl hX) _ (lv_sub hl [1, 2, 3, 4, 5, 0] rfl)
  exact loop8 (33 + 1) S 1 (keepR_refl hro hgo) (by omega) ⟨SP.refl _ _ _ _, blk_1 _ _ _⟩ _ _ (by omega) (WX.eqS rfl hX) _ (lv_sub hl [2, 3, 4, 1, 0] rfl)
set_option maxHeartbeats 4000000 in
set_option maxRecDepth 100000 in
theorem s_X3_gatherByRank (l : Launch) (dC : Nat → ClassId) (dI : Nat → Nat → Nat) (ad : Nat → Nat) (S : XS) (w i j : Nat) (hw : w < 2) (hi : i < 8) (hj : j < 6) (hro : rowOK (S.1 i)) (ho : ordOK (S.2.1 j)) (hig : i ≠ 3 + 2 * w) (hgo : rowOK (S.1 (3 + 2 * w))) : Met l yX3_gatherByRank wsX3_gatherByRank ({ frames := 2, cells := 0, slots := 0, locals := 46 } : Room) (va_Pc [.ref (ad (54 + w)), .ref (ad (3 * i)), .ref (ad (24 + 5 * j))] (PX dC dI ad S)) (va_Qv (fun S' => keepR S S' i (3 + 2 * w) ∧ SP (S.2.1 j).2.2.1 ((S.1 i).1, (S.1 i).2.1) ((S'.1 i).1, (S'.1 i).2.1) 0 (S.1 i).2.2 ∧ srt (S.2.1 j).2.2.1 (S'.1 i).1 0 (S.1 i).2.2) (PX dC dI ad) (AX ad)) 0 0 (AX ad) := by
  refine Met.ofW (cc := cX3_gatherByRank) (maxL := 5) (ret := none) pl_X3 rfl ?_
  intro p e s m args below meth c s₁ B hml hv
  obtain ⟨rfl, hPX⟩ := hv
  have hx := B.exec
  have hb := B.bytes
  have hr := B.returns
  have hts := atoms_spec (ws := wsX3_gatherByRank) B.pre
  have hown : s.vm.findClass RX3 = some m.cls := findClass_of_methodNamed B.named
  have hlocks := B.notSynchronized
  have hin3 : ∀ w ∈ u_ws RX3 TX3 1, w ∈ wsX3_gatherByRank := tu 1323 (by decide +kernel) rfl
  have hX := WX.of hPX
  have hl := lv_entry ([.ref (ad (54 + w)), .ref (ad (3 * i)), .ref (ad (24 + 5 * j))]) (n := 5) (Nat.le_of_ble_eq_true rfl)
  rw [lg_entry_eq]
  generalize (lg_sl ([.ref (ad (54 + w)), .ref (ad (3 * i)), .ref (ad (24 + 5 * j))]) ++ List.replicate (5 - (lg_sl ([.ref (ad (54 + w)), .ref (ad (3 * i)), .ref (ad (24 + 5 * j))])).length) Slot.unset).toArray = ls at hl ⊢
  have hl : lv_has ls 5 [(0, .ref (ad (54 + w))), (1, .ref (ad (3 * i))), (2, .ref (ad (24 + 5 * j)))] := hl
  show W p l e ({ frames := 2, cells := 0, slots := 0, locals := 46 } : Room) s m ([.ref (ad (54 + w)), .ref (ad (3 * i)), .ref (ad (24 + 5 * j))]).toArray below meth c s.heap [] 0 0 (MQ below (va_Qv (fun S' => keepR S S' i (3 + 2 * w) ∧ SP (S.2.1 j).2.2.1 ((S.1 i).1, (S.1 i).2.1) ((S'.1 i).1, (S'.1 i).2.1) 0 (S.1 i).2.2 ∧ srt (S.2.1 j).2.2.1 (S'.1 i).1 0 (S.1 i).2.2) (PX dC dI ad) (AX ad)) ([.ref (ad (54 + w)), .ref (ad (3 * i)), .ref (ad (24 + 5 * j))]).toArray s 0 0 (AX ad)) (F0 m 0 ls [])
  have hn := hro.1
  have hcl : (S.2.1 j).2.2.2.2.2 ≤ 16 := by rw [ho.2.2.2]; exact classC_le _
  have hrl : ∀ v, v < 16 → (S.2.1 j).2.2.2.1 v < (S.2.1 j).2.2.2.2.2 := fun v hv => by rw [ho.2.2.2, ho.2.2.1 v hv]; exact rank_class _ hv
  refine lv_aload_n hx hb dX3_gatherByRank_0 rfl (lv_at hl 0 rfl) ?_
  refine ks_gg hx hb hts hin3 hown hX hw (hts (.fieldLink RX3 10 "Orderlattice$Sorter" "gathered" "LOrderlattice$Row;") (tm 20 (by decide +kernel) rfl)) dX3_gatherByRank_1 ?_
  refine kx_cv (va_runV (As := []) (rest := []) ⟨hx, hb, hml, hown, hts⟩ (m_X2_empty l dC dI ad S (3 + 2 * w)  (by omega)) (cwV 0 hts gX3_gatherByRank_X2_empty rfl rfl rfl hdX2_empty_0 ⟨Nat.le_of_ble_eq_true rfl, Nat.le_of_ble_eq_true rfl⟩) (hX.preRow (by omega)) rfl rfl hl.1 rfl (lv_room (Nat.le_of_ble_eq_true rfl)) dX3_gatherByRank_4 ⟨Nat.le_of_ble_eq_true rfl, Nat.le_of_ble_eq_true rfl⟩) hX (fun _ h => h) (fun S_ H locs hw hX => ?_)
  subst hw
  refine lv_iconst (v := nI 0) hx hb dX3_gatherByRank_7 (by decide) ?_
  refine lv_istore_n (lv' := [(3, .int (nI 0)), (0, .ref (ad (54 + w))), (1, .ref (ad (3 * i))), (2, .ref (ad (24 + 5 * j)))]) hx hb dX3_gatherByRank_8 rfl hl (by decide) rfl (fun ls hl => ?_)
  have loop9 : ∀ (fuel : Nat) (r : RowS) (rk : Nat) (hr9 : rowOK r ∧ r.2.2 = cntB (fun k => decide ((S.2.1 j).2.2.2.1 ((S.1 i).1 k) < rk)) (S.1 i).2.2) (hrk : rk ≤ (S.2.1 j).2.2.2.2.2) (hga : sg r.1 r.2.1 0 (r.2.2 - 0) = gtr (S.2.1 j).2.2.2.1 (sg (S.1 i).1 (S.1 i).2.1 0 (S.1 i).2.2) rk) (H : Heap) (locs : List Loc), (S.2.1 j).2.2.2.2.2 - rk < fuel → WX dC dI ad (xR S (3 + 2 * w) (r.1, r.2.1, r.2.2)) (AX ad) s H locs → ∀ ls : Array Slot, lv_has ls 5 [(0, .ref (ad (54 + w))), (1, .ref (ad (3 * i))), (2, .ref (ad (24 + 5 * j))), (3, .int (nI rk))] → W p l e ({ frames := 2, cells := 0, slots := 0, locals := 46 } : Room) s m ([.ref (ad (54 + w)), .ref (ad (3 * i)), .ref (ad (24 + 5 * j))]).toArray below meth c H locs 0 0 (MQ below (va_Qv (fun S' => keepR S S' i (3 + 2 * w) ∧ SP (S.2.1 j).2.2.1 ((S.1 i).1, (S.1 i).2.1) ((S'.1 i).1, (S'.1 i).2.1) 0 (S.1 i).2.2 ∧ srt (S.2.1 j).2.2.1 (S'.1 i).1 0 (S.1 i).2.2) (PX dC dI ad) (AX ad)) ([.ref (ad (54 + w)), .ref (ad (3 * i)), .ref (ad (24 + 5 * j))]).toArray s 0 0 (AX ad)) (F0 m 9 ls []) := by
    intro fuel
    induction fuel with
    | zero => intro r rk hr9 hrk hga H locs hf; exact absurd hf (Nat.not_lt_zero _)
    | succ fuel ih9 =>
      intro r rk hr9 hrk hga H locs hf hX ls hl
      refine lv_iload_n hx hb dX3_gatherByRank_9 rfl (lv_at hl 3 rfl) ?_
      refine lv_aload_n hx hb dX3_gatherByRank_10 rfl (lv_at hl 2 rfl) ?_
      refine kx_cr (v := nI ((S.2.1 j).2.2.2.2.2)) (va_runV (As := []) (rest := [.int (nI rk)]) ⟨hx, hb, hml, hown, hts⟩ (m_X1_classCount l dC dI ad (xR S (3 + 2 * w) (r.1, r.2.1, r.2.2)) j  hj) (cwV 0 hts gX3_gatherByRank_X1_classCount rfl rfl rfl hdX1_classCount_0 ⟨Nat.le_of_ble_eq_true rfl, Nat.le_of_ble_eq_true rfl⟩) (hX.preOrd hj) rfl rfl hl.1 rfl (lv_room (Nat.le_of_ble_eq_true rfl)) dX3_gatherByRank_11 ⟨Nat.le_of_ble_eq_true rfl, Nat.le_of_ble_eq_true rfl⟩) (fun _ h => h) ?_
      refine kn_icmp_ge (tgt := 74) hx hb (by omega) (by omega) dX3_gatherByRank_14 (by decide) (fun k_1 => ?_) (fun k_1 => ?_)
      · skip
        have hd := k_1
        have hall : cntB (fun k => decide ((S.2.1 j).2.2.2.1 ((S.1 i).1 k) < (S.2.1 j).2.2.2.2.2)) (S.1 i).2.2 = (S.1 i).2.2 := cntB_all (fun k hk => decide_eq_true (hrl _ (hro.2 k (by omega)).1))
        have hrk : rk = (S.2.1 j).2.2.2.2.2 := by omega
        subst hrk
        have hrk : True := trivial
        obtain ⟨S2, e2⟩ : ∃ z, z = (xR S (3 + 2 * w) (r.1, r.2.1, r.2.2)) := ⟨_, rfl⟩
        replace hX := WX.eqS e2.symm hX
        have hk2 : keepR S S2 i (3 + 2 * w) := by rw [e2]; exact keepR_g (keepR_refl hro hgo) hig hr9.1
        have hg2 : (S2.1 (3 + 2 * w)).2.2 = (S.1 i).2.2 := by rw [e2, xR_row]; show r.2.2 = _; first | omega | (rw [hr9.2, hrk, hall])
        have hl2 : sg (S2.1 (3 + 2 * w)).1 (S2.1 (3 + 2 * w)).2.1 0 (S.1 i).2.2 = gtr (S.2.1 j).2.2.2.1 (sg (S.1 i).1 (S.1 i).2.1 0 (S.1 i).2.2) (S.2.1 j).2.2.2.2.2 := by rw [e2, xR_row]; have h9 := hga; rw [Nat.sub_zero, hr9.2, hall] at h9; exact h9
        have hI2 : ((S2.1 i).1, (S2.1 i).2.1) = ((S.1 i).1, (S.1 i).2.1) := by rw [e2, xR_ne _ _ hig]
        refine lv_aload_n hx hb dX3_gatherByRank_74 rfl (lv_at hl 1 rfl) ?_
        refine lv_aload_n hx hb dX3_gatherByRank_75 rfl (lv_at hl 0 rfl) ?_
        refine ks_gg hx hb hts hin3 hown hX hw (hts (.fieldLink RX3 10 "Orderlattice$Sorter" "gathered" "LOrderlattice$Row;") (tm 20 (by decide +kernel) rfl)) dX3_gatherByRank_76 ?_
        refine kx_cv (va_runV (As := [.ref (ad (3 * (3 + 2 * w)))]) (rest := []) ⟨hx, hb, hml, hown, hts⟩ (m_X2_becomeCopyOf l dC dI ad S2 i (3 + 2 * w) hi (by omega) (by rw [hg2]; omega)) (cwV 1 hts gX3_gatherByRank_X2_becomeCopyOf rfl rfl rfl hdX2_becomeCopyOf_1 ⟨Nat.le_of_ble_eq_true rfl, Nat.le_of_ble_eq_true rfl⟩) (hX.preRow hi) rfl rfl hl.1 rfl (lv_room (Nat.le_of_ble_eq_true rfl)) dX3_gatherByRank_79 ⟨Nat.le_of_ble_eq_true rfl, Nat.le_of_ble_eq_true rfl⟩) hX (fun _ h => h) (fun S_ H locs hw hX => ?_)
        subst hw
        exact W.vret hx hb hr (fun t9 ht9 hW9 => ⟨⟨(xR S2 i (ovl ((S2.1 (3 + 2 * w)).1) ((S2.1 i).1) ((S2.1 (3 + 2 * w)).2.2), ovl ((S2.1 (3 + 2 * w)).2.1) ((S2.1 i).2.1) ((S2.1 (3 + 2 * w)).2.2), (S2.1 (3 + 2 * w)).2.2)), rfl, ⟨keepR_i hk2 hig (rowOK_ovl hk2.2.2.2.1 hk2.2.2.1) hg2, gr_done ho (fun x hx => (hro.2 x (by omega)).1) hl2 hg2 hI2⟩, hX.P ht9 hW9⟩, hX.2.2.2.F ht9⟩) hX.2.2.2.2.2 dX3_gatherByRank_82
      · skip
        have hd := k_1
        refine lv_iconst (v := nI 0) hx hb dX3_gatherByRank_17 (by decide) ?_
        refine lv_istore (lv' := [(4, .int (nI 0)), (0, .ref (ad (54 + w))), (1, .ref (ad (3 * i))), (2, .ref (ad (24 + 5 * j))), (3, .int (nI rk))]) hx hb dX3_gatherByRank_18 hl (by decide) rfl (fun ls hl => ?_)
        have loop20 : ∀ (fuel : Nat) (r : RowS) (q : Nat) (hr9 : rowOK r ∧ r.2.2 = cntB (fun k => decide ((S.2.1 j).2.2.2.1 ((S.1 i).1 k) < rk)) (S.1 i).2.2 + cntB (fun k => decide ((S.2.1 j).2.2.2.1 ((S.1 i).1 k) = rk)) q) (hq : q ≤ (S.1 i).2.2) (hgb : sg r.1 r.2.1 0 (r.2.2 - 0) = gtr (S.2.1 j).2.2.2.1 (sg (S.1 i).1 (S.1 i).2.1 0 (S.1 i).2.2) rk ++ kf (S.2.1 j).2.2.2.1 rk (sg (S.1 i).1 (S.1 i).2.1 0 q)) (H : Heap) (locs : List Loc), (S.1 i).2.2 - q < fuel → WX dC dI ad (xR S (3 + 2 * w) (r.1, r.2.1, r.2.2)) (AX ad) s H locs → ∀ ls : Array Slot, lv_has ls 5 [(0, .ref (ad (54 + w))), (1, .ref (ad (3 * i))), (2, .ref (ad (24 + 5 * j))), (3, .int (nI rk)), (4, .int (nI q))] → W p l e ({ frames := 2, cells := 0, slots := 0, locals := 46 } : Room) s m ([.ref (ad (54 + w)), .ref (ad (3 * i)), .ref (ad (24 + 5 * j))]).toArray below meth c H locs 0 0 (MQ below (va_Qv (fun S' => keepR S S' i (3 + 2 * w) ∧ SP (S.2.1 j).2.2.1 ((S.1 i).1, (S.1 i).2.1) ((S'.1 i).1, (S'.1 i).2.1) 0 (S.1 i).2.2 ∧ srt (S.2.1 j).2.2.1 (S'.1 i).1 0 (S.1 i).2.2) (PX dC dI ad) (AX ad)) ([.ref (ad (54 + w)), .ref (ad (3 * i)), .ref (ad (24 + 5 * j))]).toArray s 0 0 (AX ad)) (F0 m 20 ls []) := by
          intro fuel
          induction fuel with
          | zero => intro r q hr9 hq hgb H locs hf; exact absurd hf (Nat.not_lt_zero _)
          | succ fuel ih20 =>
            intro r q hr9 hq hgb H locs hf hX ls hl
            refine lv_iload hx hb dX3_gatherByRank_20 (lv_at hl 4 rfl) ?_
            refine lv_aload_n hx hb dX3_gatherByRank_22 rfl (lv_at hl 1 rfl) ?_
            refine kx_cr (v := nI ((S.1 i).2.2)) (va_runV (As := []) (rest := [.int (nI q)]) ⟨hx, hb, hml, hown, hts⟩ (m_X2_length l dC dI ad (xR S (3 + 2 * w) (r.1, r.2.1, r.2.2)) i hi) (cwV 0 hts gX3_gatherByRank_X2_length rfl rfl rfl hdX2_length_0 ⟨Nat.le_of_ble_eq_true rfl, Nat.le_of_ble_eq_true rfl⟩) (hX.preRow hi) rfl rfl hl.1 rfl (lv_room (Nat.le_of_ble_eq_true rfl)) dX3_gatherByRank_23 ⟨Nat.le_of_ble_eq_true rfl, Nat.le_of_ble_eq_true rfl⟩) (fun _ h => by rw [h, xR_ne _ _ hig]) ?_
            refine kn_icmp_ge (tgt := 68) hx hb (by omega) (by omega) dX3_gatherByRank_26 (by decide) (fun k_2 => ?_) (fun k_2 => ?_)
            · skip
              refine lv_iinc (v := nI (rk + 1)) (lv' := [(3, .int (nI (rk + 1))), (0, .ref (ad (54 + w))), (1, .ref (ad (3 * i))), (2, .ref (ad (24 + 5 * j))), (4, .int (nI q))]) hx hb dX3_gatherByRank_68 hl (k := 3) rfl (nI_1 rk) (by decide) rfl (fun ls hl => ?_)
              refine lv_goto (tgt := 9) hx hb dX3_gatherByRank_71 (by decide) ?_
              exact ih9  r (rk + 1) ⟨hr9.1, by rw [hr9.2, show q = (S.1 i).2.2 by omega]; exact cnt_lt_s _ _ _⟩ (by omega) (by have h8 := hgb; rw [show q = (S.1 i).2.2 by omega] at h8; exact h8) _ _ (by omega) hX _ (lv_sub hl [1, 2, 3, 0] rfl)
            · skip
              refine lv_aload_n hx hb dX3_gatherByRank_29 rfl (lv_at hl 2 rfl) ?_
              refine lv_aload_n hx hb dX3_gatherByRank_30 rfl (lv_at hl 1 rfl) ?_
              refine lv_iload hx hb dX3_gatherByRank_31 (lv_at hl 4 rfl) ?_
              refine kx_cr (v := nI ((S.1 i).1 q)) (va_runV (As := [.int (nI q)]) (rest := [.ref (ad (24 + 5 * j))]) ⟨hx, hb, hml, hown, hts⟩ (m_X2_valueOn l dC dI ad (xR S (3 + 2 * w) (r.1, r.2.1, r.2.2)) i q hi (by omega)) (cwV 1 hts gX3_gatherByRank_X2_valueOn rfl rfl rfl hdX2_valueOn_1 ⟨Nat.le_of_ble_eq_true rfl, Nat.le_of_ble_eq_true rfl⟩) (hX.preRow hi) rfl rfl hl.1 rfl (lv_room (Nat.le_of_ble_eq_true rfl)) dX3_gatherByRank_33 ⟨Nat.le_of_ble_eq_true rfl, Nat.le_of_ble_eq_true rfl⟩) (fun _ h => by rw [h, xR_ne _ _ hig]) ?_
              refine kx_cr (v := nI ((S.2.1 j).2.2.2.1 ((S.1 i).1 q))) (va_runV (As := [.int (nI ((S.1 i).1 q))]) (rest := []) ⟨hx, hb, hml, hown, hts⟩ (m_X1_rankOf l dC dI ad (xR S (3 + 2 * w) (r.1, r.2.1, r.2.2)) j ((S.1 i).1 q) hj (hro.2 _ (by omega)).1) (cwV 1 hts gX3_gatherByRank_X1_rankOf rfl rfl rfl hdX1_rankOf_1 ⟨Nat.le_of_ble_eq_true rfl, Nat.le_of_ble_eq_true rfl⟩) (hX.preOrd hj) rfl rfl hl.1 rfl (lv_room (Nat.le_of_ble_eq_true rfl)) dX3_gatherByRank_36 ⟨Nat.le_of_ble_eq_true rfl, Nat.le_of_ble_eq_true rfl⟩) (fun _ h => h) ?_
              refine lv_iload_n hx hb dX3_gatherByRank_39 rfl (lv_at hl 3 rfl) ?_
              have h1 := hrl ((S.1 i).1 q) (hro.2 q (by omega)).1
              refine kn_icmp_ne (tgt := 62) hx hb (by omega) (by omega) dX3_gatherByRank_40 (by decide) (fun k_3 => ?_) (fun k_3 => ?_)
              · skip
                have hc := k_3
                refine lv_iinc (v := nI (q + 1)) (lv' := [(4, .int (nI (q + 1))), (0, .ref (ad (54 + w))), (1, .ref (ad (3 * i))), (2, .ref (ad (24 + 5 * j))), (3, .int (nI rk))]) hx hb dX3_gatherByRank_62 hl (k := 4) rfl (nI_1 q) (by decide) rfl (fun ls hl => ?_)
                refine lv_goto (tgt := 20) hx hb dX3_gatherByRank_65 (by decide) ?_
                exact ih20  r (q + 1) ⟨hr9.1, by rw [hr9.2, cntB_f (p := (fun k => decide ((S.2.1 j).2.2.2.1 ((S.1 i).1 k) = rk))) (decide_eq_false hc)]⟩ (by omega) (by rw [hgb, sg_s, kf_app, Nat.zero_add, kf_f (l := []) hc, kf_nil, List.append_nil]) _ _ (by omega) hX _ (lv_sub hl [1, 2, 3, 4, 0] rfl)
              · skip
                have hc := k_3
                refine lv_aload_n hx hb dX3_gatherByRank_43 rfl (lv_at hl 0 rfl) ?_
                refine ks_gg hx hb hts hin3 hown hX hw (hts (.fieldLink RX3 10 "Orderlattice$Sorter" "gathered" "LOrderlattice$Row;") (tm 20 (by decide +kernel) rfl)) dX3_gatherByRank_44 ?_
                refine lv_aload_n hx hb dX3_gatherByRank_47 rfl (lv_at hl 1 rfl) ?_
                refine lv_iload hx hb dX3_gatherByRank_48 (lv_at hl 4 rfl) ?_
                refine kx_cr (v := nI ((S.1 i).1 q)) (va_runV (As := [.int (nI q)]) (rest := [.ref (ad (3 * (3 + 2 * w)))]) ⟨hx, hb, hml, hown, hts⟩ (m_X2_valueOn l dC dI ad (xR S (3 + 2 * w) (r.1, r.2.1, r.2.2)) i q hi (by omega)) (cwV 1 hts gX3_gatherByRank_X2_valueOn rfl rfl rfl hdX2_valueOn_1 ⟨Nat.le_of_ble_eq_true rfl, Nat.le_of_ble_eq_true rfl⟩) (hX.preRow hi) rfl rfl hl.1 rfl (lv_room (Nat.le_of_ble_eq_true rfl)) dX3_gatherByRank_50 ⟨Nat.le_of_ble_eq_true rfl, Nat.le_of_ble_eq_true rfl⟩) (fun _ h => by rw [h, xR_ne _ _ hig]) ?_
                refine lv_aload_n hx hb dX3_gatherByRank_53 rfl (lv_at hl 1 rfl) ?_
                refine lv_iload hx hb dX3_gatherByRank_54 (lv_at hl 4 rfl) ?_
                refine kx_cr (v := nI ((S.1 i).2.1 q)) (va_runV (As := [.int (nI q)]) (rest := [.int (nI ((S.1 i).1 q)), .ref (ad (3 * (3 + 2 * w)))]) ⟨hx, hb, hml, hown, hts⟩ (m_X2_markOn l dC dI ad (xR S (3 + 2 * w) (r.1, r.2.1, r.2.2)) i q hi (by omega)) (cwV 1 hts gX3_gatherByRank_X2_markOn rfl rfl rfl hdX2_markOn_1 ⟨Nat.le_of_ble_eq_true rfl, Nat.le_of_ble_eq_true rfl⟩) (hX.preRow hi) rfl rfl hl.1 rfl (lv_room (Nat.le_of_ble_eq_true rfl)) dX3_gatherByRank_56 ⟨Nat.le_of_ble_eq_true rfl, Nat.le_of_ble_eq_true rfl⟩) (fun _ h => by rw [h, xR_ne _ _ hig]) ?_
                refine kx_cv (va_runV (As := [.int (nI ((S.1 i).1 q)), .int (nI ((S.1 i).2.1 q))]) (rest := []) ⟨hx, hb, hml, hown, hts⟩ (m_X2_append l dC dI ad (xR S (3 + 2 * w) (r.1, r.2.1, r.2.2)) (3 + 2 * w) ((S.1 i).1 q) ((S.1 i).2.1 q) (by omega) (by rw [xR_row]; show r.2.2 < 16; have := cnt_room (p := (fun k => decide ((S.2.1 j).2.2.2.1 ((S.1 i).1 k) < rk))) (p2 := (fun k => decide ((S.2.1 j).2.2.2.1 ((S.1 i).1 k) = rk))) (fun k h1 h2 => by have := of_decide_eq_true h1; have := of_decide_eq_true h2; omega) (show q < (S.1 i).2.2 by omega) (decide_eq_true hc); omega)) (cwV 2 hts gX3_gatherByRank_X2_append rfl rfl rfl hdX2_append_2 ⟨Nat.le_of_ble_eq_true rfl, Nat.le_of_ble_eq_true rfl⟩) (hX.preRow (by omega)) rfl rfl hl.1 rfl (lv_room (Nat.le_of_ble_eq_true rfl)) dX3_gatherByRank_59 ⟨Nat.le_of_ble_eq_true rfl, Nat.le_of_ble_eq_true rfl⟩) hX (fun _ h => h) (fun S_ H locs hw hX => ?_)
                rw [xR_row, xR_xR] at hw
                subst hw
                refine lv_iinc (v := nI (q + 1)) (lv' := [(4, .int (nI (q + 1))), (0, .ref (ad (54 + w))), (1, .ref (ad (3 * i))), (2, .ref (ad (24 + 5 * j))), (3, .int (nI rk))]) hx hb dX3_gatherByRank_62 hl (k := 4) rfl (nI_1 q) (by decide) rfl (fun ls hl => ?_)
                refine lv_goto (tgt := 20) hx hb dX3_gatherByRank_65 (by decide) ?_
                exact ih20  (va_up r.1 r.2.2 ((S.1 i).1 q), va_up r.2.1 r.2.2 ((S.1 i).2.1 q), r.2.2 + 1) (q + 1) ⟨rowOK_app hr9.1 (by have := cnt_room (p := (fun k => decide ((S.2.1 j).2.2.2.1 ((S.1 i).1 k) < rk))) (p2 := (fun k => decide ((S.2.1 j).2.2.2.1 ((S.1 i).1 k) = rk))) (fun k h1 h2 => by have := of_decide_eq_true h1; have := of_decide_eq_true h2; omega) (show q < (S.1 i).2.2 by omega) (decide_eq_true hc); omega) (hro.2 _ (by omega)).1 (hro.2 _ (by omega)).2, by show r.2.2 + 1 = _; rw [hr9.2, cntB_t (p := (fun k => decide ((S.2.1 j).2.2.2.1 ((S.1 i).1 k) = rk))) (decide_eq_true hc)]; omega⟩ (by omega) (by show sg (va_up r.1 r.2.2 _) (va_up r.2.1 r.2.2 _) 0 (r.2.2 + 1 - 0) = _; have h8 := hgb; rw [Nat.sub_zero] at h8; rw [sg_up (Nat.zero_le _), Nat.sub_zero, h8, sg_s, kf_app, Nat.zero_add, kf_t (l := []) hc, kf_nil, List.append_assoc]) _ _ (by omega) hX _ (lv_sub hl [1, 2, 3, 4, 0] rfl)
        exact loop20 ((S.1 i).2.2 + 1) r 0 ⟨hr9.1, hr9.2⟩ (by omega) (by rw [hga]; exact (List.append_nil _).symm) _ _ (by omega) (WX.eqS rfl hX) _ (lv_sub hl [1, 2, 3, 4, 0] rfl)
  exact loop9 ((S.2.1 j).2.2.2.2.2 + 1) ((S.1 (3 + 2 * w)).1, (S.1 (3 + 2 * w)).2.1, 0) 0 ⟨rowOK_0 hgo, (cntB_none (fun k _ => decide_eq_false (by omega))).symm⟩ (by omega) rfl _ _ (by omega) (WX.eqS rfl hX) _ (lv_sub hl [1, 2, 3, 0] rfl)
set_option maxHeartbeats 4000000 in
set_option maxRecDepth 100000 in
theorem s_X3_arrangeAll (l : Launch) (dC : Nat → ClassId) (dI : Nat → Nat → Nat) (ad : Nat → Nat) (S : XS) (w i j y9 : Nat) (hw : w < 2) (hi : i < 8) (hj : j < 6) (hro : rowOK (S.1 i)) (ho : ordOK (S.2.1 j)) (hig : i ≠ 3 + 2 * w) (hgo : rowOK (S.1 (3 + 2 * w))) (hy : y9 < 3) : Met l yX3_arrangeAll wsX3_arrangeAll ({ frames := 3, cells := 0, slots := 0, locals := 82 } : Room) (va_Pc [.ref (ad (54 + w)), .ref (ad (3 * i)), .ref (ad (24 + 5 * j)), .int (nI y9)] (PX dC dI ad S)) (va_Qv (fun S' => keepR S S' i (3 + 2 * w) ∧ SP (S.2.1 j).2.2.1 ((S.1 i).1, (S.1 i).2.1) ((S'.1 i).1, (S'.1 i).2.1) 0 (S.1 i).2.2 ∧ srt (S.2.1 j).2.2.1 (S'.1 i).1 0 (S.1 i).2.2) (PX dC dI ad) (AX ad)) 0 0 (AX ad) := by
  refine Met.ofW (cc := cX3_arrangeAll) (maxL := 4) (ret := none) pl_X3 rfl ?_
  intro p e s m args below meth c s₁ B hml hv
  obtain ⟨rfl, hPX⟩ := hv
  have hx := B.exec
  have hb := B.bytes
  have hr := B.returns
  have hts := atoms_spec (ws := wsX3_arrangeAll) B.pre
  have hown : s.vm.findClass RX3 = some m.cls := findClass_of_methodNamed B.named
  have hlocks := B.notSynchronized
  have hX := WX.of hPX
  have hl := lv_entry ([.ref (ad (54 + w)), .ref (ad (3 * i)), .ref (ad (24 + 5 * j)), .int (nI y9)]) (n := 4) (Nat.le_of_ble_eq_true rfl)
  rw [lg_entry_eq]
  generalize (lg_sl ([.ref (ad (54 + w)), .ref (ad (3 * i)), .ref (ad (24 + 5 * j)), .int (nI y9)]) ++ List.replicate (4 - (lg_sl ([.ref (ad (54 + w)), .ref (ad (3 * i)), .ref (ad (24 + 5 * j)), .int (nI y9)])).length) Slot.unset).toArray = ls at hl ⊢
  have hl : lv_has ls 4 [(0, .ref (ad (54 + w))), (1, .ref (ad (3 * i))), (2, .ref (ad (24 + 5 * j))), (3, .int (nI y9))] := hl
  show W p l e ({ frames := 3, cells := 0, slots := 0, locals := 82 } : Room) s m ([.ref (ad (54 + w)), .ref (ad (3 * i)), .ref (ad (24 + 5 * j)), .int (nI y9)]).toArray below meth c s.heap [] 0 0 (MQ below (va_Qv (fun S' => keepR S S' i (3 + 2 * w) ∧ SP (S.2.1 j).2.2.1 ((S.1 i).1, (S.1 i).2.1) ((S'.1 i).1, (S'.1 i).2.1) 0 (S.1 i).2.2 ∧ srt (S.2.1 j).2.2.1 (S'.1 i).1 0 (S.1 i).2.2) (PX dC dI ad) (AX ad)) ([.ref (ad (54 + w)), .ref (ad (3 * i)), .ref (ad (24 + 5 * j)), .int (nI y9)]).toArray s 0 0 (AX ad)) (F0 m 0 ls [])
  rcases (show y9 = 0 ∨ y9 = 1 ∨ y9 = 2 by omega) with rfl | rfl | rfl
  · skip
    have hl : lv_has ls 4 [(0, .ref (ad (54 + w))), (1, .ref (ad (3 * i))), (2, .ref (ad (24 + 5 * j))), (3, .int (nI 0))] := hl
    refine lv_iload_n hx hb dX3_arrangeAll_0 rfl (lv_at hl 3 rfl) ?_
    refine lv_lookup (x := nI 0) (off := 27) (tgt := 28) hx hb dX3_arrangeAll_1 (by decide) (by decide) (by decide) ?_
    refine lv_aload_n hx hb dX3_arrangeAll_28 rfl (lv_at hl 0 rfl) ?_
    refine lv_aload_n hx hb dX3_arrangeAll_29 rfl (lv_at hl 1 rfl) ?_
    refine lv_aload_n hx hb dX3_arrangeAll_30 rfl (lv_at hl 2 rfl) ?_
    refine lv_iconst (v := nI 0) hx hb dX3_arrangeAll_31 (by decide) ?_
    refine lv_aload_n hx hb dX3_arrangeAll_32 rfl (lv_at hl 1 rfl) ?_
    refine kx_cr (v := nI ((S.1 i).2.2)) (va_runV (As := []) (rest := [.int (nI 0), .ref (ad (24 + 5 * j)), .ref (ad (3 * i)), .ref (ad (54 + w))]) ⟨hx, hb, hml, hown, hts⟩ (m_X2_length l dC dI ad S i hi) (cwV 0 hts gX3_arrangeAll_X2_length rfl rfl rfl hdX2_length_0 ⟨Nat.le_of_ble_eq_true rfl, Nat.le_of_ble_eq_true rfl⟩) (hX.preRow hi) rfl rfl hl.1 rfl (lv_room (Nat.le_of_ble_eq_true rfl)) dX3_arrangeAll_33 ⟨Nat.le_of_ble_eq_true rfl, Nat.le_of_ble_eq_true rfl⟩) (fun _ h => h) ?_
    refine kx_cv (va_runV (As := [.ref (ad (3 * i)), .ref (ad (24 + 5 * j)), .int (nI 0), .int (nI ((S.1 i).2.2))]) (rest := []) ⟨hx, hb, hml, hown, hts⟩ (s_X3_insertEach l dC dI ad S w i j 0 ((S.1 i).2.2) hw hi hj hro ho (Nat.zero_le _) (Nat.le_refl _)) (cwV 4 hts gX3_arrangeAll_X3_insertEach rfl rfl rfl hdX3_insertEach_4 ⟨Nat.le_of_ble_eq_true rfl, Nat.le_of_ble_eq_true rfl⟩) (hX.preSor hw) rfl rfl hl.1 rfl (lv_room (Nat.le_of_ble_eq_true rfl)) dX3_arrangeAll_36 ⟨Nat.le_of_ble_eq_true rfl, Nat.le_of_ble_eq_true rfl⟩) hX (fun _ h => h) (fun S_ H locs hw hX => ?_)
    obtain ⟨r2, hw, hr2, hn2, hs2, ht2⟩ := hw
    subst hw
    refine lv_goto (tgt := 57) hx hb dX3_arrangeAll_39 (by decide) ?_
    exact W.vret hx hb hr (fun t9 ht9 hW9 => ⟨⟨(xR S i (r2.1, r2.2.1, r2.2.2)), rfl, ⟨keepR_i (keepR_refl hro hgo) hig hr2 hn2, by rw [xR_row]; exact ⟨hs2, ht2⟩⟩, hX.P ht9 hW9⟩, hX.2.2.2.F ht9⟩) hX.2.2.2.2.2 dX3_arrangeAll_57
  · skip
    have hl : lv_has ls 4 [(0, .ref (ad (54 + w))), (1, .ref (ad (3 * i))), (2, .ref (ad (24 + 5 * j))), (3, .int (nI 1))] := hl
    refine lv_iload_n hx hb dX3_arrangeAll_0 rfl (lv_at hl 3 rfl) ?_
    refine lv_lookup (x := nI 1) (off := 41) (tgt := 42) hx hb dX3_arrangeAll_1 (by decide) (by decide) (by decide) ?_
    refine lv_aload_n hx hb dX3_arrangeAll_42 rfl (lv_at hl 0 rfl) ?_
    refine lv_aload_n hx hb dX3_arrangeAll_43 rfl (lv_at hl 1 rfl) ?_
    refine lv_aload_n hx hb dX3_arrangeAll_44 rfl (lv_at hl 2 rfl) ?_
    refine kx_cv (va_runV (As := [.ref (ad (3 * i)), .ref (ad (24 + 5 * j))]) (rest := []) ⟨hx, hb, hml, hown, hts⟩ (s_X3_mergeRuns l dC dI ad S w i j hw hi hj hro ho hig hgo) (cwV 2 hts gX3_arrangeAll_X3_mergeRuns rfl rfl rfl hdX3_mergeRuns_2 ⟨Nat.le_of_ble_eq_true rfl, Nat.le_of_ble_eq_true rfl⟩) (hX.preSor hw) rfl rfl hl.1 rfl (lv_room (Nat.le_of_ble_eq_true rfl)) dX3_arrangeAll_45 ⟨Nat.le_of_ble_eq_true rfl, Nat.le_of_ble_eq_true rfl⟩) hX (fun _ h => h) (fun S_ H locs hw hX => ?_)
    refine lv_goto (tgt := 57) hx hb dX3_arrangeAll_48 (by decide) ?_
    exact W.vret hx hb hr (fun t9 ht9 hW9 => ⟨⟨S_, rfl, hw, hX.P ht9 hW9⟩, hX.2.2.2.F ht9⟩) hX.2.2.2.2.2 dX3_arrangeAll_57
  · skip
    have hl : lv_has ls 4 [(0, .ref (ad (54 + w))), (1, .ref (ad (3 * i))), (2, .ref (ad (24 + 5 * j))), (3, .int (nI 2))] := hl
    refine lv_iload_n hx hb dX3_arrangeAll_0 rfl (lv_at hl 3 rfl) ?_
    refine lv_lookup (x := nI 2) (off := 50) (tgt := 51) hx hb dX3_arrangeAll_1 (by decide) (by decide) (by decide) ?_
    refine lv_aload_n hx hb dX3_arrangeAll_51 rfl (lv_at hl 0 rfl) ?_
    refine lv_aload_n hx hb dX3_arrangeAll_52 rfl (lv_at hl 1 rfl) ?_
    refine lv_aload_n hx hb dX3_arrangeAll_53 rfl (lv_at hl 2 rfl) ?_
    refine kx_cv (va_runV (As := [.ref (ad (3 * i)), .ref (ad (24 + 5 * j))]) (rest := []) ⟨hx, hb, hml, hown, hts⟩ (s_X3_gatherByRank l dC dI ad S w i j hw hi hj hro ho hig hgo) (cwV 2 hts gX3_arrangeAll_X3_gatherByRank rfl rfl rfl hdX3_gatherByRank_2 ⟨Nat.le_of_ble_eq_true rfl, Nat.le_of_ble_eq_true rfl⟩) (hX.preSor hw) rfl rfl hl.1 rfl (lv_room (Nat.le_of_ble_eq_true rfl)) dX3_arrangeAll_54 ⟨Nat.le_of_ble_eq_true rfl, Nat.le_of_ble_eq_true rfl⟩) hX (fun _ h => h) (fun S_ H locs hw hX => ?_)
    exact W.vret hx hb hr (fun t9 ht9 hW9 => ⟨⟨S_, rfl, hw, hX.P ht9 hW9⟩, hX.2.2.2.F ht9⟩) hX.2.2.2.2.2 dX3_arrangeAll_57
end
section
/-! sort, sortPart, wheel: what they bring about -/
theorem sortB_arr {S S2 S3 : XS} {i j : Nat} (e : S2 = xR S 4 (ovl (S.1 i).1 (S.1 4).1 (S.1 i).2.2, ovl (S.1 i).2.1 (S.1 4).2.1 (S.1 i).2.2, (S.1 i).2.2)) (h : keepR S2 S3 i (3 + 2 * 0) ∧ SP (S2.2.1 j).2.2.1 ((S2.1 i).1, (S2.1 i).2.1) ((S3.1 i).1, (S3.1 i).2.1) 0 (S2.1 i).2.2 ∧ srt (S2.2.1 j).2.2.1 (S3.1 i).1 0 (S2.1 i).2.2) (hi : i < 3) : SP (S.2.1 j).2.2.1 ((S.1 i).1, (S.1 i).2.1) ((S3.1 i).1, (S3.1 i).2.1) 0 (S.1 i).2.2 ∧ srt (S.2.1 j).2.2.1 (S3.1 i).1 0 (S.1 i).2.2 ∧ ∀ k, k < (S.1 i).2.2 → (S3.1 4).2.1 k = (S.1 i).2.1 k := by
  subst e
  rw [xR_ne _ _ (show i ≠ 4 by omega)] at h
  refine ⟨h.2.1, h.2.2, fun k hk => ?_⟩
  rw [h.1.2.1 4 (by omega) (by decide), xR_row]
  exact ovl_in hk
theorem sortB_ins {S S2 S3 : XS} {i j q q2 : Nat} (e : S2 = xR S 4 (ovl (S.1 i).1 (S.1 4).1 (S.1 i).2.2, ovl (S.1 i).2.1 (S.1 4).2.1 (S.1 i).2.2, (S.1 i).2.2)) (h : ∃ r' : RowS, S3 = xR S2 i r' ∧ rowOK r' ∧ r'.2.2 = (S2.1 i).2.2 ∧ SP (S2.2.1 j).2.2.1 ((S2.1 i).1, (S2.1 i).2.1) (r'.1, r'.2.1) q q2 ∧ srt (S2.2.1 j).2.2.1 r'.1 q q2) (hi : i < 3) : SP (S.2.1 j).2.2.1 ((S.1 i).1, (S.1 i).2.1) ((S3.1 i).1, (S3.1 i).2.1) q q2 ∧ srt (S.2.1 j).2.2.1 (S3.1 i).1 q q2 ∧ ∀ k, k < (S.1 i).2.2 → (S3.1 4).2.1 k = (S.1 i).2.1 k := by
  obtain ⟨r', rfl, h1, h2, h3, h4⟩ := h
  subst e
  rw [xR_ne _ _ (show i ≠ 4 by omega)] at h3
  rw [xR_row, xR_ne _ _ (show (4 : Nat) ≠ i by omega), xR_row]
  exact ⟨h3, h4, fun k hk => ovl_in hk⟩
theorem unl_eq {S S3 : XS} {i n : Nat} (hn : (S3.1 i).2.2 = n) (h4 : ∀ k, k < n → (S3.1 4).2.1 k = (S.1 i).2.1 k) : cntB (fun k => decide ((S3.1 i).2.1 k ≠ (S3.1 4).2.1 k)) (S3.1 i).2.2 = cntB (fun k => decide ((S3.1 i).2.1 k ≠ (S.1 i).2.1 k)) n := by
  rw [hn]
  exact cntB_cong (fun k hk => by rw [h4 k hk])
theorem mod2 {t n : Nat} (h : t < 2 * n) : t % n = if t < n then t else t - n := by
  by_cases e : t < n
  · rw [if_pos e, Nat.mod_eq_of_lt e]
  · rw [if_neg e, Nat.mod_eq_sub_mod (by omega), Nat.mod_eq_of_lt (by omega)]
theorem mod_ne {x a sh n : Nat} (h1 : x < a) (h2 : a < n) (h3 : sh < n) : (x + sh) % n ≠ (a + sh) % n := by
  rw [mod2 (show x + sh < 2 * n by omega), mod2 (show a + sh < 2 * n by omega)]
  split <;> split <;> omega
theorem whl_s {f g V : Nat → Nat} {a sh n v : Nat} (h : ∀ x, x < a → f ((x + sh) % n) = V x) (ha : a < n) (hs : sh < n) (hv : v = V a) : ∀ x, x < a + 1 → va_up f ((a + sh) % n) v ((x + sh) % n) = V x := fun x hx => by
  by_cases e : x = a
  · subst e; rw [va_up_self, hv]
  · rw [va_up_ne _ _ (mod_ne (show x < a by omega) ha hs)]; exact h x (by omega)
set_option maxHeartbeats 4000000 in
set_option maxRecDepth 100000 in
theorem s_X4_sort (l : Launch) (dC : Nat → ClassId) (dI : Nat → Nat → Nat) (ad : Nat → Nat) (S : XS) (i : Nat) (j : Nat) (k : Nat) (hi : i < 3) (hj : j < 4) (hk : k ≤ 2) (hI : InvX S) : Met l yX4_sort wsX4_sort ({ frames := 4, cells := 0, slots := 0, locals := 105 } : Room) (va_Pc [.ref (ad 57), .int (nI i), .int (nI j), .int (nI k)] (PX dC dI ad S)) (va_Qi (fun r S' => r = nI (cntB (fun k => decide ((S'.1 i).2.1 k ≠ (S.1 i).2.1 k)) (S.1 i).2.2) ∧ sortA S S' i ∧ SP (S.2.1 j).2.2.1 ((S.1 i).1, (S.1 i).2.1) ((S'.1 i).1, (S'.1 i).2.1) 0 (S.1 i).2.2 ∧ srt (S.2.1 j).2.2.1 (S'.1 i).1 0 (S.1 i).2.2) (PX dC dI ad) (AX ad)) 0 0 (AX ad) := by
  refine Met.ofW (cc := cX4_sort) (maxL := 6) (ret := (some .int)) pl_X4 rfl ?_
  intro p e s m args below meth c s₁ B hml hv
  obtain ⟨rfl, hPX⟩ := hv
  have hx := B.exec
  have hb := B.bytes
  have hr := B.returns
  have hts := atoms_spec (ws := wsX4_sort) B.pre
  have hown : s.vm.findClass RX4 = some m.cls := findClass_of_methodNamed B.named
  have hlocks := B.notSynchronized
  have hin4 : ∀ w ∈ u_ws RX4 TX4 9, w ∈ wsX4_sort := tu 1328 (by decide +kernel) rfl
  have hX := WX.of hPX
  have hl := lv_entry ([.ref (ad 57), .int (nI i), .int (nI j), .int (nI k)]) (n := 6) (Nat.le_of_ble_eq_true rfl)
  rw [lg_entry_eq]
  generalize (lg_sl ([.ref (ad 57), .int (nI i), .int (nI j), .int (nI k)]) ++ List.replicate (6 - (lg_sl ([.ref (ad 57), .int (nI i), .int (nI j), .int (nI k)])).length) Slot.unset).toArray = ls at hl ⊢
  have hl : lv_has ls 6 [(0, .ref (ad 57)), (1, .int (nI i)), (2, .int (nI j)), (3, .int (nI k))] := hl
  show W p l e ({ frames := 4, cells := 0, slots := 0, locals := 105 } : Room) s m ([.ref (ad 57), .int (nI i), .int (nI j), .int (nI k)]).toArray below meth c s.heap [] 0 0 (MQ below (va_Qi (fun r S' => r = nI (cntB (fun k => decide ((S'.1 i).2.1 k ≠ (S.1 i).2.1 k)) (S.1 i).2.2) ∧ sortA S S' i ∧ SP (S.2.1 j).2.2.1 ((S.1 i).1, (S.1 i).2.1) ((S'.1 i).1, (S'.1 i).2.1) 0 (S.1 i).2.2 ∧ srt (S.2.1 j).2.2.1 (S'.1 i).1 0 (S.1 i).2.2) (PX dC dI ad) (AX ad)) ([.ref (ad 57), .int (nI i), .int (nI j), .int (nI k)]).toArray s 0 0 (AX ad)) (F0 m 0 ls [])
  have hn := (hI.1 i (by omega)).1
  refine lv_aload_n hx hb dX4_sort_0 rfl (lv_at hl 0 rfl) ?_
  refine lv_iload_n hx hb dX4_sort_1 rfl (lv_at hl 1 rfl) ?_
  refine va_csr (va_Run.run (va_runV (As := [.int (nI i)]) (rest := []) ⟨hx, hb, hml, hown, hts⟩ (m_X4_rowAt l dC dI ad S i (by omega)) (cwV 1 hts gX4_sort_X4_rowAt rfl rfl rfl hdX4_rowAt_1 ⟨Nat.le_of_ble_eq_true rfl, Nat.le_of_ble_eq_true rfl⟩) (hX.preTop 57 6 (by decide) (by decide) rfl rfl) rfl rfl hl.1 rfl (lv_room (Nat.le_of_ble_eq_true rfl)) dX4_sort_2 ⟨Nat.le_of_ble_eq_true rfl, Nat.le_of_ble_eq_true rfl⟩)) (fun k_ hk_ => ?_)
  rw [hk_]
  refine lv_astore (lv' := [(4, .ref (ad (3 * i))), (0, .ref (ad 57)), (1, .int (nI i)), (2, .int (nI j)), (3, .int (nI k))]) hx hb dX4_sort_5 hl (by decide) rfl (fun ls hl => ?_)
  refine lv_aload_n hx hb dX4_sort_7 rfl (lv_at hl 1 rfl) ?_
  refine lv_iload_n hx hb dX4_sort_8 rfl (lv_at hl 3 rfl) ?_
  refine va_csr (va_Run.run (va_runV (As := [.int (nI j)]) (rest := []) ⟨hx, hb, hml, hown, hts⟩ (m_X4_orderAt l dC dI ad S j (by omega)) (cwV 1 hts gX4_sort_X4_orderAt rfl rfl rfl hdX4_orderAt_1 ⟨Nat.le_of_ble_eq_true rfl, Nat.le_of_ble_eq_true rfl⟩) (hX.preTop 57 6 (by decide) (by decide) rfl rfl) rfl rfl hl.1 rfl (lv_room (Nat.le_of_ble_eq_true rfl)) dX4_sort_9 ⟨Nat.le_of_ble_eq_true rfl, Nat.le_of_ble_eq_true rfl⟩)) (fun k_ hk_ => ?_)
  rw [hk_]
  refine lv_astore (lv' := [(5, .ref (ad (24 + 5 * j))), (4, .ref (ad (3 * i))), (0, .ref (ad 57)), (1, .int (nI i)), (2, .int (nI j)), (3, .int (nI k))]) hx hb dX4_sort_12 hl (by decide) rfl (fun ls hl => ?_)
  refine lv_iload_n hx hb dX4_sort_14 rfl (lv_at hl 5 rfl) ?_
  refine lv_iconst (v := nI 2) hx hb dX4_sort_15 (by decide) ?_
  refine va_csv (va_Run.run (va_runS (As := [.int (nI k), .int (nI 2)]) (rest := []) ⟨hx, hb, hml, hown, hts⟩ (m_X4_demandWithin l dC dI ad S k 2 (by omega) (by omega)) (va_cwS 2 hts gX4_sort_X4_demandWithin rfl rfl rfl hdX4_demandWithin_2.2 ⟨Nat.le_of_ble_eq_true rfl, Nat.le_of_ble_eq_true rfl⟩) hX.preS rfl rfl hl.1 rfl (lv_room (Nat.le_of_ble_eq_true rfl)) dX4_sort_16 ⟨Nat.le_of_ble_eq_true rfl, Nat.le_of_ble_eq_true rfl⟩)) (fun _ => ?_)
  refine lv_aload_n hx hb dX4_sort_19 rfl (lv_at hl 2 rfl) ?_
  refine kx_gspareRow hx hb hts hin4 hown hX (hts (.fieldLink RX4 36 "Orderlattice" "spareRow" "LOrderlattice$Row;") (tm 453 (by decide +kernel) rfl)) dX4_sort_20 ?_
  refine lv_aload hx hb dX4_sort_23 (lv_at hl 1 rfl) ?_
  refine kx_cv (va_runV (As := [.ref (ad (3 * i))]) (rest := []) ⟨hx, hb, hml, hown, hts⟩ (m_X2_becomeCopyOf l dC dI ad S 4 i (by omega) (by omega) (by omega)) (cwV 1 hts gX4_sort_X2_becomeCopyOf rfl rfl rfl hdX2_becomeCopyOf_1 ⟨Nat.le_of_ble_eq_true rfl, Nat.le_of_ble_eq_true rfl⟩) (hX.preRow (by omega)) rfl rfl hl.1 rfl (lv_room (Nat.le_of_ble_eq_true rfl)) dX4_sort_25 ⟨Nat.le_of_ble_eq_true rfl, Nat.le_of_ble_eq_true rfl⟩) hX (fun _ h => h) (fun S_ H locs hw hX => ?_)
  subst hw
  obtain ⟨S2, e_S2⟩ : ∃ z, z = (xR S 4 (ovl ((S.1 i).1) ((S.1 4).1) ((S.1 i).2.2), ovl ((S.1 i).2.1) ((S.1 4).2.1) ((S.1 i).2.2), (S.1 i).2.2)) := ⟨_, rfl⟩
  replace hX := WX.eqS e_S2.symm hX
  have hI2 : InvX S2 := by rw [e_S2]; exact InvX_row hI (rowOK_ovl (hI.1 4 (by decide)) (hI.1 i (by omega)))
  refine lv_aload_n hx hb dX4_sort_28 rfl (lv_at hl 2 rfl) ?_
  refine kx_gsorter hx hb hts hin4 hown hX (hts (.fieldLink RX4 24 "Orderlattice" "sorter" "LOrderlattice$Sorter;") (tm 449 (by decide +kernel) rfl)) dX4_sort_29 ?_
  refine lv_aload hx hb dX4_sort_32 (lv_at hl 1 rfl) ?_
  refine lv_aload hx hb dX4_sort_34 (lv_at hl 0 rfl) ?_
  refine lv_iload_n hx hb dX4_sort_36 rfl (lv_at hl 5 rfl) ?_
  refine kx_cv (va_runV (As := [.ref (ad (3 * i)), .ref (ad (24 + 5 * j)), .int (nI k)]) (rest := []) ⟨hx, hb, hml, hown, hts⟩ (s_X3_arrangeAll l dC dI ad S2 0 i j k (by decide) (by omega) (by omega) (hI2.1 i (by omega)) (hI2.2 j (by omega)) (show i ≠ 3 by omega) (hI2.1 3 (by decide)) (by omega)) (cwV 3 hts gX4_sort_X3_arrangeAll rfl rfl rfl hdX3_arrangeAll_3 ⟨Nat.le_of_ble_eq_true rfl, Nat.le_of_ble_eq_true rfl⟩) (hX.preSor (by omega)) rfl rfl hl.1 rfl (lv_room (Nat.le_of_ble_eq_true rfl)) dX4_sort_37 ⟨Nat.le_of_ble_eq_true rfl, Nat.le_of_ble_eq_true rfl⟩) hX (fun _ h => h) (fun S3 H locs hw hX => ?_)
  have hA := sortA_arr hI e_S2 hw.1 (by omega)
  have hB := sortB_arr e_S2 hw (by omega)
  refine lv_aload hx hb dX4_sort_40 (lv_at hl 1 rfl) ?_
  refine lv_aload_n hx hb dX4_sort_42 rfl (lv_at hl 2 rfl) ?_
  refine kx_gspareRow hx hb hts hin4 hown hX (hts (.fieldLink RX4 36 "Orderlattice" "spareRow" "LOrderlattice$Row;") (tm 453 (by decide +kernel) rfl)) dX4_sort_43 ?_
  refine kx_cr (v := nI (cntB (fun k => decide ((S3.1 i).2.1 k ≠ (S3.1 4).2.1 k)) (S3.1 i).2.2)) (va_runV (As := [.ref (ad (3 * 4))]) (rest := []) ⟨hx, hb, hml, hown, hts⟩ (m_X2_placesUnlike l dC dI ad S3 i 4 (by omega) (by omega) hA.2.2.2.2.1 hA.2.2.2.1) (cwV 1 hts gX4_sort_X2_placesUnlike rfl rfl rfl hdX2_placesUnlike_1 ⟨Nat.le_of_ble_eq_true rfl, Nat.le_of_ble_eq_true rfl⟩) (hX.preRow (by omega)) rfl rfl hl.1 rfl (lv_room (Nat.le_of_ble_eq_true rfl)) dX4_sort_46 ⟨Nat.le_of_ble_eq_true rfl, Nat.le_of_ble_eq_true rfl⟩) (fun _ h => h) ?_
  exact W.iret (v := nI (cntB (fun k => decide ((S3.1 i).2.1 k ≠ (S3.1 4).2.1 k)) (S3.1 i).2.2)) hx hb hr (fun t9 ht9 hW9 => ⟨⟨_, S3, rfl, ⟨congrArg nI (unl_eq hA.2.2.2.2.2 hB.2.2), hA, hB.1, hB.2.1⟩, hX.P ht9 hW9⟩, hX.2.2.2.F ht9⟩) hX.2.2.2.2.2 dX4_sort_49
set_option maxHeartbeats 4000000 in
set_option maxRecDepth 100000 in
theorem s_X4_sortPart (l : Launch) (dC : Nat → ClassId) (dI : Nat → Nat → Nat) (ad : Nat → Nat) (S : XS) (i : Nat) (j : Nat) (q : Nat) (q2 : Nat) (hi : i < 3) (hj : j < 4) (hq : q ≤ (S.1 i).2.2) (hq2 : q2 ≤ (S.1 i).2.2) (hqq : q ≤ q2) (hI : InvX S) : Met l yX4_sortPart wsX4_sortPart ({ frames := 3, cells := 0, slots := 0, locals := 73 } : Room) (va_Pc [.ref (ad 57), .int (nI i), .int (nI j), .int (nI q), .int (nI q2)] (PX dC dI ad S)) (va_Qi (fun r S' => r = nI (cntB (fun k => decide ((S'.1 i).2.1 k ≠ (S.1 i).2.1 k)) (S.1 i).2.2) ∧ sortA S S' i ∧ SP (S.2.1 j).2.2.1 ((S.1 i).1, (S.1 i).2.1) ((S'.1 i).1, (S'.1 i).2.1) q q2 ∧ srt (S.2.1 j).2.2.1 (S'.1 i).1 q q2) (PX dC dI ad) (AX ad)) 0 0 (AX ad) := by
  refine Met.ofW (cc := cX4_sortPart) (maxL := 7) (ret := (some .int)) pl_X4 rfl ?_
  intro p e s m args below meth c s₁ B hml hv
  obtain ⟨rfl, hPX⟩ := hv
  have hx := B.exec
  have hb := B.bytes
  have hr := B.returns
  have hts := atoms_spec (ws := wsX4_sortPart) B.pre
  have hown : s.vm.findClass RX4 = some m.cls := findClass_of_methodNamed B.named
  have hlocks := B.notSynchronized
  have hin4 : ∀ w ∈ u_ws RX4 TX4 9, w ∈ wsX4_sortPart := tu 1328 (by decide +kernel) rfl
  have hX := WX.of hPX
  have hl := lv_entry ([.ref (ad 57), .int (nI i), .int (nI j), .int (nI q), .int (nI q2)]) (n := 7) (Nat.le_of_ble_eq_true rfl)
  rw [lg_entry_eq]
  generalize (lg_sl ([.ref (ad 57), .int (nI i), .int (nI j), .int (nI q), .int (nI q2)]) ++ List.replicate (7 - (lg_sl ([.ref (ad 57), .int (nI i), .int (nI j), .int (nI q), .int (nI q2)])).length) Slot.unset).toArray = ls at hl ⊢
  have hl : lv_has ls 7 [(0, .ref (ad 57)), (1, .int (nI i)), (2, .int (nI j)), (3, .int (nI q)), (4, .int (nI q2))] := hl
  show W p l e ({ frames := 3, cells := 0, slots := 0, locals := 73 } : Room) s m ([.ref (ad 57), .int (nI i), .int (nI j), .int (nI q), .int (nI q2)]).toArray below meth c s.heap [] 0 0 (MQ below (va_Qi (fun r S' => r = nI (cntB (fun k => decide ((S'.1 i).2.1 k ≠ (S.1 i).2.1 k)) (S.1 i).2.2) ∧ sortA S S' i ∧ SP (S.2.1 j).2.2.1 ((S.1 i).1, (S.1 i).2.1) ((S'.1 i).1, (S'.1 i).2.1) q q2 ∧ srt (S.2.1 j).2.2.1 (S'.1 i).1 q q2) (PX dC dI ad) (AX ad)) ([.ref (ad 57), .int (nI i), .int (nI j), .int (nI q), .int (nI q2)]).toArray s 0 0 (AX ad)) (F0 m 0 ls [])
  have hn := (hI.1 i (by omega)).1
  refine lv_aload_n hx hb dX4_sortPart_0 rfl (lv_at hl 0 rfl) ?_
  refine lv_iload_n hx hb dX4_sortPart_1 rfl (lv_at hl 1 rfl) ?_
  refine va_csr (va_Run.run (va_runV (As := [.int (nI i)]) (rest := []) ⟨hx, hb, hml, hown, hts⟩ (m_X4_rowAt l dC dI ad S i (by omega)) (cwV 1 hts gX4_sortPart_X4_rowAt rfl rfl rfl hdX4_rowAt_1 ⟨Nat.le_of_ble_eq_true rfl, Nat.le_of_ble_eq_true rfl⟩) (hX.preTop 57 6 (by decide) (by decide) rfl rfl) rfl rfl hl.1 rfl (lv_room (Nat.le_of_ble_eq_true rfl)) dX4_sortPart_2 ⟨Nat.le_of_ble_eq_true rfl, Nat.le_of_ble_eq_true rfl⟩)) (fun k_ hk_ => ?_)
  rw [hk_]
  refine lv_astore (lv' := [(5, .ref (ad (3 * i))), (0, .ref (ad 57)), (1, .int (nI i)), (2, .int (nI j)), (3, .int (nI q)), (4, .int (nI q2))]) hx hb dX4_sortPart_5 hl (by decide) rfl (fun ls hl => ?_)
  refine lv_aload_n hx hb dX4_sortPart_7 rfl (lv_at hl 1 rfl) ?_
  refine lv_iload_n hx hb dX4_sortPart_8 rfl (lv_at hl 3 rfl) ?_
  refine va_csr (va_Run.run (va_runV (As := [.int (nI j)]) (rest := []) ⟨hx, hb, hml, hown, hts⟩ (m_X4_orderAt l dC dI ad S j (by omega)) (cwV 1 hts gX4_sortPart_X4_orderAt rfl rfl rfl hdX4_orderAt_1 ⟨Nat.le_of_ble_eq_true rfl, Nat.le_of_ble_eq_true rfl⟩) (hX.preTop 57 6 (by decide) (by decide) rfl rfl) rfl rfl hl.1 rfl (lv_room (Nat.le_of_ble_eq_true rfl)) dX4_sortPart_9 ⟨Nat.le_of_ble_eq_true rfl, Nat.le_of_ble_eq_true rfl⟩)) (fun k_ hk_ => ?_)
  rw [hk_]
  refine lv_astore (lv' := [(6, .ref (ad (24 + 5 * j))), (5, .ref (ad (3 * i))), (0, .ref (ad 57)), (1, .int (nI i)), (2, .int (nI j)), (3, .int (nI q)), (4, .int (nI q2))]) hx hb dX4_sortPart_12 hl (by decide) rfl (fun ls hl => ?_)
  refine lv_aload hx hb dX4_sortPart_14 (lv_at hl 1 rfl) ?_
  refine lv_iload_n hx hb dX4_sortPart_16 rfl (lv_at hl 5 rfl) ?_
  refine va_csv (va_Run.run (va_runS (As := [.ref (ad (3 * i)), .int (nI q)]) (rest := []) ⟨hx, hb, hml, hown, hts⟩ (m_X4_demandGap l dC dI ad S i q (by omega) (by omega) (by omega)) (va_cwS 2 hts gX4_sortPart_X4_demandGap rfl rfl rfl hdX4_demandGap_2.2 ⟨Nat.le_of_ble_eq_true rfl, Nat.le_of_ble_eq_true rfl⟩) hX.preS rfl rfl hl.1 rfl (lv_room (Nat.le_of_ble_eq_true rfl)) dX4_sortPart_17 ⟨Nat.le_of_ble_eq_true rfl, Nat.le_of_ble_eq_true rfl⟩)) (fun _ => ?_)
  refine lv_aload hx hb dX4_sortPart_20 (lv_at hl 1 rfl) ?_
  refine lv_iload hx hb dX4_sortPart_22 (lv_at hl 6 rfl) ?_
  refine va_csv (va_Run.run (va_runS (As := [.ref (ad (3 * i)), .int (nI q2)]) (rest := []) ⟨hx, hb, hml, hown, hts⟩ (m_X4_demandGap l dC dI ad S i q2 (by omega) (by omega) (by omega)) (va_cwS 2 hts gX4_sortPart_X4_demandGap rfl rfl rfl hdX4_demandGap_2.2 ⟨Nat.le_of_ble_eq_true rfl, Nat.le_of_ble_eq_true rfl⟩) hX.preS rfl rfl hl.1 rfl (lv_room (Nat.le_of_ble_eq_true rfl)) dX4_sortPart_24 ⟨Nat.le_of_ble_eq_true rfl, Nat.le_of_ble_eq_true rfl⟩)) (fun _ => ?_)
  refine lv_iload_n hx hb dX4_sortPart_27 rfl (lv_at hl 5 rfl) ?_
  refine lv_iload hx hb dX4_sortPart_28 (lv_at hl 6 rfl) ?_
  refine kn_icmp_le (tgt := 43) hx hb (by omega) (by omega) dX4_sortPart_30 (by decide) (fun k_1 => ?_) (fun k_1 => absurd k_1 (by omega))
  refine lv_aload_n hx hb dX4_sortPart_43 rfl (lv_at hl 2 rfl) ?_
  refine kx_gspareRow hx hb hts hin4 hown hX (hts (.fieldLink RX4 36 "Orderlattice" "spareRow" "LOrderlattice$Row;") (tm 453 (by decide +kernel) rfl)) dX4_sortPart_44 ?_
  refine lv_aload hx hb dX4_sortPart_47 (lv_at hl 1 rfl) ?_
  refine kx_cv (va_runV (As := [.ref (ad (3 * i))]) (rest := []) ⟨hx, hb, hml, hown, hts⟩ (m_X2_becomeCopyOf l dC dI ad S 4 i (by omega) (by omega) (by omega)) (cwV 1 hts gX4_sortPart_X2_becomeCopyOf rfl rfl rfl hdX2_becomeCopyOf_1 ⟨Nat.le_of_ble_eq_true rfl, Nat.le_of_ble_eq_true rfl⟩) (hX.preRow (by omega)) rfl rfl hl.1 rfl (lv_room (Nat.le_of_ble_eq_true rfl)) dX4_sortPart_49 ⟨Nat.le_of_ble_eq_true rfl, Nat.le_of_ble_eq_true rfl⟩) hX (fun _ h => h) (fun S_ H locs hw hX => ?_)
  subst hw
  obtain ⟨S2, e_S2⟩ : ∃ z, z = (xR S 4 (ovl ((S.1 i).1) ((S.1 4).1) ((S.1 i).2.2), ovl ((S.1 i).2.1) ((S.1 4).2.1) ((S.1 i).2.2), (S.1 i).2.2)) := ⟨_, rfl⟩
  replace hX := WX.eqS e_S2.symm hX
  have hI2 : InvX S2 := by rw [e_S2]; exact InvX_row hI (rowOK_ovl (hI.1 4 (by decide)) (hI.1 i (by omega)))
  refine lv_aload_n hx hb dX4_sortPart_52 rfl (lv_at hl 2 rfl) ?_
  refine kx_gsorter hx hb hts hin4 hown hX (hts (.fieldLink RX4 24 "Orderlattice" "sorter" "LOrderlattice$Sorter;") (tm 449 (by decide +kernel) rfl)) dX4_sortPart_53 ?_
  refine lv_aload hx hb dX4_sortPart_56 (lv_at hl 1 rfl) ?_
  refine lv_aload hx hb dX4_sortPart_58 (lv_at hl 0 rfl) ?_
  refine lv_iload_n hx hb dX4_sortPart_60 rfl (lv_at hl 5 rfl) ?_
  refine lv_iload hx hb dX4_sortPart_61 (lv_at hl 6 rfl) ?_
  refine kx_cv (va_runV (As := [.ref (ad (3 * i)), .ref (ad (24 + 5 * j)), .int (nI q), .int (nI q2)]) (rest := []) ⟨hx, hb, hml, hown, hts⟩ (s_X3_insertEach l dC dI ad S2 0 i j q q2 (by decide) (by omega) (by omega) (hI2.1 i (by omega)) (hI2.2 j (by omega)) (by omega) (by rw [e_S2, xR_ne _ _ (show i ≠ 4 by omega)]; omega)) (cwV 4 hts gX4_sortPart_X3_insertEach rfl rfl rfl hdX3_insertEach_4 ⟨Nat.le_of_ble_eq_true rfl, Nat.le_of_ble_eq_true rfl⟩) (hX.preSor (by omega)) rfl rfl hl.1 rfl (lv_room (Nat.le_of_ble_eq_true rfl)) dX4_sortPart_63 ⟨Nat.le_of_ble_eq_true rfl, Nat.le_of_ble_eq_true rfl⟩) hX (fun _ h => h) (fun S3 H locs hw hX => ?_)
  have hA := sortA_ins hI e_S2 (by obtain ⟨r8, a8, b8, c8, -⟩ := hw; exact ⟨r8, a8, b8, c8⟩) (by omega)
  have hB := sortB_ins e_S2 hw (by omega)
  refine lv_aload hx hb dX4_sortPart_66 (lv_at hl 1 rfl) ?_
  refine lv_aload_n hx hb dX4_sortPart_68 rfl (lv_at hl 2 rfl) ?_
  refine kx_gspareRow hx hb hts hin4 hown hX (hts (.fieldLink RX4 36 "Orderlattice" "spareRow" "LOrderlattice$Row;") (tm 453 (by decide +kernel) rfl)) dX4_sortPart_69 ?_
  refine kx_cr (v := nI (cntB (fun k => decide ((S3.1 i).2.1 k ≠ (S3.1 4).2.1 k)) (S3.1 i).2.2)) (va_runV (As := [.ref (ad (3 * 4))]) (rest := []) ⟨hx, hb, hml, hown, hts⟩ (m_X2_placesUnlike l dC dI ad S3 i 4 (by omega) (by omega) hA.2.2.2.2.1 hA.2.2.2.1) (cwV 1 hts gX4_sortPart_X2_placesUnlike rfl rfl rfl hdX2_placesUnlike_1 ⟨Nat.le_of_ble_eq_true rfl, Nat.le_of_ble_eq_true rfl⟩) (hX.preRow (by omega)) rfl rfl hl.1 rfl (lv_room (Nat.le_of_ble_eq_true rfl)) dX4_sortPart_72 ⟨Nat.le_of_ble_eq_true rfl, Nat.le_of_ble_eq_true rfl⟩) (fun _ h => h) ?_
  exact W.iret (v := nI (cntB (fun k => decide ((S3.1 i).2.1 k ≠ (S3.1 4).2.1 k)) (S3.1 i).2.2)) hx hb hr (fun t9 ht9 hW9 => ⟨⟨_, S3, rfl, ⟨congrArg nI (unl_eq hA.2.2.2.2.2 hB.2.2), hA, hB.1, hB.2.1⟩, hX.P ht9 hW9⟩, hX.2.2.2.F ht9⟩) hX.2.2.2.2.2 dX4_sortPart_75
set_option maxHeartbeats 4000000 in
set_option maxRecDepth 100000 in
theorem s_X4_wheel (l : Launch) (dC : Nat → ClassId) (dI : Nat → Nat → Nat) (ad : Nat → Nat) (S : XS) (i : Nat) (y : Int32) (hi : i < 3) (hI : InvX S) : Met l yX4_wheel wsX4_wheel ({ frames := 2, cells := 0, slots := 0, locals := 46 } : Room) (va_Pc [.ref (ad 57), .int (nI i), .int y] (PX dC dI ad S)) (va_Qi (fun r S' => ((S.1 i).2.2 = 0 ∧ r = -1 ∧ S' = S) ∨ (0 < (S.1 i).2.2 ∧ ∃ (sh : Nat) (r4 r' : RowS), r = nI (r'.2.1 0) ∧ sh < (S.1 i).2.2 ∧ nI sh = fmv y (nI (S.1 i).2.2) ∧ S' = xR (xR S 4 r4) i r' ∧ rowOK r4 ∧ rowOK r' ∧ r'.2.2 = (S.1 i).2.2 ∧ (∀ x, x < (S.1 i).2.2 → r'.1 ((x + sh) % (S.1 i).2.2) = (S.1 i).1 x) ∧ ∀ x, x < (S.1 i).2.2 → r'.2.1 ((x + sh) % (S.1 i).2.2) = (S.1 i).2.1 x)) (PX dC dI ad) (AX ad)) 0 0 (AX ad) := by
  refine Met.ofW (cc := cX4_wheel) (maxL := 7) (ret := (some .int)) pl_X4 rfl ?_
  intro p e s m args below meth c s₁ B hml hv
  obtain ⟨rfl, hPX⟩ := hv
  have hx := B.exec
  have hb := B.bytes
  have hr := B.returns
  have hts := atoms_spec (ws := wsX4_wheel) B.pre
  have hown : s.vm.findClass RX4 = some m.cls := findClass_of_methodNamed B.named
  have hlocks := B.notSynchronized
  have hin4 : ∀ w ∈ u_ws RX4 TX4 9, w ∈ wsX4_wheel := tu 1328 (by decide +kernel) rfl
  have hX := WX.of hPX
  have hl := lv_entry ([.ref (ad 57), .int (nI i), .int y]) (n := 7) (Nat.le_of_ble_eq_true rfl)
  rw [lg_entry_eq]
  generalize (lg_sl ([.ref (ad 57), .int (nI i), .int y]) ++ List.replicate (7 - (lg_sl ([.ref (ad 57), .int (nI i), .int y])).length) Slot.unset).toArray = ls at hl ⊢
  have hl : lv_has ls 7 [(0, .ref (ad 57)), (1, .int (nI i)), (2, .int y)] := hl
  show W p l e ({ frames := 2, cells := 0, slots := 0, locals := 46 } : Room) s m ([.ref (ad 57), .int (nI i), .int y]).toArray below meth c s.heap [] 0 0 (MQ below (va_Qi (fun r S' => ((S.1 i).2.2 = 0 ∧ r = -1 ∧ S' = S) ∨ (0 < (S.1 i).2.2 ∧ ∃ (sh : Nat) (r4 r' : RowS), r = nI (r'.2.1 0) ∧ sh < (S.1 i).2.2 ∧ nI sh = fmv y (nI (S.1 i).2.2) ∧ S' = xR (xR S 4 r4) i r' ∧ rowOK r4 ∧ rowOK r' ∧ r'.2.2 = (S.1 i).2.2 ∧ (∀ x, x < (S.1 i).2.2 → r'.1 ((x + sh) % (S.1 i).2.2) = (S.1 i).1 x) ∧ ∀ x, x < (S.1 i).2.2 → r'.2.1 ((x + sh) % (S.1 i).2.2) = (S.1 i).2.1 x)) (PX dC dI ad) (AX ad)) ([.ref (ad 57), .int (nI i), .int y]).toArray s 0 0 (AX ad)) (F0 m 0 ls [])
  have hn := (hI.1 i (by omega)).1
  refine lv_aload_n hx hb dX4_wheel_0 rfl (lv_at hl 0 rfl) ?_
  refine lv_iload_n hx hb dX4_wheel_1 rfl (lv_at hl 1 rfl) ?_
  refine va_csr (va_Run.run (va_runV (As := [.int (nI i)]) (rest := []) ⟨hx, hb, hml, hown, hts⟩ (m_X4_rowAt l dC dI ad S i (by omega)) (cwV 1 hts gX4_wheel_X4_rowAt rfl rfl rfl hdX4_rowAt_1 ⟨Nat.le_of_ble_eq_true rfl, Nat.le_of_ble_eq_true rfl⟩) (hX.preTop 57 6 (by decide) (by decide) rfl rfl) rfl rfl hl.1 rfl (lv_room (Nat.le_of_ble_eq_true rfl)) dX4_wheel_2 ⟨Nat.le_of_ble_eq_true rfl, Nat.le_of_ble_eq_true rfl⟩)) (fun k_ hk_ => ?_)
  rw [hk_]
  refine lv_astore_n (lv' := [(3, .ref (ad (3 * i))), (0, .ref (ad 57)), (1, .int (nI i)), (2, .int y)]) hx hb dX4_wheel_5 rfl hl (by decide) rfl (fun ls hl => ?_)
  refine lv_aload_n hx hb dX4_wheel_6 rfl (lv_at hl 0 rfl) ?_
  refine kx_cr (v := nI ((S.1 i).2.2)) (va_runV (As := []) (rest := []) ⟨hx, hb, hml, hown, hts⟩ (m_X2_length l dC dI ad S i (by omega)) (cwV 0 hts gX4_wheel_X2_length rfl rfl rfl hdX2_length_0 ⟨Nat.le_of_ble_eq_true rfl, Nat.le_of_ble_eq_true rfl⟩) (hX.preRow (by omega)) rfl rfl hl.1 rfl (lv_room (Nat.le_of_ble_eq_true rfl)) dX4_wheel_7 ⟨Nat.le_of_ble_eq_true rfl, Nat.le_of_ble_eq_true rfl⟩) (fun _ h => h) ?_
  refine lv_istore (lv' := [(4, .int (nI ((S.1 i).2.2))), (3, .ref (ad (3 * i))), (0, .ref (ad 57)), (1, .int (nI i)), (2, .int y)]) hx hb dX4_wheel_10 hl (by decide) rfl (fun ls hl => ?_)
  refine lv_iload hx hb dX4_wheel_12 (lv_at hl 0 rfl) ?_
  refine kn_if_gt (tgt := 19) hx hb (by omega) dX4_wheel_14 (by decide) (fun k_1 => ?_) (fun k_1 => ?_)
  · skip
    have h0 := k_1
    refine lv_iload_n hx hb dX4_wheel_19 rfl (lv_at hl 4 rfl) ?_
    refine lv_iload hx hb dX4_wheel_20 (lv_at hl 0 rfl) ?_
    refine kx_cr (v := (fmv y (nI ((S.1 i).2.2)))) (va_runS (As := [.int y, .int (nI ((S.1 i).2.2))]) (rest := []) ⟨hx, hb, hml, hown, hts⟩ (m_J9_floorMod l dC dI ad S y ((S.1 i).2.2) (by omega) (by omega)) (va_cwS 2 hts gX4_wheel_J9_floorMod_7cf53 rfl rfl rfl hdJ9_floorMod_7cf53_2.2 ⟨Nat.le_of_ble_eq_true rfl, Nat.le_of_ble_eq_true rfl⟩) hX.preS rfl rfl hl.1 rfl (lv_room (Nat.le_of_ble_eq_true rfl)) dX4_wheel_22 ⟨Nat.le_of_ble_eq_true rfl, Nat.le_of_ble_eq_true rfl⟩) (fun _ h => h) ?_
    obtain ⟨sh, hsh, hsl⟩ := fmv_nat (a := y) (m := nI (S.1 i).2.2) (by rw [nI_toInt (by omega)]; omega)
    have hsl : sh < (S.1 i).2.2 := by rw [nI_toInt (by omega)] at hsl; omega
    refine lv_topi (fun z9 hz9 => ?_)
    obtain rfl : z9 = nI sh := hz9.trans hsh
    refine lv_istore (lv' := [(5, .int (nI sh)), (4, .int (nI ((S.1 i).2.2))), (3, .ref (ad (3 * i))), (0, .ref (ad 57)), (1, .int (nI i)), (2, .int y)]) hx hb dX4_wheel_25 hl (by decide) rfl (fun ls hl => ?_)
    refine lv_aload_n hx hb dX4_wheel_27 rfl (lv_at hl 3 rfl) ?_
    refine kx_gspareRow hx hb hts hin4 hown hX (hts (.fieldLink RX4 36 "Orderlattice" "spareRow" "LOrderlattice$Row;") (tm 453 (by decide +kernel) rfl)) dX4_wheel_28 ?_
    refine lv_aload_n hx hb dX4_wheel_31 rfl (lv_at hl 2 rfl) ?_
    refine kx_cv (va_runV (As := [.ref (ad (3 * i))]) (rest := []) ⟨hx, hb, hml, hown, hts⟩ (m_X2_becomeCopyOf l dC dI ad S 4 i (by omega) (by omega) (by omega)) (cwV 1 hts gX4_wheel_X2_becomeCopyOf rfl rfl rfl hdX2_becomeCopyOf_1 ⟨Nat.le_of_ble_eq_true rfl, Nat.le_of_ble_eq_true rfl⟩) (hX.preRow (by omega)) rfl rfl hl.1 rfl (lv_room (Nat.le_of_ble_eq_true rfl)) dX4_wheel_32 ⟨Nat.le_of_ble_eq_true rfl, Nat.le_of_ble_eq_true rfl⟩) hX (fun _ h => h) (fun S_ H locs hw hX => ?_)
    subst hw
    obtain ⟨S2, e_S2⟩ : ∃ z, z = (xR S 4 (ovl ((S.1 i).1) ((S.1 4).1) ((S.1 i).2.2), ovl ((S.1 i).2.1) ((S.1 4).2.1) ((S.1 i).2.2), (S.1 i).2.2)) := ⟨_, rfl⟩
    replace hX := WX.eqS e_S2.symm hX
    have hI2 : InvX S2 := by rw [e_S2]; exact InvX_row hI (rowOK_ovl (hI.1 4 (by decide)) (hI.1 i (by omega)))
    have hr4 := hI2.1 4 (by decide)
    have hn4 : (S2.1 4).2.2 = (S.1 i).2.2 := by rw [e_S2, xR_row]
    have hi4 : S2.1 i = S.1 i := by rw [e_S2, xR_ne _ _ (show i ≠ 4 by omega)]
    have hv4 : ∀ x, x < (S.1 i).2.2 → (S2.1 4).1 x = (S.1 i).1 x ∧ (S2.1 4).2.1 x = (S.1 i).2.1 x := fun x hx => by rw [e_S2, xR_row]; exact ⟨ovl_in hx, ovl_in hx⟩
    refine lv_iconst (v := nI 0) hx hb dX4_wheel_35 (by decide) ?_
    refine lv_istore (lv' := [(6, .int (nI 0)), (5, .int (nI sh)), (4, .int (nI ((S.1 i).2.2))), (3, .ref (ad (3 * i))), (0, .ref (ad 57)), (1, .int (nI i)), (2, .int y)]) hx hb dX4_wheel_36 hl (by decide) rfl (fun ls hl => ?_)
    have loop38 : ∀ (fuel : Nat) (r : RowS) (a : Nat) (hr9 : rowOK r ∧ r.2.2 = (S.1 i).2.2) (ha : a ≤ (S.1 i).2.2) (hp9 : (∀ x, x < a → r.1 ((x + sh) % (S.1 i).2.2) = (S.1 i).1 x) ∧ ∀ x, x < a → r.2.1 ((x + sh) % (S.1 i).2.2) = (S.1 i).2.1 x) (H : Heap) (locs : List Loc), (S.1 i).2.2 - a < fuel → WX dC dI ad (xR S2 i (r.1, r.2.1, r.2.2)) (AX ad) s H locs → ∀ ls : Array Slot, lv_has ls 7 [(0, .ref (ad 57)), (1, .int (nI i)), (2, .int y), (3, .ref (ad (3 * i))), (4, .int (nI ((S.1 i).2.2))), (5, .int (nI sh)), (6, .int (nI a))] → W p l e ({ frames := 2, cells := 0, slots := 0, locals := 46 } : Room) s m ([.ref (ad 57), .int (nI i), .int y]).toArray below meth c H locs 0 0 (MQ below (va_Qi (fun r S' => ((S.1 i).2.2 = 0 ∧ r = -1 ∧ S' = S) ∨ (0 < (S.1 i).2.2 ∧ ∃ (sh : Nat) (r4 r' : RowS), r = nI (r'.2.1 0) ∧ sh < (S.1 i).2.2 ∧ nI sh = fmv y (nI (S.1 i).2.2) ∧ S' = xR (xR S 4 r4) i r' ∧ rowOK r4 ∧ rowOK r' ∧ r'.2.2 = (S.1 i).2.2 ∧ (∀ x, x < (S.1 i).2.2 → r'.1 ((x + sh) % (S.1 i).2.2) = (S.1 i).1 x) ∧ ∀ x, x < (S.1 i).2.2 → r'.2.1 ((x + sh) % (S.1 i).2.2) = (S.1 i).2.1 x)) (PX dC dI ad) (AX ad)) ([.ref (ad 57), .int (nI i), .int y]).toArray s 0 0 (AX ad)) (F0 m 38 ls []) := by
      intro fuel
      induction fuel with
      | zero => intro r a hr9 ha hp9 H locs hf; exact absurd hf (Nat.not_lt_zero _)
      | succ fuel ih38 =>
        intro r a hr9 ha hp9 H locs hf hX ls hl
        refine lv_iload hx hb dX4_wheel_38 (lv_at hl 6 rfl) ?_
        refine lv_iload hx hb dX4_wheel_40 (lv_at hl 4 rfl) ?_
        refine kn_icmp_ge (tgt := 81) hx hb (by omega) (by omega) dX4_wheel_42 (by decide) (fun k_2 => ?_) (fun k_2 => ?_)
        · skip
          refine lv_aload_n hx hb dX4_wheel_81 rfl (lv_at hl 3 rfl) ?_
          refine lv_iconst (v := nI 0) hx hb dX4_wheel_82 (by decide) ?_
          refine kx_cr (v := nI (r.2.1 0)) (va_runV (As := [.int (nI 0)]) (rest := []) ⟨hx, hb, hml, hown, hts⟩ (m_X2_markOn l dC dI ad (xR S2 i (r.1, r.2.1, r.2.2)) i 0 (by omega) (by omega)) (cwV 1 hts gX4_wheel_X2_markOn rfl rfl rfl hdX2_markOn_1 ⟨Nat.le_of_ble_eq_true rfl, Nat.le_of_ble_eq_true rfl⟩) (hX.preRow (by omega)) rfl rfl hl.1 rfl (lv_room (Nat.le_of_ble_eq_true rfl)) dX4_wheel_83 ⟨Nat.le_of_ble_eq_true rfl, Nat.le_of_ble_eq_true rfl⟩) (fun _ h => by rw [h, xR_row]) ?_
          exact W.iret (v := nI (r.2.1 0)) hx hb hr (fun t9 ht9 hW9 => ⟨⟨_, (xR S2 i (r.1, r.2.1, r.2.2)), rfl, (Or.inr ⟨h0, sh, _, r, rfl, hsl, hsh.symm, by rw [e_S2], rowOK_ovl (hI.1 4 (by decide)) (hI.1 i (by omega)), hr9.1, hr9.2, fun x hx => hp9.1 x (by omega), fun x hx => hp9.2 x (by omega)⟩), hX.P ht9 hW9⟩, hX.2.2.2.F ht9⟩) hX.2.2.2.2.2 dX4_wheel_86
        · skip
          refine lv_aload_n hx hb dX4_wheel_45 rfl (lv_at hl 3 rfl) ?_
          refine lv_iload hx hb dX4_wheel_46 (lv_at hl 6 rfl) ?_
          refine lv_iload hx hb dX4_wheel_48 (lv_at hl 5 rfl) ?_
          refine kn_iadd hx hb dX4_wheel_50 ?_
          refine lv_iload hx hb dX4_wheel_51 (lv_at hl 4 rfl) ?_
          refine kn_irem hx hb (by omega) (by omega) (by omega) dX4_wheel_53 ?_
          refine lv_aload_n hx hb dX4_wheel_54 rfl (lv_at hl 0 rfl) ?_
          refine kx_gspareRow hx hb hts hin4 hown hX (hts (.fieldLink RX4 36 "Orderlattice" "spareRow" "LOrderlattice$Row;") (tm 453 (by decide +kernel) rfl)) dX4_wheel_55 ?_
          refine lv_iload hx hb dX4_wheel_58 (lv_at hl 6 rfl) ?_
          refine kx_cr (v := nI ((S2.1 4).1 a)) (va_runV (As := [.int (nI a)]) (rest := [.int (nI ((a + sh) % ((S.1 i).2.2))), .ref (ad (3 * i))]) ⟨hx, hb, hml, hown, hts⟩ (m_X2_valueOn l dC dI ad (xR S2 i (r.1, r.2.1, r.2.2)) 4 a (by omega) (by omega)) (cwV 1 hts gX4_wheel_X2_valueOn rfl rfl rfl hdX2_valueOn_1 ⟨Nat.le_of_ble_eq_true rfl, Nat.le_of_ble_eq_true rfl⟩) (hX.preRow (by omega)) rfl rfl hl.1 rfl (lv_room (Nat.le_of_ble_eq_true rfl)) dX4_wheel_60 ⟨Nat.le_of_ble_eq_true rfl, Nat.le_of_ble_eq_true rfl⟩) (fun _ h => by rw [h, xR_ne _ _ (show (4 : Nat) ≠ i by omega)]) ?_
          refine lv_aload_n hx hb dX4_wheel_63 rfl (lv_at hl 0 rfl) ?_
          refine kx_gspareRow hx hb hts hin4 hown hX (hts (.fieldLink RX4 36 "Orderlattice" "spareRow" "LOrderlattice$Row;") (tm 453 (by decide +kernel) rfl)) dX4_wheel_64 ?_
          refine lv_iload hx hb dX4_wheel_67 (lv_at hl 6 rfl) ?_
          refine kx_cr (v := nI ((S2.1 4).2.1 a)) (va_runV (As := [.int (nI a)]) (rest := [.int (nI ((S2.1 4).1 a)), .int (nI ((a + sh) % ((S.1 i).2.2))), .ref (ad (3 * i))]) ⟨hx, hb, hml, hown, hts⟩ (m_X2_markOn l dC dI ad (xR S2 i (r.1, r.2.1, r.2.2)) 4 a (by omega) (by omega)) (cwV 1 hts gX4_wheel_X2_markOn rfl rfl rfl hdX2_markOn_1 ⟨Nat.le_of_ble_eq_true rfl, Nat.le_of_ble_eq_true rfl⟩) (hX.preRow (by omega)) rfl rfl hl.1 rfl (lv_room (Nat.le_of_ble_eq_true rfl)) dX4_wheel_69 ⟨Nat.le_of_ble_eq_true rfl, Nat.le_of_ble_eq_true rfl⟩) (fun _ h => by rw [h, xR_ne _ _ (show (4 : Nat) ≠ i by omega)]) ?_
          refine kx_cv (va_runV (As := [.int (nI ((a + sh) % ((S.1 i).2.2))), .int (nI ((S2.1 4).1 a)), .int (nI ((S2.1 4).2.1 a))]) (rest := []) ⟨hx, hb, hml, hown, hts⟩ (m_X2_replace l dC dI ad (xR S2 i (r.1, r.2.1, r.2.2)) i ((a + sh) % ((S.1 i).2.2)) ((S2.1 4).1 a) ((S2.1 4).2.1 a) (by omega) (Nat.lt_of_lt_of_le (Nat.mod_lt _ (by omega)) (by omega))) (cwV 3 hts gX4_wheel_X2_replace rfl rfl rfl hdX2_replace_3 ⟨Nat.le_of_ble_eq_true rfl, Nat.le_of_ble_eq_true rfl⟩) (hX.preRow (by omega)) rfl rfl hl.1 rfl (lv_room (Nat.le_of_ble_eq_true rfl)) dX4_wheel_72 ⟨Nat.le_of_ble_eq_true rfl, Nat.le_of_ble_eq_true rfl⟩) hX (fun _ h => h) (fun S_ H locs hw hX => ?_)
          rw [xR_row, xR_xR] at hw
          subst hw
          refine lv_iinc (v := nI (a + 1)) (lv' := [(6, .int (nI (a + 1))), (0, .ref (ad 57)), (1, .int (nI i)), (2, .int y), (3, .ref (ad (3 * i))), (4, .int (nI ((S.1 i).2.2))), (5, .int (nI sh))]) hx hb dX4_wheel_75 hl (k := 6) rfl (nI_1 a) (by decide) rfl (fun ls hl => ?_)
          refine lv_goto (tgt := 38) hx hb dX4_wheel_78 (by decide) ?_
          exact ih38  (va_up r.1 ((a + sh) % ((S.1 i).2.2)) ((S2.1 4).1 a), va_up r.2.1 ((a + sh) % ((S.1 i).2.2)) ((S2.1 4).2.1 a), r.2.2) (a + 1) ⟨rowOK_put hr9.1 (hr4.2 a (by omega)), hr9.2⟩ (by omega) ⟨whl_s (g := r.1) hp9.1 (by omega) hsl (hv4 a (by omega)).1, whl_s (g := r.1) hp9.2 (by omega) hsl (hv4 a (by omega)).2⟩ _ _ (by omega) hX _ (lv_sub hl [1, 2, 3, 4, 5, 6, 0] rfl)
    exact loop38 ((S.1 i).2.2 + 1) (S2.1 i) 0 ⟨hI2.1 i (by omega), by rw [hi4]⟩ (by omega) ⟨fun x h => absurd h (Nat.not_lt_zero x), fun x h => absurd h (Nat.not_lt_zero x)⟩ _ _ (by omega) (WX.eqS (xR_self _ _).symm hX) _ (lv_sub hl [4, 5, 6, 3, 2, 1, 0] rfl)
  · skip
    have h0 := k_1
    refine lv_iconst (v := (-1)) hx hb dX4_wheel_17 (by decide) ?_
    exact W.iret (v := (-1)) hx hb hr (fun t9 ht9 hW9 => ⟨⟨_, S, rfl, (Or.inl ⟨h0, rfl, rfl⟩), hX.P ht9 hW9⟩, hX.2.2.2.F ht9⟩) hX.2.2.2.2.2 dX4_wheel_18
end
section
/-! rows as lists; what the auditor looks at always holds -/
def rl (r : RowS) : List (Nat × Nat) := sg r.1 r.2.1 0 r.2.2
def Pw (c : Nat → Nat) (l : List (Nat × Nat)) : Prop := List.Pairwise (fun a b : Nat × Nat => c a.1 ≤ c b.1) l
/-- l2 is l in sequence by c, alike ones as they stood -/
def Srt (c : Nat → Nat) (l l2 : List (Nat × Nat)) : Prop := (∀ t, kf c t l2 = kf c t l) ∧ Pw c l2
def L16 (l : List (Nat × Nat)) : Prop := ∀ q, q ∈ l → q.1 < 16
theorem sg_len (V K : Nat → Nat) (f n : Nat) : (sg V K f n).length = n := by
  unfold sg
  rw [List.length_map, List.length_range]
theorem rl_len (r : RowS) : (rl r).length = r.2.2 := sg_len _ _ _ _
theorem rl_get {r : RowS} {x : Nat} (h : x < r.2.2) : (rl r)[x]? = some (r.1 x, r.2.1 x) := by
  have e := sg_get (V := r.1) (K := r.2.1) (f := 0) h
  rw [Nat.zero_add] at e
  exact e
theorem rl_mem {r : RowS} {q : Nat × Nat} (h : q ∈ rl r) : ∃ x, x < r.2.2 ∧ q = (r.1 x, r.2.1 x) := by
  obtain ⟨x, _, h2, h3⟩ := sg_mem h
  exact ⟨x, by omega, h3⟩
theorem rl_in {r : RowS} {x : Nat} (h : x < r.2.2) : (r.1 x, r.2.1 x) ∈ rl r := List.mem_of_getElem? (rl_get h)
theorem rl_16 {r : RowS} (h : rowOK r) : L16 (rl r) := fun q hq => by
  obtain ⟨x, hx, rfl⟩ := rl_mem hq
  have hn := h.1
  exact (h.2 x (by omega)).1
theorem rl_eq {r s : RowS} (h : rl r = rl s) : r.2.2 = s.2.2 ∧ ∀ x, x < r.2.2 → r.2.1 x = s.2.1 x ∧ r.1 x = s.1 x := by
  have hn : r.2.2 = s.2.2 := by rw [← rl_len r, h, rl_len]
  refine ⟨hn, fun x hx => ?_⟩
  have e := rl_get hx
  rw [h, rl_get (by omega)] at e
  have e2 := Option.some.inj e
  exact ⟨(congrArg Prod.snd e2).symm, (congrArg Prod.fst e2).symm⟩
theorem rl_ovl {f g V K : Nat → Nat} {n : Nat} : rl (ovl f V n, ovl g K n, n) = sg f g 0 n := sg_cong (fun x _ hx => by
  have hx : x < 0 + n := hx
  exact ⟨ovl_in (by omega), ovl_in (by omega)⟩)
theorem rl_rev {V K : Nat → Nat} {n : Nat} : rl (rev V n n, rev K n n, n) = (sg V K 0 n).reverse := by
  apply List.ext_getElem?
  intro x
  by_cases hx : x < n
  · rw [rl_get hx, List.getElem?_reverse (by rw [sg_len]; exact hx), sg_len, sg_get (show n - 1 - x < n by omega), Nat.zero_add]
    have e : ∀ f : Nat → Nat, rev f n n x = f (n - 1 - x) := fun f => if_pos ⟨hx, Or.inl hx⟩
    show some (rev V n n x, rev K n n x) = _
    rw [e, e]
  · rw [List.getElem?_eq_none (by rw [rl_len]; exact Nat.le_of_not_lt hx), List.getElem?_eq_none (by rw [List.length_reverse, sg_len]; exact Nat.le_of_not_lt hx)]
theorem rl_rem {V K : Nat → Nat} {n q : Nat} (hq : q < n) : rl (shl V q (n - 1), shl K q (n - 1), n - 1) = (sg V K 0 n).eraseIdx q := by
  apply List.ext_getElem?
  intro x
  rw [List.getElem?_eraseIdx]
  by_cases hx : x < n - 1
  · rw [rl_get hx]
    show some (shl V q (n - 1) x, shl K q (n - 1) x) = _
    by_cases e : x < q
    · have g : ∀ f : Nat → Nat, shl f q (n - 1) x = f x := fun f => if_neg (by omega)
      rw [if_pos e, sg_get (show x < n by omega), Nat.zero_add, g, g]
    · have g : ∀ f : Nat → Nat, shl f q (n - 1) x = f (x + 1) := fun f => if_pos (by omega)
      rw [if_neg e, sg_get (show x + 1 < n by omega), Nat.zero_add, g, g]
  · have e0 : (rl (shl V q (n - 1), shl K q (n - 1), n - 1))[x]? = none := List.getElem?_eq_none (by rw [rl_len]; exact Nat.le_of_not_lt hx)
    rw [e0, if_neg (show ¬ x < q by omega), List.getElem?_eq_none (by rw [sg_len]; omega)]
/-! keys in lists -/
theorem kf_rev (c : Nat → Nat) (t : Nat) (l : List (Nat × Nat)) : kf c t l.reverse = (kf c t l).reverse := by
  unfold kf
  rw [List.filter_reverse]
theorem Srt.eq {c : Nat → Nat} {l l2 l3 : List (Nat × Nat)} (h : Srt c l l2) (h2 : Srt c l l3) : l2 = l3 := uniqL l2 l3 (fun t => (h.1 t).trans (h2.1 t).symm) h.2 h2.2
theorem Srt.mem {c : Nat → Nat} {l l2 : List (Nat × Nat)} (h : Srt c l l2) {q : Nat × Nat} : q ∈ l2 ↔ q ∈ l := by
  constructor
  · intro hq
    have := (kf_mem (c := c) (t := c q.1)).mpr ⟨hq, rfl⟩
    rw [h.1] at this
    exact (kf_mem.mp this).1
  · intro hq
    have := (kf_mem (c := c) (t := c q.1)).mpr ⟨hq, rfl⟩
    rw [← h.1] at this
    exact (kf_mem.mp this).1
theorem Srt.l16 {c : Nat → Nat} {l l2 : List (Nat × Nat)} (h : Srt c l l2) (h2 : L16 l) : L16 l2 := fun q hq => h2 q (h.mem.mp hq)
theorem Srt.again {c : Nat → Nat} {l l2 : List (Nat × Nat)} (h : Srt c l l2) : Srt c l2 l2 := ⟨fun _ => rfl, h.2⟩
theorem Pw.cong {c d : Nat → Nat} {l : List (Nat × Nat)} (h : Pw c l) (hl : L16 l) (e : ∀ v, v < 16 → c v = d v) : Pw d l := List.Pairwise.imp_of_mem (fun {a b} ha hb h9 => by rw [← e a.1 (hl a ha), ← e b.1 (hl b hb)]; exact h9) h
theorem Srt.cong {c d : Nat → Nat} {l l2 : List (Nat × Nat)} (h : Srt c l l2) (hl : L16 l) (e : ∀ v, v < 16 → c v = d v) : Srt d l l2 :=
  ⟨fun t => by
    rw [← kf_cong (c := c) (d := d) (t := t) (l := l2) (fun z hz => e _ (h.l16 hl z hz)), ← kf_cong (c := c) (d := d) (t := t) (l := l) (fun z hz => e _ (hl z hz))]
    exact h.1 t, h.2.cong (h.l16 hl) e⟩
/-- from what the sorter brings about -/
theorem Srt.of {c : Nat → Nat} {r s : RowS} (hn : s.2.2 = r.2.2) (h : SP c (r.1, r.2.1) (s.1, s.2.1) 0 r.2.2) (h2 : srt c s.1 0 r.2.2) : Srt c (rl r) (rl s) := by
  refine ⟨fun t => ?_, ?_⟩
  · have := h.2 t
    rw [Nat.sub_zero] at this
    unfold rl
    rw [hn]
    exact this
  · unfold rl Pw
    rw [hn]
    exact srt_pw (by rw [Nat.zero_add]; exact h2)
/-! turned orders -/
theorem dig_not {k v : Nat} {d : Bool} (hv : v < 16) : digK k (!d) v + digK k d v = 15 := by
  have h := numK_lt (k := k) hv
  unfold digK
  cases d with
  | true => rw [if_neg (by decide), if_pos rfl]; omega
  | false => rw [if_pos (by decide), if_neg (by decide)]; omega
theorem code_not {K : Nat → Nat} {D : Nat → Bool} {v : Nat} (hv : v < 16) : ∀ n, codeOf K (fun k => !D k) n v + codeOf K D n v + 1 = 16 ^ n
  | 0 => rfl
  | n + 1 => by
    have ih := code_not (K := K) (D := D) hv n
    have h := dig_not (k := K n) (d := D n) hv
    rw [Nat.pow_succ, ← ih]
    show (codeOf K (fun k => !D k) n v * 16 + digK (K n) (!D n) v) + (codeOf K D n v * 16 + digK (K n) (D n) v) + 1 = _
    omega
/-- a row turned, sorted, turned: sorted by the turned order -/
theorem turned_srt {c d : Nat → Nat} {w : Nat} {l l2 : List (Nat × Nat)} (h : Srt c l.reverse l2) (hl : L16 l) (e : ∀ v, v < 16 → d v + c v + 1 = w) : Srt d l l2.reverse := by
  have h16 : L16 l2 := h.l16 (fun q hq => hl q (List.mem_reverse.mp hq))
  refine ⟨fun t => ?_, ?_⟩
  · by_cases ht : t + 1 ≤ w
    · have key : ∀ l9 : List (Nat × Nat), L16 l9 → kf d t l9 = kf c (w - 1 - t) l9 := fun l9 => by
        induction l9 with
        | nil => intro _; rfl
        | cons z l9 ih =>
          intro hz
          have i1 := ih (fun y hy => hz y (List.mem_cons_of_mem _ hy))
          have z16 := e z.1 (hz z List.mem_cons_self)
          by_cases e1 : d z.1 = t
          · rw [kf_t e1, kf_t (show c z.1 = w - 1 - t by omega), i1]
          · rw [kf_f e1, kf_f (show c z.1 ≠ w - 1 - t by omega), i1]
      rw [key _ (fun q hq => h16 q (List.mem_reverse.mp hq)), key _ hl, kf_rev, h.1, kf_rev, List.reverse_reverse]
    · have no : ∀ l9 : List (Nat × Nat), L16 l9 → kf d t l9 = [] := fun l9 h9 => kf_none (fun q hq => by have := e q.1 (h9 q hq); omega)
      rw [no _ (fun q hq => h16 q (List.mem_reverse.mp hq)), no _ hl]
  · unfold Pw
    rw [List.pairwise_reverse]
    exact List.Pairwise.imp_of_mem (fun {a b} ha hb h9 => by have h1 := e a.1 (h16 a ha); have h2 := e b.1 (h16 b hb); omega) h.2
/-! products -/
theorem code_app2 {K K2 : Nat → Nat} {D D2 : Nat → Bool} {n v : Nat} : ∀ m, codeOf (fun k => if k < n then K k else K2 (k - n)) (fun k => if k < n then D k else D2 (k - n)) (n + m) v = codeOf K D n v * 16 ^ m + codeOf K2 D2 m v
  | 0 => by
    show codeOf _ _ n v = codeOf K D n v * 1 + 0
    rw [Nat.mul_one, Nat.add_zero]
    exact codeOf_cong (fun k hk => ⟨if_pos hk, if_pos hk⟩)
  | m + 1 => by
    have ih := code_app2 (K := K) (K2 := K2) (D := D) (D2 := D2) (n := n) (v := v) m
    show codeOf _ _ (n + m) v * 16 + digK (if n + m < n then K (n + m) else K2 (n + m - n)) (if n + m < n then D (n + m) else D2 (n + m - n)) v = codeOf K D n v * 16 ^ (m + 1) + (codeOf K2 D2 m v * 16 + digK (K2 m) (D2 m) v)
    rw [ih, if_neg (by omega), if_neg (by omega), Nat.add_sub_cancel_left, Nat.pow_succ, Nat.add_mul, Nat.mul_assoc, Nat.add_assoc]
theorem pw_kf {d c : Nat → Nat} : ∀ {l : List (Nat × Nat)}, (∀ t, Pw c (kf d t l)) → List.Pairwise (fun a b : Nat × Nat => d a.1 = d b.1 → c a.1 ≤ c b.1) l
  | [], _ => List.Pairwise.nil
  | a :: l, h => by
    refine List.pairwise_cons.mpr ⟨fun b hb e => ?_, pw_kf (fun t => ?_)⟩
    · have h1 := h (d a.1)
      rw [kf_t rfl] at h1
      exact (List.pairwise_cons.mp h1).1 b (kf_mem.mpr ⟨hb, e.symm⟩)
    · have h1 := h t
      by_cases e : d a.1 = t
      · rw [kf_t e] at h1
        exact (List.pairwise_cons.mp h1).2
      · rw [kf_f e] at h1
        exact h1
theorem kf_kf (c d : Nat → Nat) (t u : Nat) (l : List (Nat × Nat)) : kf c t (kf d u l) = kf d u (kf c t l) := by
  unfold kf
  rw [List.filter_filter, List.filter_filter]
  refine List.filter_congr (fun x _ => ?_)
  rw [Bool.and_comm]
theorem Pw.kf {c d : Nat → Nat} {l : List (Nat × Nat)} (h : Pw c l) (t : Nat) : Pw c (kf d t l) := List.Pairwise.filter _ h
/-- sorted by c, then by d: sorted by d and c -/
theorem prod_srt {c d p : Nat → Nat} {w : Nat} {l l1 l2 : List (Nat × Nat)} (h1 : Srt c l l1) (h2 : Srt d l1 l2) (hl : L16 l) (hc : ∀ v, v < 16 → c v < w) (e : ∀ v, v < 16 → p v = d v * w + c v) : Srt p l l2 := by
  have hl1 := h1.l16 hl
  have hl2 := h2.l16 hl1
  have hw : 0 < w := Nat.lt_of_le_of_lt (Nat.zero_le _) (hc 0 (by decide))
  have key : ∀ (t : Nat) (l9 : List (Nat × Nat)), L16 l9 → kf p t l9 = kf c (t % w) (kf d (t / w) l9) := fun t l9 => by
    induction l9 with
    | nil => intro _; rfl
    | cons z l9 ih =>
      intro hz
      have i1 := ih (fun y hy => hz y (List.mem_cons_of_mem _ hy))
      have z1 := e z.1 (hz z List.mem_cons_self)
      have z2 := hc z.1 (hz z List.mem_cons_self)
      have hd : p z.1 / w = d z.1 := by rw [z1, Nat.mul_comm, Nat.mul_add_div hw, Nat.div_eq_of_lt z2, Nat.add_zero]
      have hm : p z.1 % w = c z.1 := by rw [z1, Nat.mul_comm, Nat.mul_add_mod, Nat.mod_eq_of_lt z2]
      by_cases e1 : p z.1 = t
      · rw [kf_t e1, kf_t (show d z.1 = t / w by rw [← e1, hd]), kf_t (show c z.1 = t % w by rw [← e1, hm]), i1]
      · rw [kf_f e1]
        by_cases e2 : d z.1 = t / w
        · have e3 : c z.1 ≠ t % w := fun q => e1 (by rw [z1, e2, q, Nat.mul_comm]; exact Nat.div_add_mod t w)
          rw [kf_t e2, kf_f e3, i1]
        · rw [kf_f e2, i1]
  refine ⟨fun t => ?_, ?_⟩
  · rw [key t l2 hl2, key t l hl, h2.1, kf_kf, h1.1, kf_kf]
  · have a := pw_kf (d := d) (c := c) (l := l2) (fun t => by rw [h2.1]; exact h1.2.kf t)
    have b := h2.2
    unfold Pw at b ⊢
    refine List.Pairwise.imp_of_mem (fun {x y} hx hy h9 => ?_) (List.Pairwise.and a b)
    rw [e x.1 (hl2 x hx), e y.1 (hl2 y hy)]
    have c1 := hc x.1 (hl2 x hx)
    rcases Nat.lt_or_eq_of_le h9.2 with h8 | h8
    · have h7 : (d x.1 + 1) * w ≤ d y.1 * w := Nat.mul_le_mul_right w h8
      rw [Nat.add_mul, Nat.one_mul] at h7
      omega
    · rw [h8]
      exact Nat.add_le_add_left (h9.1 h8) _
/-! ranks and classes -/
theorem cnt_one {p p2 : Nat → Bool} {a : Nat} (h1 : p a = false) (h2 : p2 a = true) (h : ∀ k, k ≠ a → p2 k = p k) : ∀ m, a < m → cntB p2 m = cntB p m + 1
  | 0, h3 => absurd h3 (Nat.not_lt_zero _)
  | m + 1, h3 => by
    by_cases e : a = m
    · subst e
      rw [cntB_t h2, cntB_f h1, cntB_cong (fun k hk => h k (by omega))]
    · have ih := cnt_one h1 h2 h m (by omega)
      rw [cntB, cntB, ih, h m (fun z => e z.symm)]
      omega
theorem img_cnt {R : Nat → Nat} {m : Nat} : ∀ n, (∀ v, v < n → R v < m) → cntB (fun k => decide (∃ v, v < n ∧ R v = k)) m = cntB (headB R) n
  | 0, _ => cntB_none (fun k _ => decide_eq_false (fun z => by obtain ⟨v, h, _⟩ := z; exact absurd h (Nat.not_lt_zero _)))
  | n + 1, h => by
    have ih := img_cnt (R := R) (m := m) n (fun v hv => h v (by omega))
    by_cases e : headB R n = true
    · have e2 : ∀ k, k < n → R k ≠ R n := of_decide_eq_true e
      rw [cntB_t e, ← ih]
      refine cnt_one (a := R n) (decide_eq_false (fun z => ?_)) (decide_eq_true ⟨n, Nat.lt_succ_self n, rfl⟩) (fun k hk => decide_eq_decide.mpr ⟨fun z => ?_, fun z => ?_⟩) m (h n (Nat.lt_succ_self n))
      · obtain ⟨v, h1, h2⟩ := z
        exact e2 v h1 h2
      · obtain ⟨v, h1, h2⟩ := z
        by_cases e3 : v = n
        · subst e3; exact absurd h2.symm hk
        · exact ⟨v, by omega, h2⟩
      · obtain ⟨v, h1, h2⟩ := z
        exact ⟨v, by omega, h2⟩
    · have e1 : headB R n = false := Bool.eq_false_iff.mpr e
      have e2 : ∃ k, k < n ∧ R k = R n := Classical.byContradiction (fun z => e (decide_eq_true (fun k hk w => z ⟨k, hk, w⟩)))
      rw [cntB_f e1, ← ih]
      refine cntB_cong (fun k _ => decide_eq_decide.mpr ⟨fun z => ?_, fun z => ?_⟩)
      · obtain ⟨v, h1, h2⟩ := z
        by_cases e3 : v = n
        · obtain ⟨u, h3, h4⟩ := e2
          exact ⟨u, h3, by rw [h4, ← e3]; exact h2⟩
        · exact ⟨v, by omega, h2⟩
      · obtain ⟨v, h1, h2⟩ := z
        exact ⟨v, by omega, h2⟩
theorem rank_all {o : OrdS} (h : ordOK o) : cntB (rankSome o.2.2.2.1) 16 = o.2.2.2.2.2 := by
  rw [h.2.2.2]
  have h1 : cntB (rankSome o.2.2.2.1) 16 = cntB (headB o.2.2.2.1) 16 := img_cnt 16 (fun v hv => by
    rw [h.2.2.1 v hv]
    exact Nat.lt_of_lt_of_le (rank_class _ hv) (classC_le _))
  rw [h1]
  refine cntB_cong (fun k hk => decide_eq_decide.mpr ⟨fun z q hq w => ?_, fun z q hq w => ?_⟩)
  · refine z q hq ?_
    rw [h.2.2.1 q (by omega), h.2.2.1 k hk]
    unfold rankC
    rw [w]
  · have a1 := rank_iff (c := codeOf o.1 o.2.1 o.2.2.2.2.1) (v := q) (u := k) (by omega) hk
    have a2 := rank_iff (c := codeOf o.1 o.2.1 o.2.2.2.2.1) (v := k) (u := q) hk (by omega)
    rw [h.2.2.1 q (by omega), h.2.2.1 k hk] at w
    have b1 : ¬ codeOf o.1 o.2.1 o.2.2.2.2.1 q < codeOf o.1 o.2.1 o.2.2.2.2.1 k := fun y => by have := a1.mp y; omega
    have b2 : ¬ codeOf o.1 o.2.1 o.2.2.2.2.1 k < codeOf o.1 o.2.1 o.2.2.2.2.1 q := fun y => by have := a2.mp y; omega
    exact z q hq (by omega)
theorem rank_eq {o : OrdS} (h : ordOK o) {v u : Nat} (hv : v < 16) (hu : u < 16) (e : o.2.2.1 v = o.2.2.1 u) : o.2.2.2.1 v = o.2.2.2.1 u := by
  have a1 := ord_iff h hv hu
  have a2 := ord_iff h hu hv
  have b1 : ¬ o.2.2.2.1 v < o.2.2.2.1 u := fun y => by have := a1.mpr y; omega
  have b2 : ¬ o.2.2.2.1 u < o.2.2.2.1 v := fun y => by have := a2.mpr y; omega
  omega
/-! refining -/
theorem finer_alike {c d : Nat → Nat} (h : finerB c d = true) {a b : Nat} (ha : a < 16) (hb : b < 16) (e : c a = c b) : d a = d b := by
  have h1 : ∀ a, a < 16 → ∀ b, b < 16 → d a < d b → c a < c b := of_decide_eq_true h
  have b1 : ¬ d a < d b := fun y => by have := h1 a ha b hb y; omega
  have b2 : ¬ d b < d a := fun y => by have := h1 b hb a ha y; omega
  omega
theorem finer_cls {o o2 : OrdS} (h : ordOK o) (h2 : ordOK o2) (f : finerB o.2.2.1 o2.2.2.1 = true) : o2.2.2.2.2.2 ≤ o.2.2.2.2.2 := by
  rw [h.2.2.2, h2.2.2.2]
  refine cntB_mono (fun k hk hh => decide_eq_true (fun q hq w => ?_))
  have hh : ∀ q, q < k → codeOf o2.1 o2.2.1 o2.2.2.2.2.1 q ≠ codeOf o2.1 o2.2.1 o2.2.2.2.2.1 k := of_decide_eq_true hh
  refine hh q hq ?_
  rw [← h2.2.1 q (by omega), ← h2.2.1 k hk]
  exact finer_alike f (by omega) hk (by rw [h.2.1 q (by omega), h.2.1 k hk]; exact w)
def l00 : List (Nat × Nat) := sg (fun k => k) (fun k => k) 0 16
theorem l00_in {v : Nat} (h : v < 16) : (v, v) ∈ l00 := by
  have := List.mem_of_getElem? (sg_get (V := fun k => k) (K := fun k => k) (f := 0) h)
  rw [Nat.zero_add] at this
  exact this
theorem l00_16 : L16 l00 := fun q hq => by
  obtain ⟨x, _, h2, rfl⟩ := sg_mem hq
  show x < 16
  omega
/-- the values sorted by c: in sequence by d too, and alike ones alike, just if d is refined by c -/
theorem finer_sort {c d : Nat → Nat} {r : RowS} (hn : r.2.2 = 16) (h : Srt c l00 (rl r)) : finerB c d = (seqB d r.1 r.2.2 && alikeB c d) := by
  have h16 := h.l16 l00_16
  have hv : ∀ x, x < 16 → r.1 x < 16 := fun x hx => h16 _ (rl_in (by omega))
  have hs : ∀ x y, x < y → y < 16 → c (r.1 x) ≤ c (r.1 y) := fun x y h1 h2 => by
    have hp := h.2
    unfold Pw rl at hp
    rw [hn] at hp
    exact srt_of (K := r.2.1) hp x y (Nat.zero_le _) h1 (by omega)
  by_cases f : finerB c d = true
  · have f1 : ∀ a, a < 16 → ∀ b, b < 16 → d a < d b → c a < c b := of_decide_eq_true f
    have s1 : seqB d r.1 r.2.2 = true := decide_eq_true (fun q hq => Nat.le_of_not_lt (fun w => by
      rw [hn] at hq
      have := f1 _ (hv (q + 1) (by omega)) _ (hv q (by omega)) w
      have := hs q (q + 1) (Nat.lt_succ_self _) (by omega)
      omega))
    have s2 : alikeB c d = true := decide_eq_true (fun a ha b hb _ e => finer_alike f ha hb e)
    rw [f, s1, s2]
    rfl
  · have f0 : finerB c d = false := Bool.eq_false_iff.mpr f
    rw [f0]
    by_cases s2 : alikeB c d = true
    · have s2' : ∀ a, a < 16 → ∀ b, b < 16 → a < b → c a = c b → d a = d b := of_decide_eq_true s2
      by_cases s1 : seqB d r.1 r.2.2 = true
      · exfalso
        have s1' : ∀ q, q < r.2.2 - 1 → d (r.1 q) ≤ d (r.1 (q + 1)) := of_decide_eq_true s1
        rw [hn] at s1'
        have mono : ∀ k x, x + k < 16 → d (r.1 x) ≤ d (r.1 (x + k)) := fun k => by
          induction k with
          | zero => intro x _; exact Nat.le_refl _
          | succ k ih =>
            intro x hx
            exact Nat.le_trans (ih x (by omega)) (s1' (x + k) (by omega))
        refine f (decide_eq_true (fun a ha b hb hd => ?_))
        rcases Nat.lt_trichotomy (c a) (c b) with e | e | e
        · exact e
        · exfalso
          rcases Nat.lt_trichotomy a b with w | w | w
          · have := s2' a ha b hb w e; omega
          · subst w; omega
          · have := s2' b hb a ha w e.symm; omega
        · exfalso
          obtain ⟨x, hx, ex⟩ := rl_mem (h.mem.mpr (l00_in ha))
          obtain ⟨y, hy, ey⟩ := rl_mem (h.mem.mpr (l00_in hb))
          have ea : a = r.1 x := congrArg Prod.fst ex
          have eb : b = r.1 y := congrArg Prod.fst ey
          have hxy : y < x := by
            rcases Nat.lt_trichotomy x y with w | w | w
            · have := hs x y w (by omega)
              rw [← ea, ← eb] at this
              omega
            · subst w; rw [ea, eb] at e; omega
            · exact w
          have := mono (x - y) y (by omega)
          rw [show y + (x - y) = x by omega, ← ea, ← eb] at this
          omega
      · rw [Bool.eq_false_iff.mpr s1]
        rfl
    · rw [Bool.eq_false_iff.mpr s2, Bool.and_false]
/-- a product refines its first -/
theorem finer_prod {p c d : Nat → Nat} {w : Nat} (e : ∀ v, v < 16 → p v = c v * w + d v) (hd : ∀ v, v < 16 → d v < w) : finerB p c = true := decide_eq_true (fun a ha b hb h => by
  rw [e a ha, e b hb]
  have c1 := hd a ha
  have h7 : (c a + 1) * w ≤ c b * w := Nat.mul_le_mul_right w h
  rw [Nat.add_mul, Nat.one_mul] at h7
  omega)
/-! the first of the least, again and again -/
theorem best_min {c : Nat → Nat} : ∀ {n b : Nat}, bestB (fun _ => true) (fun x y => decide (c x < c y)) n = some b → (∀ x, x < n → c b ≤ c x) ∧ ∀ x, x < b → c b < c x
  | 0, b, h => by cases h
  | n + 1, b, h => by
    cases hb : bestB (fun _ => true) (fun x y => decide (c x < c y)) n with
    | none =>
      have h0 : n = 0 := by
        rcases Nat.eq_zero_or_pos n with w | w
        · exact w
        · obtain ⟨b9, h9⟩ := bestB_some (lt := fun x y => decide (c x < c y)) w
          rw [hb] at h9
          cases h9
      rw [bestB_first rfl hb] at h
      cases h
      exact ⟨fun x hx => by rw [show x = n by omega]; exact Nat.le_refl _, fun x hx => by omega⟩
    | some b1 =>
      obtain ⟨i1, i2⟩ := best_min hb
      have hb1 := (bestB_lt hb).1
      by_cases e : decide (c n < c b1) = true
      · rw [bestB_new rfl hb e] at h
        cases h
        have e := of_decide_eq_true e
        refine ⟨fun x hx => ?_, fun x hx => Nat.lt_of_lt_of_le e (i1 x hx)⟩
        by_cases w : x = n
        · rw [w]; exact Nat.le_refl _
        · exact Nat.le_of_lt (Nat.lt_of_lt_of_le e (i1 x (by omega)))
      · have e2 := Bool.eq_false_iff.mpr e
        rw [bestB_old rfl hb e2] at h
        cases h
        have e3 : ¬ c n < c b := fun w => e (decide_eq_true w)
        refine ⟨fun x hx => ?_, i2⟩
        by_cases w : x = n
        · rw [w]; omega
        · exact i1 x (by omega)
theorem take_drop_at {l : List (Nat × Nat)} {q : Nat} {a : Nat × Nat} (h : l[q]? = some a) : l = l.take q ++ a :: l.drop (q + 1) := by
  obtain ⟨h1, h2⟩ := List.getElem?_eq_some_iff.mp h
  rw [← h2, List.getElem_cons_drop, List.take_append_drop]
theorem mem_take {l : List (Nat × Nat)} {q : Nat} {z : Nat × Nat} (h : z ∈ l.take q) : ∃ x, x < q ∧ l[x]? = some z := by
  obtain ⟨x, hx⟩ := List.mem_iff_getElem?.mp h
  rw [List.getElem?_take] at hx
  split at hx
  · exact ⟨x, by assumption, hx⟩
  · cases hx
/-- one round of the queue: the first of the least is like the next in sequence; without both the rest is the same -/
theorem queue_step {c : Nat → Nat} {r : RowS} {l : List (Nat × Nat)} {q b : Nat} {a : Nat × Nat} (hl : Pw c l) (hq : l[q]? = some a) (hk : ∀ t, kf c t (rl r) = kf c t (l.drop q)) (hb : bestB (fun _ => true) (fun x y => decide (c (r.1 x) < c (r.1 y))) r.2.2 = some b) : c (r.1 b) = c a.1 ∧ ∀ t, kf c t ((rl r).eraseIdx b) = kf c t (l.drop (q + 1)) := by
  have hbn := (bestB_lt hb).1
  obtain ⟨m1, m2⟩ := best_min (c := fun x => c (r.1 x)) hb
  have hd : l.drop q = a :: l.drop (q + 1) := by
    obtain ⟨h1, h2⟩ := List.getElem?_eq_some_iff.mp hq
    rw [← h2, List.getElem_cons_drop]
  have e : c (r.1 b) = c a.1 := by
    refine Nat.le_antisymm ?_ ?_
    · have h1 : a ∈ kf c (c a.1) (l.drop q) := kf_mem.mpr ⟨by rw [hd]; exact List.mem_cons_self, rfl⟩
      rw [← hk] at h1
      obtain ⟨x, hx, rfl⟩ := rl_mem (kf_mem.mp h1).1
      exact m1 x hx
    · have h1 : (r.1 b, r.2.1 b) ∈ kf c (c (r.1 b)) (rl r) := kf_mem.mpr ⟨rl_in hbn, rfl⟩
      rw [hk] at h1
      have h2 := (kf_mem.mp h1).1
      have h3 : Pw c (l.drop q) := List.Pairwise.drop hl
      rw [hd] at h2 h3
      rcases List.mem_cons.mp h2 with h4 | h4
      · rw [← h4]; exact Nat.le_refl _
      · exact (List.pairwise_cons.mp h3).1 _ h4
  refine ⟨e, fun t => ?_⟩
  have hs := take_drop_at (rl_get hbn)
  have he : (rl r).eraseIdx b = (rl r).take b ++ (rl r).drop (b + 1) := List.eraseIdx_eq_take_drop_succ ..
  have h1 := hk t
  rw [hs, kf_app, hd] at h1
  rw [he, kf_app]
  by_cases ht : c a.1 = t
  · have h0 : kf c t ((rl r).take b) = [] := kf_none (fun z hz w => by
      obtain ⟨x, hx, hx2⟩ := mem_take hz
      rw [rl_get (by omega)] at hx2
      have h9 := m2 x hx
      have h8 := Option.some.inj hx2
      have h7 : r.1 x = z.1 := congrArg Prod.fst h8
      have h9 : c (r.1 b) < c (r.1 x) := h9
      rw [h7] at h9
      omega)
    rw [h0, List.nil_append, kf_t (show c (r.1 b, r.2.1 b).1 = t by rw [← ht]; exact e), kf_t ht] at h1
    rw [h0, List.nil_append]
    exact (List.cons.inj h1).2
  · rw [kf_f (show c (r.1 b, r.2.1 b).1 ≠ t by intro w; exact ht (e.symm.trans w)), kf_f ht] at h1
    exact h1
/-! what a call of the auditor leaves, as lists -/
def FR (S S1 : XS) (i : Nat) (l : List (Nat × Nat)) : Prop := rl (S1.1 i) = l ∧ (∀ k, k ≠ i → S1.1 k = S.1 k) ∧ S1.2 = S.2
def FS (S S1 : XS) (i j : Nat) : Prop := Srt (S.2.1 j).2.2.1 (rl (S.1 i)) (rl (S1.1 i)) ∧ (∀ k, k ≠ i → k ≠ 5 → S1.1 k = S.1 k) ∧ S1.2 = S.2
/-- only the order made has changed: its codes are f -/
def FO (S S1 : XS) (P : (Nat → Nat) → Prop) : Prop := S1.1 = S.1 ∧ (∀ k, k ≠ 5 → S1.2.1 k = S.2.1 k) ∧ P (S1.2.1 5).2.2.1
theorem FR.row {S S1 : XS} {i : Nat} {r : RowS} (hw : S1 = xR S i r) : FR S S1 i (rl r) := by
  rw [hw]
  exact ⟨by rw [xR_row], fun k hk => xR_ne _ _ hk, rfl⟩
theorem FR.copy {S S1 : XS} {i t : Nat} (hw : S1 = xR S i (ovl (S.1 t).1 (S.1 i).1 (S.1 t).2.2, ovl (S.1 t).2.1 (S.1 i).2.1 (S.1 t).2.2, (S.1 t).2.2)) : FR S S1 i (rl (S.1 t)) := by
  have h := FR.row hw
  rw [rl_ovl] at h
  exact h
theorem FR.rev {S S1 : XS} {i : Nat} (hw : S1 = xR S i (rev (S.1 i).1 (S.1 i).2.2 (S.1 i).2.2, rev (S.1 i).2.1 (S.1 i).2.2 (S.1 i).2.2, (S.1 i).2.2)) : FR S S1 i (rl (S.1 i)).reverse := by
  have h := FR.row hw
  rw [rl_rev] at h
  exact h
theorem FR.all {S S1 : XS} {i : Nat} (hw : S1 = xR S i (ovl (fun k => k) (S.1 i).1 16, ovl (fun k => k) (S.1 i).2.1 16, 16)) : FR S S1 i l00 := by
  have h := FR.row hw
  rw [rl_ovl] at h
  exact h
theorem FR.rem {S S1 : XS} {i q : Nat} (hw : S1 = xR S i (shl (S.1 i).1 q ((S.1 i).2.2 - 1), shl (S.1 i).2.1 q ((S.1 i).2.2 - 1), (S.1 i).2.2 - 1)) (hq : q < (S.1 i).2.2) : FR S S1 i ((rl (S.1 i)).eraseIdx q) := by
  have h := FR.row hw
  rw [rl_rem hq] at h
  exact h
theorem FS.arr {S S1 : XS} {i j : Nat} (h : keepR S S1 i (3 + 2 * 1)) (h2 : SP (S.2.1 j).2.2.1 ((S.1 i).1, (S.1 i).2.1) ((S1.1 i).1, (S1.1 i).2.1) 0 (S.1 i).2.2) (h3 : srt (S.2.1 j).2.2.1 (S1.1 i).1 0 (S.1 i).2.2) : FS S S1 i j := ⟨Srt.of h.2.2.2.2 h2 h3, fun k a b => h.2.1 k a b, h.1⟩
theorem FS.ins {S S1 : XS} {i j : Nat} {r : RowS} (hw : S1 = xR S i r) (hn : r.2.2 = (S.1 i).2.2) (h2 : SP (S.2.1 j).2.2.1 ((S.1 i).1, (S.1 i).2.1) (r.1, r.2.1) 0 (S.1 i).2.2) (h3 : srt (S.2.1 j).2.2.1 r.1 0 (S.1 i).2.2) : FS S S1 i j := by
  rw [hw]
  exact ⟨by rw [xR_row]; exact Srt.of hn h2 h3, fun k a _ => xR_ne _ _ a, rfl⟩
theorem ord_code {o : OrdS} (h : ordOK o) {K : Nat → Nat} {D : Nat → Bool} {n : Nat} (hn : o.2.2.2.2.1 = n) (e : ∀ k, k < n → o.1 k = K k ∧ o.2.1 k = D k) : ∀ v, v < 16 → o.2.2.1 v = codeOf K D n v := fun v hv => by
  rw [h.2.1 v hv, hn]
  exact codeOf_cong e
theorem FO.mk {S S1 : XS} {o : OrdS} {P : (Nat → Nat) → Prop} (hw : S1 = xO S 5 o) (hP : S1.2.1 5 = o → P (S1.2.1 5).2.2.1) : FO S S1 P := ⟨by rw [hw]; rfl, fun k hk => by rw [hw]; exact xO_ne _ _ hk, hP (by rw [hw]; exact xO_ord _ _ _)⟩
theorem FO.copy {S S1 : XS} {t : Nat} (hw : S1 = xO S 5 (newO (apn (S.2.1 5).1 (S.2.1 t).1 0 (S.2.1 t).2.2.2.2.1) (apn (S.2.1 5).2.1 (S.2.1 t).2.1 0 (S.2.1 t).2.2.2.2.1) (S.2.1 t).2.2.2.2.1 (S.2.1 5).2.2.1 (S.2.1 5).2.2.2.1)) (h5 : ordOK (S1.2.1 5)) (ht : ordOK (S.2.1 t)) : FO S S1 (fun c => ∀ v, v < 16 → c v = (S.2.1 t).2.2.1 v) := by
  refine FO.mk hw (fun e5 v hv => ?_)
  rw [ht.2.1 v hv]
  have hn : (S1.2.1 5).2.2.2.2.1 = (S.2.1 t).2.2.2.2.1 := (congrArg (fun o : OrdS => o.2.2.2.2.1) e5).trans rfl
  have hK : (S1.2.1 5).1 = apn (S.2.1 5).1 (S.2.1 t).1 0 (S.2.1 t).2.2.2.2.1 := (congrArg (fun o : OrdS => o.1) e5).trans rfl
  have hD : (S1.2.1 5).2.1 = apn (S.2.1 5).2.1 (S.2.1 t).2.1 0 (S.2.1 t).2.2.2.2.1 := (congrArg (fun o : OrdS => o.2.1) e5).trans rfl
  refine ord_code h5 hn (fun k hk => ?_) v hv
  have g : ∀ {α : Type} (f h : Nat → α), apn f h 0 (S.2.1 t).2.2.2.2.1 k = h k := fun f h => if_pos ⟨Nat.zero_le _, by omega⟩
  rw [hK, hD, g, g]
  exact ⟨rfl, rfl⟩
theorem FO.rev {S S1 : XS} (hw : S1 = xO S 5 (newO (S.2.1 5).1 (ovl (fun k => !(S.2.1 5).2.1 k) (S.2.1 5).2.1 (S.2.1 5).2.2.2.2.1) (S.2.1 5).2.2.2.2.1 (S.2.1 5).2.2.1 (S.2.1 5).2.2.2.1)) (h5 : ordOK (S1.2.1 5)) (h : ordOK (S.2.1 5)) : FO S S1 (fun c => ∀ v, v < 16 → c v + (S.2.1 5).2.2.1 v + 1 = 16 ^ (S.2.1 5).2.2.2.2.1) := by
  refine FO.mk hw (fun e5 v hv => ?_)
  have hn : (S1.2.1 5).2.2.2.2.1 = (S.2.1 5).2.2.2.2.1 := (congrArg (fun o : OrdS => o.2.2.2.2.1) e5).trans rfl
  have hK : (S1.2.1 5).1 = (S.2.1 5).1 := (congrArg (fun o : OrdS => o.1) e5).trans rfl
  have hD : (S1.2.1 5).2.1 = ovl (fun k => !(S.2.1 5).2.1 k) (S.2.1 5).2.1 (S.2.1 5).2.2.2.2.1 := (congrArg (fun o : OrdS => o.2.1) e5).trans rfl
  have e := ord_code h5 (K := (S.2.1 5).1) (D := fun k => !(S.2.1 5).2.1 k) hn (fun k hk => by rw [hK, hD, ovl_in hk]; exact ⟨rfl, rfl⟩) v hv
  rw [e, h.2.1 v hv]
  exact code_not hv _
theorem FO.prod {S S1 : XS} {i t : Nat} (hw : S1 = xO S 5 (newO (apn (apn ((S.2.1 5).1) ((S.2.1 i).1) 0 ((S.2.1 i).2.2.2.2.1)) (S.2.1 t).1 (S.2.1 i).2.2.2.2.1 (S.2.1 t).2.2.2.2.1) (apn (apn ((S.2.1 5).2.1) ((S.2.1 i).2.1) 0 ((S.2.1 i).2.2.2.2.1)) (S.2.1 t).2.1 (S.2.1 i).2.2.2.2.1 (S.2.1 t).2.2.2.2.1) ((S.2.1 i).2.2.2.2.1 + (S.2.1 t).2.2.2.2.1) (S.2.1 5).2.2.1 (S.2.1 5).2.2.2.1)) (h5 : ordOK (S1.2.1 5)) (hi : ordOK (S.2.1 i)) (ht : ordOK (S.2.1 t)) : FO S S1 (fun c => ∀ v, v < 16 → c v = (S.2.1 i).2.2.1 v * 16 ^ (S.2.1 t).2.2.2.2.1 + (S.2.1 t).2.2.1 v) := by
  refine FO.mk hw (fun e5 v hv => ?_)
  have hn : (S1.2.1 5).2.2.2.2.1 = (S.2.1 i).2.2.2.2.1 + (S.2.1 t).2.2.2.2.1 := (congrArg (fun o : OrdS => o.2.2.2.2.1) e5).trans rfl
  have hK : (S1.2.1 5).1 = apn (apn ((S.2.1 5).1) ((S.2.1 i).1) 0 ((S.2.1 i).2.2.2.2.1)) (S.2.1 t).1 (S.2.1 i).2.2.2.2.1 (S.2.1 t).2.2.2.2.1 := (congrArg (fun o : OrdS => o.1) e5).trans rfl
  have hD : (S1.2.1 5).2.1 = apn (apn ((S.2.1 5).2.1) ((S.2.1 i).2.1) 0 ((S.2.1 i).2.2.2.2.1)) (S.2.1 t).2.1 (S.2.1 i).2.2.2.2.1 (S.2.1 t).2.2.2.2.1 := (congrArg (fun o : OrdS => o.2.1) e5).trans rfl
  rw [hi.2.1 v hv, ht.2.1 v hv, ← code_app2]
  refine ord_code h5 hn (fun k hk => ?_) v hv
  have g : ∀ {α : Type} (f a b : Nat → α), apn (apn f a 0 (S.2.1 i).2.2.2.2.1) b (S.2.1 i).2.2.2.2.1 (S.2.1 t).2.2.2.2.1 k = if k < (S.2.1 i).2.2.2.2.1 then a k else b (k - (S.2.1 i).2.2.2.2.1) := fun f a b => by
    by_cases e : k < (S.2.1 i).2.2.2.2.1
    · rw [if_pos e]
      have e1 : apn (apn f a 0 (S.2.1 i).2.2.2.2.1) b (S.2.1 i).2.2.2.2.1 (S.2.1 t).2.2.2.2.1 k = apn f a 0 (S.2.1 i).2.2.2.2.1 k := if_neg (by omega)
      have e2 : apn f a 0 (S.2.1 i).2.2.2.2.1 k = a k := if_pos ⟨Nat.zero_le _, by omega⟩
      rw [e1, e2]
    · rw [if_neg e]
      exact if_pos ⟨by omega, by omega⟩
  rw [hK, hD]
  exact ⟨g _ _ _, g _ _ _⟩
theorem code_lt {o : OrdS} (h : ordOK o) : ∀ v, v < 16 → o.2.2.1 v < 16 ^ o.2.2.2.2.1 := fun v hv => by
  rw [h.2.1 v hv]
  exact codeOf_lt _ _ hv _
theorem like_ok {r s : RowS} (h : rl r = rl s) : decide (r.2.2 = s.2.2 ∧ ∀ k, k < r.2.2 → r.2.1 k = s.2.1 k ∧ r.1 k = s.1 k) = true := decide_eq_true (rl_eq h)
theorem seq_ok {c : Nat → Nat} {r : RowS} (h : Pw c (rl r)) : seqB c r.1 r.2.2 = true := decide_eq_true (fun q hq => by
  have h9 := srt_of (V := r.1) (K := r.2.1) (f := 0) (m := r.2.2) h
  exact h9 q (q + 1) (Nat.zero_le _) (Nat.lt_succ_self q) (by omega))
section AUD
variable {S S1 S2 S3 S4 S5 S6 S7 S8 : XS} {i j t : Nat}
theorem stays_ok (F1 : FR S S1 6 (rl (S.1 i))) (F2 : FS S1 S2 6 j) (F3 : FR S2 S3 7 (rl (S2.1 6))) (F4 : FS S3 S4 7 j) : Pw (S4.2.1 j).2.2.1 (rl (S4.1 6)) ∧ rl (S4.1 6) = rl (S4.1 7) := by
  have e6 : S4.1 6 = S2.1 6 := (F4.2.1 6 (by decide) (by decide)).trans (F3.2.1 6 (by decide))
  have a := F4.1
  rw [F3.1, F3.2.2] at a
  rw [e6, F4.2.2, F3.2.2]
  have b := F2.1
  rw [← F2.2.2] at b
  exact ⟨b.2, (b.again.eq a)⟩
theorem prod_ok (hi : i < 5) (hI : rowOK (S.1 i)) (hj : ordOK (S.2.1 j)) (F1 : FR S S1 6 (rl (S.1 i))) (F2 : FS S1 S2 6 j) (F3 : FS S2 S3 6 t) (F4 : FO S3 S4 (fun c => ∀ v, v < 16 → c v = (S3.2.1 t).2.2.1 v * 16 ^ (S3.2.1 j).2.2.2.2.1 + (S3.2.1 j).2.2.1 v)) (F5 : FR S4 S5 7 (rl (S4.1 i))) (F6 : FS S5 S6 7 5) : rl (S6.1 6) = rl (S6.1 7) := by
  have e6 : S6.1 6 = S3.1 6 := ((F6.2.1 6 (by decide) (by decide)).trans (F5.2.1 6 (by decide))).trans (congrFun F4.1 6)
  have ei : S4.1 i = S.1 i := (((congrFun F4.1 i).trans (F3.2.1 i (by omega) (by omega))).trans (F2.2.1 i (by omega) (by omega))).trans (F1.2.1 i (by omega))
  have a1 := F2.1
  rw [F1.1, F1.2.2] at a1
  have a2 := F3.1
  rw [F2.2.2, F1.2.2] at a2
  have a4 := F4.2.2
  rw [F3.2.2, F2.2.2, F1.2.2] at a4
  have a6 := F6.1
  rw [F5.1, ei, F5.2.2] at a6
  rw [e6]
  exact (prod_srt a1 a2 (rl_16 hI) (code_lt hj) a4).eq a6
theorem turn_ok (hi : i < 5) (hj : j < 5) (hI : rowOK (S.1 i)) (F1 : FR S S1 6 (rl (S.1 i))) (F2 : FR S1 S2 6 (rl (S1.1 6)).reverse) (F3 : FS S2 S3 6 j) (F4 : FR S3 S4 6 (rl (S3.1 6)).reverse) (F5 : FO S4 S5 (fun c => ∀ v, v < 16 → c v = (S4.2.1 j).2.2.1 v)) (F6 : FO S5 S6 (fun c => ∀ v, v < 16 → c v + (S5.2.1 5).2.2.1 v + 1 = 16 ^ (S5.2.1 5).2.2.2.2.1)) (F7 : FR S6 S7 7 (rl (S6.1 i))) (F8 : FS S7 S8 7 5) : rl (S8.1 6) = rl (S8.1 7) := by
  have e6 : S8.1 6 = S4.1 6 := (((F8.2.1 6 (by decide) (by decide)).trans (F7.2.1 6 (by decide))).trans (congrFun F6.1 6)).trans (congrFun F5.1 6)
  have ei : S6.1 i = S.1 i := (((((congrFun F6.1 i).trans (congrFun F5.1 i)).trans (F4.2.1 i (by omega))).trans (F3.2.1 i (by omega) (by omega))).trans (F2.2.1 i (by omega))).trans (F1.2.1 i (by omega))
  have a3 := F3.1
  rw [F2.1, F1.1, F2.2.2, F1.2.2] at a3
  have a5 := F5.2.2
  rw [F4.2.2, F3.2.2, F2.2.2, F1.2.2] at a5
  have a6 := F6.2.2
  have a8 := F8.1
  rw [F7.1, ei, F7.2.2] at a8
  rw [e6, F4.1]
  exact (turned_srt (d := (S6.2.1 5).2.2.1) (w := 16 ^ (S5.2.1 5).2.2.2.2.1) a3 (rl_16 hI) (fun v hv => by have h1 := a6 v hv; have h2 := a5 v hv; omega)).eq a8
theorem way_ok {l : List (Nat × Nat)} (hL : Srt (S2.2.1 j).2.2.1 l (rl (S2.1 6))) (F3 : FR S2 S3 7 l) (F4 : FS S3 S4 7 j) : rl (S4.1 6) = rl (S4.1 7) ∧ Srt (S4.2.1 j).2.2.1 l (rl (S4.1 6)) := by
  have e6 : S4.1 6 = S2.1 6 := (F4.2.1 6 (by decide) (by decide)).trans (F3.2.1 6 (by decide))
  have a := F4.1
  rw [F3.1, F3.2.2] at a
  rw [e6, F4.2.2, F3.2.2]
  exact ⟨hL.eq a, hL⟩
theorem queue_ok {q b : Nat} (hL : Pw (S1.2.1 j).2.2.1 (rl (S1.1 6))) (hR : ∀ u, kf (S1.2.1 j).2.2.1 u (rl (S1.1 7)) = kf (S1.2.1 j).2.2.1 u ((rl (S1.1 6)).drop q)) (hq : q < (S1.1 6).2.2) (hb : bestB (fun _ => true) (fun x y => decide ((S1.2.1 j).2.2.1 ((S1.1 7).1 x) < (S1.2.1 j).2.2.1 ((S1.1 7).1 y))) (S1.1 7).2.2 = some b) (ho : ordOK (S1.2.1 j)) (h6 : rowOK (S1.1 6)) (h7 : rowOK (S1.1 7)) : (S1.2.1 j).2.2.2.1 ((S1.1 7).1 b) = (S1.2.1 j).2.2.2.1 ((S1.1 6).1 q) ∧ ∀ u, kf (S1.2.1 j).2.2.1 u ((rl (S1.1 7)).eraseIdx b) = kf (S1.2.1 j).2.2.1 u ((rl (S1.1 6)).drop (q + 1)) := by
  have h := queue_step hL (rl_get hq) hR hb
  have hbn := (bestB_lt hb).1
  have n6 := h6.1
  have n7 := h7.1
  exact ⟨rank_eq ho (h7.2 b (by omega)).1 (h6.2 q (by omega)).1 h.1, h.2⟩
end AUD
end
section
set_option maxHeartbeats 4000000 in
set_option maxRecDepth 100000 in
theorem u_X0_isFinerBySorting (l : Launch) (dC : Nat → ClassId) (dI : Nat → Nat → Nat) (ad : Nat → Nat) (S : XS) (j t : Nat) (hj : j < 5) (ht : t < 5) (hI : InvX S) : Met l yX0_isFinerBySorting wsX0_isFinerBySorting ({ frames := 3, cells := 0, slots := 0, locals := 73 } : Room) (va_Pc [.ref (ad 56), .ref (ad (24 + 5 * j)), .ref (ad (24 + 5 * t))] (PX dC dI ad S)) (va_Qi (fun r S' => r = bI (finerB (S.2.1 j).2.2.1 (S.2.1 t).2.2.1) ∧ KA S S' ∧ S'.2 = S.2) (PX dC dI ad) (AX ad)) 0 0 (AX ad) := by
  refine Met.ofW (cc := cX0_isFinerBySorting) (maxL := 3) (ret := (some .boolean)) pl_X0 rfl ?_
  intro p e s m args below meth c s₁ B hml hv
  obtain ⟨rfl, hPX⟩ := hv
  have hx := B.exec
  have hb := B.bytes
  have hr := B.returns
  have hts := atoms_spec (ws := wsX0_isFinerBySorting) B.pre
  have hown : s.vm.findClass RX0 = some m.cls := findClass_of_methodNamed B.named
  have hlocks := B.notSynchronized
  have hin0 : ∀ w ∈ u_ws RX0 TX0 4, w ∈ wsX0_isFinerBySorting := tu 1325 (by decide +kernel) rfl
  have hX := WX.of hPX
  have hl := lv_entry ([.ref (ad 56), .ref (ad (24 + 5 * j)), .ref (ad (24 + 5 * t))]) (n := 3) (Nat.le_of_ble_eq_true rfl)
  rw [lg_entry_eq]
  generalize (lg_sl ([.ref (ad 56), .ref (ad (24 + 5 * j)), .ref (ad (24 + 5 * t))]) ++ List.replicate (3 - (lg_sl ([.ref (ad 56), .ref (ad (24 + 5 * j)), .ref (ad (24 + 5 * t))])).length) Slot.unset).toArray = ls at hl ⊢
  have hl : lv_has ls 3 [(0, .ref (ad 56)), (1, .ref (ad (24 + 5 * j))), (2, .ref (ad (24 + 5 * t)))] := hl
  show W p l e ({ frames := 3, cells := 0, slots := 0, locals := 73 } : Room) s m ([.ref (ad 56), .ref (ad (24 + 5 * j)), .ref (ad (24 + 5 * t))]).toArray below meth c s.heap [] 0 0 (MQ below (va_Qi (fun r S' => r = bI (finerB (S.2.1 j).2.2.1 (S.2.1 t).2.2.1) ∧ KA S S' ∧ S'.2 = S.2) (PX dC dI ad) (AX ad)) ([.ref (ad 56), .ref (ad (24 + 5 * j)), .ref (ad (24 + 5 * t))]).toArray s 0 0 (AX ad)) (F0 m 0 ls [])
  have hK := KA_refl hI
  have h6 : (S.1 6).2.2 = (S.1 6).2.2 := rfl
  have h7 : (S.1 7).2.2 = (S.1 7).2.2 := rfl
  refine lv_aload_n hx hb dX0_isFinerBySorting_0 rfl (lv_at hl 0 rfl) ?_
  refine ka_gl hx hb hts hin0 hown hX (hts (.fieldLink RX0 21 "Orderlattice$Auditor" "left" "LOrderlattice$Row;") (tm 10 (by decide +kernel) rfl)) dX0_isFinerBySorting_1 ?_
  refine kx_cv (va_runV (As := []) (rest := []) ⟨hx, hb, hml, hown, hts⟩ (m_X2_becomeAllValues l dC dI ad S 6 (by omega)) (cwV 0 hts gX0_isFinerBySorting_X2_becomeAllValues rfl rfl rfl hdX2_becomeAllValues_0 ⟨Nat.le_of_ble_eq_true rfl, Nat.le_of_ble_eq_true rfl⟩) (hX.preRow (by omega)) rfl rfl hl.1 rfl (lv_room (Nat.le_of_ble_eq_true rfl)) dX0_isFinerBySorting_4 ⟨Nat.le_of_ble_eq_true rfl, Nat.le_of_ble_eq_true rfl⟩) hX (fun _ h => h) (fun S_1 H locs hw hX => ?_)
  replace h6 := (show (S_1.1 6).2.2 = 16 by rw [hw, xR_row])
  replace h7 := (show (S_1.1 7).2.2 = (S.1 7).2.2 by rw [hw, xR_ne _ _ (by decide)]).trans h7
  replace hK := (show KA S S_1 by rw [hw]; exact KA_row hK (by decide) (by decide) (rowOK_all (hK.1.1 6 (by omega))))
  have FS_1 : FR S S_1 6 l00 := FR.all hw
  clear hw
  refine lv_aload_n hx hb dX0_isFinerBySorting_7 rfl (lv_at hl 0 rfl) ?_
  refine ka_gs hx hb hts hin0 hown hX (hts (.fieldLink RX0 12 "Orderlattice$Auditor" "sorter" "LOrderlattice$Sorter;") (tm 6 (by decide +kernel) rfl)) dX0_isFinerBySorting_8 ?_
  refine lv_aload_n hx hb dX0_isFinerBySorting_11 rfl (lv_at hl 0 rfl) ?_
  refine ka_gl hx hb hts hin0 hown hX (hts (.fieldLink RX0 21 "Orderlattice$Auditor" "left" "LOrderlattice$Row;") (tm 10 (by decide +kernel) rfl)) dX0_isFinerBySorting_12 ?_
  refine lv_aload_n hx hb dX0_isFinerBySorting_15 rfl (lv_at hl 1 rfl) ?_
  refine lv_iconst (v := nI 0) hx hb dX0_isFinerBySorting_16 (by decide) ?_
  refine lv_aload_n hx hb dX0_isFinerBySorting_17 rfl (lv_at hl 0 rfl) ?_
  refine ka_gl hx hb hts hin0 hown hX (hts (.fieldLink RX0 21 "Orderlattice$Auditor" "left" "LOrderlattice$Row;") (tm 10 (by decide +kernel) rfl)) dX0_isFinerBySorting_18 ?_
  refine kx_cr (v := nI 16) (va_runV (As := []) (rest := [.int (nI 0), .ref (ad (24 + 5 * j)), .ref (ad (3 * 6)), .ref (ad (54 + 1))]) ⟨hx, hb, hml, hown, hts⟩ (m_X2_length l dC dI ad S_1 6 (by omega)) (cwV 0 hts gX0_isFinerBySorting_X2_length rfl rfl rfl hdX2_length_0 ⟨Nat.le_of_ble_eq_true rfl, Nat.le_of_ble_eq_true rfl⟩) (hX.preRow (by omega)) rfl rfl hl.1 rfl (lv_room (Nat.le_of_ble_eq_true rfl)) dX0_isFinerBySorting_21 ⟨Nat.le_of_ble_eq_true rfl, Nat.le_of_ble_eq_true rfl⟩) (fun _ h => by rw [h, h6]) ?_
  refine kx_cv (va_runV (As := [.ref (ad (3 * 6)), .ref (ad (24 + 5 * j)), .int (nI 0), .int (nI 16)]) (rest := []) ⟨hx, hb, hml, hown, hts⟩ (s_X3_insertEach l dC dI ad S_1 1 6 j 0 16 (by decide) (by omega) (by omega) (hK.1.1 6 (by omega)) (hK.1.2 j (by omega)) (Nat.zero_le _) (Nat.le_of_eq h6.symm)) (cwV 4 hts gX0_isFinerBySorting_X3_insertEach rfl rfl rfl hdX3_insertEach_4 ⟨Nat.le_of_ble_eq_true rfl, Nat.le_of_ble_eq_true rfl⟩) (hX.preSor (by omega)) rfl rfl hl.1 rfl (lv_room (Nat.le_of_ble_eq_true rfl)) dX0_isFinerBySorting_24 ⟨Nat.le_of_ble_eq_true rfl, Nat.le_of_ble_eq_true rfl⟩) hX (fun _ h => h) (fun S_2 H locs hw hX => ?_)
  obtain ⟨r2, hw, hrok, hrn, hsp, hst⟩ := hw
  have hr2 := And.intro hrok hrn
  have FS_2 : FS S_1 S_2 6 j := FS.ins hw hrn (by rw [h6]; exact hsp) (by rw [h6]; exact hst)
  replace h6 := (show (S_2.1 6).2.2 = (S_1.1 6).2.2 by rw [hw, xR_row]; exact hr2.2).trans h6
  replace h7 := (show (S_2.1 7).2.2 = (S_1.1 7).2.2 by rw [hw, xR_ne _ _ (by decide)]).trans h7
  replace hK := (show KA S S_2 by rw [hw]; exact KA_row hK (by decide) (by decide) hr2.1)
  clear hw
  refine lv_aload_n hx hb dX0_isFinerBySorting_27 rfl (lv_at hl 0 rfl) ?_
  refine ka_gl hx hb hts hin0 hown hX (hts (.fieldLink RX0 21 "Orderlattice$Auditor" "left" "LOrderlattice$Row;") (tm 10 (by decide +kernel) rfl)) dX0_isFinerBySorting_28 ?_
  refine lv_aload_n hx hb dX0_isFinerBySorting_31 rfl (lv_at hl 2 rfl) ?_
  refine kx_cr (v := bI (seqB (S_2.2.1 t).2.2.1 (S_2.1 6).1 (S_2.1 6).2.2)) (va_runV (As := [.ref (ad (24 + 5 * t))]) (rest := []) ⟨hx, hb, hml, hown, hts⟩ (m_X2_isInSequenceBy l dC dI ad S_2 6 t (by omega) (by omega) (hK.1.1 6 (by omega)) (hK.1.2 t (by omega))) (cwV 1 hts gX0_isFinerBySorting_X2_isInSequenceBy rfl rfl rfl hdX2_isInSequenceBy_1 ⟨Nat.le_of_ble_eq_true rfl, Nat.le_of_ble_eq_true rfl⟩) (hX.preRow (by omega)) rfl rfl hl.1 rfl (lv_room (Nat.le_of_ble_eq_true rfl)) dX0_isFinerBySorting_32 ⟨Nat.le_of_ble_eq_true rfl, Nat.le_of_ble_eq_true rfl⟩) (fun _ h => h) ?_
  have hfs : Srt (S_2.2.1 j).2.2.1 l00 (rl (S_2.1 6)) := by have h9 := FS_2.1; rw [FS_1.1, ← FS_2.2.2] at h9; exact h9
  have hfin : finerB (S.2.1 j).2.2.1 (S.2.1 t).2.2.1 = (seqB (S_2.2.1 t).2.2.1 (S_2.1 6).1 (S_2.1 6).2.2 && alikeB (S_2.2.1 j).2.2.1 (S_2.2.1 t).2.2.1) := by rw [← hK.2.2.2 j (by omega), ← hK.2.2.2 t (by omega)]; exact finer_sort h6 hfs
  have hS9 : S_2.2 = S.2 := FS_2.2.2.trans FS_1.2.2
  refine kb_if_eq (tgt := 50) hx hb dX0_isFinerBySorting_35 (by decide) (fun k_3 => ?_) (fun k_3 => ?_)
  · skip
    have h1 := k_3
    refine lv_iconst (v := bI false) hx hb dX0_isFinerBySorting_50 (by decide) ?_
    exact W.zret (v := bI false) hx hb hr (bI_narrow _) (fun t9 ht9 hW9 => ⟨⟨_, S_2, rfl, ⟨congrArg bI (show false = finerB (S.2.1 j).2.2.1 (S.2.1 t).2.2.1 by rw [hfin, h1, Bool.false_and]), hK, hS9⟩, hX.P ht9 hW9⟩, hX.2.2.2.F ht9⟩) hX.2.2.2.2.2 dX0_isFinerBySorting_51
  · skip
    have h1 := k_3
    refine lv_aload_n hx hb dX0_isFinerBySorting_38 rfl (lv_at hl 1 rfl) ?_
    refine lv_aload_n hx hb dX0_isFinerBySorting_39 rfl (lv_at hl 2 rfl) ?_
    refine kx_cr (v := bI (alikeB (S_2.2.1 j).2.2.1 (S_2.2.1 t).2.2.1)) (va_runS (As := [.ref (ad (24 + 5 * j)), .ref (ad (24 + 5 * t))]) (rest := []) ⟨hx, hb, hml, hown, hts⟩ (m_X0_areAlikeAlike l dC dI ad S_2 j t (by omega) (by omega) (hK.1.2 j (by omega)) (hK.1.2 t (by omega))) (va_cwS 2 hts gX0_isFinerBySorting_X0_areAlikeAlike rfl rfl rfl hdX0_areAlikeAlike_2.2 ⟨Nat.le_of_ble_eq_true rfl, Nat.le_of_ble_eq_true rfl⟩) hX.preS rfl rfl hl.1 rfl (lv_room (Nat.le_of_ble_eq_true rfl)) dX0_isFinerBySorting_40 ⟨Nat.le_of_ble_eq_true rfl, Nat.le_of_ble_eq_true rfl⟩) (fun _ h => h) ?_
    refine kb_if_eq (tgt := 50) hx hb dX0_isFinerBySorting_43 (by decide) (fun k_4 => ?_) (fun k_4 => ?_)
    · skip
      have h2 := k_4
      refine lv_iconst (v := bI false) hx hb dX0_isFinerBySorting_50 (by decide) ?_
      exact W.zret (v := bI false) hx hb hr (bI_narrow _) (fun t9 ht9 hW9 => ⟨⟨_, S_2, rfl, ⟨congrArg bI (show false = finerB (S.2.1 j).2.2.1 (S.2.1 t).2.2.1 by rw [hfin, h1, h2, Bool.and_false]), hK, hS9⟩, hX.P ht9 hW9⟩, hX.2.2.2.F ht9⟩) hX.2.2.2.2.2 dX0_isFinerBySorting_51
    · skip
      have h2 := k_4
      refine lv_iconst (v := bI true) hx hb dX0_isFinerBySorting_46 (by decide) ?_
      refine lv_goto (tgt := 51) hx hb dX0_isFinerBySorting_47 (by decide) ?_
      exact W.zret (v := bI true) hx hb hr (bI_narrow _) (fun t9 ht9 hW9 => ⟨⟨_, S_2, rfl, ⟨congrArg bI (show true = finerB (S.2.1 j).2.2.1 (S.2.1 t).2.2.1 by rw [hfin, h1, h2, Bool.and_true]), hK, hS9⟩, hX.P ht9 hW9⟩, hX.2.2.2.F ht9⟩) hX.2.2.2.2.2 dX0_isFinerBySorting_51
set_option maxHeartbeats 4000000 in
set_option maxRecDepth 100000 in
theorem u_X0_isRefiningSound (l : Launch) (dC : Nat → ClassId) (dI : Nat → Nat → Nat) (ad : Nat → Nat) (S : XS) (j t : Nat) (hj : j < 5) (ht : t < 5) (hI : InvX S) (h5j : (S.2.1 j).2.2.2.2.1 ≤ 5) (h5t : (S.2.1 t).2.2.2.2.1 ≤ 5) : Met l yX0_isRefiningSound wsX0_isRefiningSound ({ frames := 4, cells := 0, slots := 0, locals := 95 } : Room) (va_Pc [.ref (ad 56), .ref (ad (24 + 5 * j)), .ref (ad (24 + 5 * t))] (PX dC dI ad S)) (va_Qi (fun r S' => r = bI true ∧ KA S S') (PX dC dI ad) (AX ad)) 0 0 (AX ad) := by
  refine Met.ofW (cc := cX0_isRefiningSound) (maxL := 4) (ret := (some .boolean)) pl_X0 rfl ?_
  intro p e s m args below meth c s₁ B hml hv
  obtain ⟨rfl, hPX⟩ := hv
  have hx := B.exec
  have hb := B.bytes
  have hr := B.returns
  have hts := atoms_spec (ws := wsX0_isRefiningSound) B.pre
  have hown : s.vm.findClass RX0 = some m.cls := findClass_of_methodNamed B.named
  have hlocks := B.notSynchronized
  have hin0 : ∀ w ∈ u_ws RX0 TX0 4, w ∈ wsX0_isRefiningSound := tu 1325 (by decide +kernel) rfl
  have hX := WX.of hPX
  have hl := lv_entry ([.ref (ad 56), .ref (ad (24 + 5 * j)), .ref (ad (24 + 5 * t))]) (n := 4) (Nat.le_of_ble_eq_true rfl)
  rw [lg_entry_eq]
  generalize (lg_sl ([.ref (ad 56), .ref (ad (24 + 5 * j)), .ref (ad (24 + 5 * t))]) ++ List.replicate (4 - (lg_sl ([.ref (ad 56), .ref (ad (24 + 5 * j)), .ref (ad (24 + 5 * t))])).length) Slot.unset).toArray = ls at hl ⊢
  have hl : lv_has ls 4 [(0, .ref (ad 56)), (1, .ref (ad (24 + 5 * j))), (2, .ref (ad (24 + 5 * t)))] := hl
  show W p l e ({ frames := 4, cells := 0, slots := 0, locals := 95 } : Room) s m ([.ref (ad 56), .ref (ad (24 + 5 * j)), .ref (ad (24 + 5 * t))]).toArray below meth c s.heap [] 0 0 (MQ below (va_Qi (fun r S' => r = bI true ∧ KA S S') (PX dC dI ad) (AX ad)) ([.ref (ad 56), .ref (ad (24 + 5 * j)), .ref (ad (24 + 5 * t))]).toArray s 0 0 (AX ad)) (F0 m 0 ls [])
  have hK := KA_refl hI
  have h6 : (S.1 6).2.2 = (S.1 6).2.2 := rfl
  have h7 : (S.1 7).2.2 = (S.1 7).2.2 := rfl
  refine lv_aload_n hx hb dX0_isRefiningSound_0 rfl (lv_at hl 1 rfl) ?_
  refine lv_aload_n hx hb dX0_isRefiningSound_1 rfl (lv_at hl 2 rfl) ?_
  refine kx_cr (v := bI (finerB (S.2.1 j).2.2.1 (S.2.1 t).2.2.1)) (va_runV (As := [.ref (ad (24 + 5 * t))]) (rest := []) ⟨hx, hb, hml, hown, hts⟩ (m_X1_isFinerThan l dC dI ad S j t (by omega) (by omega) (hK.1.2 j (by omega)) (hK.1.2 t (by omega))) (cwV 1 hts gX0_isRefiningSound_X1_isFinerThan rfl rfl rfl hdX1_isFinerThan_1 ⟨Nat.le_of_ble_eq_true rfl, Nat.le_of_ble_eq_true rfl⟩) (hX.preOrd (by omega)) rfl rfl hl.1 rfl (lv_room (Nat.le_of_ble_eq_true rfl)) dX0_isRefiningSound_2 ⟨Nat.le_of_ble_eq_true rfl, Nat.le_of_ble_eq_true rfl⟩) (fun _ h => h) ?_
  refine lv_istore_n (lv' := [(3, .int (bI (finerB (S.2.1 j).2.2.1 (S.2.1 t).2.2.1))), (0, .ref (ad 56)), (1, .ref (ad (24 + 5 * j))), (2, .ref (ad (24 + 5 * t)))]) hx hb dX0_isRefiningSound_5 rfl hl (by decide) rfl (fun ls hl => ?_)
  refine lv_aload_n hx hb dX0_isRefiningSound_6 rfl (lv_at hl 1 rfl) ?_
  refine ka_gm hx hb hts hin0 hown hX (hts (.fieldLink RX0 31 "Orderlattice$Auditor" "made" "LOrderlattice$Order;") (tm 15 (by decide +kernel) rfl)) dX0_isRefiningSound_7 ?_
  refine lv_aload_n hx hb dX0_isRefiningSound_10 rfl (lv_at hl 2 rfl) ?_
  refine lv_aload_n hx hb dX0_isRefiningSound_11 rfl (lv_at hl 3 rfl) ?_
  refine kx_cv (va_runV (As := [.ref (ad (24 + 5 * j)), .ref (ad (24 + 5 * t))]) (rest := []) ⟨hx, hb, hml, hown, hts⟩ (m_X1_becomeProductOf l dC dI ad S 5 j t (by decide) (by omega) (by omega) (hK.1.2 5 (by decide)).1 (hK.1.2 j (by omega)).1 (hK.1.2 t (by omega)).1 (by omega) (by omega) (by rw [hK.2.2.2 j (by omega), hK.2.2.2 t (by omega)]; omega)) (cwV 2 hts gX0_isRefiningSound_X1_becomeProductOf rfl rfl rfl hdX1_becomeProductOf_2 ⟨Nat.le_of_ble_eq_true rfl, Nat.le_of_ble_eq_true rfl⟩) (hX.preOrd (by omega)) rfl rfl hl.1 rfl (lv_room (Nat.le_of_ble_eq_true rfl)) dX0_isRefiningSound_12 ⟨Nat.le_of_ble_eq_true rfl, Nat.le_of_ble_eq_true rfl⟩) hX (fun _ h => h) (fun S_1 H locs hw hX => ?_)
  have qa9 := (hK.1.2 j (by omega))
  have qb9 := (hK.1.2 t (by omega))
  replace h6 := (show (S_1.1 6).2.2 = (S.1 6).2.2 by rw [hw, xO_row]).trans h6
  replace h7 := (show (S_1.1 7).2.2 = (S.1 7).2.2 by rw [hw, xO_row]).trans h7
  replace hK := (show KA S S_1 by rw [hw]; exact KA_ord hK (newO_ok (stepOK_apn2 (D := fun _ => false) (c := fun _ => 0) (r := fun _ => 0) (cl := 0) (hK.1.2 5 (by decide)).1 (hK.1.2 j (by omega)).1 (hK.1.2 t (by omega)).1 (by rw [hK.2.2.2 j (by omega), hK.2.2.2 t (by omega)]; omega))))
  have FS_1 : FO S S_1 (fun c => ∀ v, v < 16 → c v = (S.2.1 j).2.2.1 v * 16 ^ (S.2.1 t).2.2.2.2.1 + (S.2.1 t).2.2.1 v) := FO.prod hw (hK.1.2 5 (by decide)) qa9 qb9
  clear hw
  refine lv_iload_n hx hb dX0_isRefiningSound_15 rfl (lv_at hl 0 rfl) ?_
  refine lv_aload_n hx hb dX0_isRefiningSound_16 rfl (lv_at hl 1 rfl) ?_
  refine lv_aload_n hx hb dX0_isRefiningSound_17 rfl (lv_at hl 2 rfl) ?_
  refine lv_aload_n hx hb dX0_isRefiningSound_18 rfl (lv_at hl 3 rfl) ?_
  refine kx_ci (va_runV (As := [.ref (ad (24 + 5 * j)), .ref (ad (24 + 5 * t))]) (rest := [.int (bI (finerB (S.2.1 j).2.2.1 (S.2.1 t).2.2.1))]) ⟨hx, hb, hml, hown, hts⟩ (u_X0_isFinerBySorting l dC dI ad S_1 j t (by omega) (by omega) hK.1) (cwV 2 hts gX0_isRefiningSound_X0_isFinerBySorting rfl rfl rfl hdX0_isFinerBySorting_2 ⟨Nat.le_of_ble_eq_true rfl, Nat.le_of_ble_eq_true rfl⟩) (hX.preTop 56 2 (by decide) (by decide) rfl rfl) rfl rfl hl.1 rfl (lv_room (Nat.le_of_ble_eq_true rfl)) dX0_isRefiningSound_19 ⟨Nat.le_of_ble_eq_true rfl, Nat.le_of_ble_eq_true rfl⟩) hX (fun _ h => h) (fun r_ S_2 H locs hw hX => ?_)
  obtain ⟨rfl, hK9, hS9⟩ := hw
  replace hK := KA_trans hK hK9
  have hfe : finerB (S.2.1 j).2.2.1 (S.2.1 t).2.2.1 = finerB (S_1.2.1 j).2.2.1 (S_1.2.1 t).2.2.1 := by rw [FS_1.2.1 j (by omega), FS_1.2.1 t (by omega)]
  refine lv_icmp_ne (tgt := 55) hx hb dX0_isRefiningSound_22 (by decide) (fun k_3 => absurd (congrArg bI hfe) k_3) (fun k_3 => ?_)
  refine lv_iload_n hx hb dX0_isRefiningSound_25 rfl (lv_at hl 0 rfl) ?_
  refine kb_if_eq (tgt := 40) hx hb dX0_isRefiningSound_26 (by decide) (fun k_4 => ?_) (fun k_4 => ?_)
  · skip
    have hf := k_4
    refine lv_aload_n hx hb dX0_isRefiningSound_40 rfl (lv_at hl 1 rfl) ?_
    refine ka_gm hx hb hts hin0 hown hX (hts (.fieldLink RX0 31 "Orderlattice$Auditor" "made" "LOrderlattice$Order;") (tm 15 (by decide +kernel) rfl)) dX0_isRefiningSound_41 ?_
    refine lv_aload_n hx hb dX0_isRefiningSound_44 rfl (lv_at hl 2 rfl) ?_
    refine kx_cr (v := bI (finerB (S_2.2.1 5).2.2.1 (S_2.2.1 j).2.2.1)) (va_runV (As := [.ref (ad (24 + 5 * j))]) (rest := []) ⟨hx, hb, hml, hown, hts⟩ (m_X1_isFinerThan l dC dI ad S_2 5 j (by omega) (by omega) (hK.1.2 5 (by omega)) (hK.1.2 j (by omega))) (cwV 1 hts gX0_isRefiningSound_X1_isFinerThan rfl rfl rfl hdX1_isFinerThan_1 ⟨Nat.le_of_ble_eq_true rfl, Nat.le_of_ble_eq_true rfl⟩) (hX.preOrd (by omega)) rfl rfl hl.1 rfl (lv_room (Nat.le_of_ble_eq_true rfl)) dX0_isRefiningSound_45 ⟨Nat.le_of_ble_eq_true rfl, Nat.le_of_ble_eq_true rfl⟩) (fun _ h => h) ?_
    have hmf : finerB (S_2.2.1 5).2.2.1 (S_2.2.1 j).2.2.1 = true := by rw [hS9, FS_1.2.1 j (by omega)]; exact finer_prod FS_1.2.2 (code_lt (hI.2 t (by omega)))
    refine kb_if_eq (tgt := 55) hx hb dX0_isRefiningSound_48 (by decide) (fun k_5 => absurd (hmf.symm.trans k_5) (by decide)) (fun k_5 => ?_)
    refine lv_iconst (v := bI true) hx hb dX0_isRefiningSound_51 (by decide) ?_
    refine lv_goto (tgt := 56) hx hb dX0_isRefiningSound_52 (by decide) ?_
    exact W.zret (v := bI true) hx hb hr (bI_narrow _) (fun t9 ht9 hW9 => ⟨⟨_, S_2, rfl, ⟨rfl, hK⟩, hX.P ht9 hW9⟩, hX.2.2.2.F ht9⟩) hX.2.2.2.2.2 dX0_isRefiningSound_56
  · skip
    have hf := k_4
    refine lv_aload_n hx hb dX0_isRefiningSound_29 rfl (lv_at hl 2 rfl) ?_
    refine kx_cr (v := nI ((S_2.2.1 j).2.2.2.2.2)) (va_runV (As := []) (rest := []) ⟨hx, hb, hml, hown, hts⟩ (m_X1_classCount l dC dI ad S_2 j (by omega)) (cwV 0 hts gX0_isRefiningSound_X1_classCount rfl rfl rfl hdX1_classCount_0 ⟨Nat.le_of_ble_eq_true rfl, Nat.le_of_ble_eq_true rfl⟩) (hX.preOrd (by omega)) rfl rfl hl.1 rfl (lv_room (Nat.le_of_ble_eq_true rfl)) dX0_isRefiningSound_30 ⟨Nat.le_of_ble_eq_true rfl, Nat.le_of_ble_eq_true rfl⟩) (fun _ h => h) ?_
    refine lv_aload_n hx hb dX0_isRefiningSound_33 rfl (lv_at hl 3 rfl) ?_
    refine kx_cr (v := nI ((S_2.2.1 t).2.2.2.2.2)) (va_runV (As := []) (rest := [.int (nI ((S_2.2.1 j).2.2.2.2.2))]) ⟨hx, hb, hml, hown, hts⟩ (m_X1_classCount l dC dI ad S_2 t (by omega)) (cwV 0 hts gX0_isRefiningSound_X1_classCount rfl rfl rfl hdX1_classCount_0 ⟨Nat.le_of_ble_eq_true rfl, Nat.le_of_ble_eq_true rfl⟩) (hX.preOrd (by omega)) rfl rfl hl.1 rfl (lv_room (Nat.le_of_ble_eq_true rfl)) dX0_isRefiningSound_34 ⟨Nat.le_of_ble_eq_true rfl, Nat.le_of_ble_eq_true rfl⟩) (fun _ h => h) ?_
    have hc1 := ordOK.cls (hK.1.2 j (by omega))
    have hc2 := ordOK.cls (hK.1.2 t (by omega))
    have hcls := finer_cls (hK.1.2 j (by omega)) (hK.1.2 t (by omega)) (by rw [hK.2.2.2 j (by omega), hK.2.2.2 t (by omega)]; exact hf)
    refine kn_icmp_lt (tgt := 55) hx hb (by omega) (by omega) dX0_isRefiningSound_37 (by decide) (fun k_6 => absurd k_6 (by omega)) (fun k_6 => ?_)
    refine lv_aload_n hx hb dX0_isRefiningSound_40 rfl (lv_at hl 1 rfl) ?_
    refine ka_gm hx hb hts hin0 hown hX (hts (.fieldLink RX0 31 "Orderlattice$Auditor" "made" "LOrderlattice$Order;") (tm 15 (by decide +kernel) rfl)) dX0_isRefiningSound_41 ?_
    refine lv_aload_n hx hb dX0_isRefiningSound_44 rfl (lv_at hl 2 rfl) ?_
    refine kx_cr (v := bI (finerB (S_2.2.1 5).2.2.1 (S_2.2.1 j).2.2.1)) (va_runV (As := [.ref (ad (24 + 5 * j))]) (rest := []) ⟨hx, hb, hml, hown, hts⟩ (m_X1_isFinerThan l dC dI ad S_2 5 j (by omega) (by omega) (hK.1.2 5 (by omega)) (hK.1.2 j (by omega))) (cwV 1 hts gX0_isRefiningSound_X1_isFinerThan rfl rfl rfl hdX1_isFinerThan_1 ⟨Nat.le_of_ble_eq_true rfl, Nat.le_of_ble_eq_true rfl⟩) (hX.preOrd (by omega)) rfl rfl hl.1 rfl (lv_room (Nat.le_of_ble_eq_true rfl)) dX0_isRefiningSound_45 ⟨Nat.le_of_ble_eq_true rfl, Nat.le_of_ble_eq_true rfl⟩) (fun _ h => h) ?_
    have hmf : finerB (S_2.2.1 5).2.2.1 (S_2.2.1 j).2.2.1 = true := by rw [hS9, FS_1.2.1 j (by omega)]; exact finer_prod FS_1.2.2 (code_lt (hI.2 t (by omega)))
    refine kb_if_eq (tgt := 55) hx hb dX0_isRefiningSound_48 (by decide) (fun k_7 => absurd (hmf.symm.trans k_7) (by decide)) (fun k_7 => ?_)
    refine lv_iconst (v := bI true) hx hb dX0_isRefiningSound_51 (by decide) ?_
    refine lv_goto (tgt := 56) hx hb dX0_isRefiningSound_52 (by decide) ?_
    exact W.zret (v := bI true) hx hb hr (bI_narrow _) (fun t9 ht9 hW9 => ⟨⟨_, S_2, rfl, ⟨rfl, hK⟩, hX.P ht9 hW9⟩, hX.2.2.2.F ht9⟩) hX.2.2.2.2.2 dX0_isRefiningSound_56
set_option maxHeartbeats 4000000 in
set_option maxRecDepth 100000 in
theorem u_X0_isProductAlike (l : Launch) (dC : Nat → ClassId) (dI : Nat → Nat → Nat) (ad : Nat → Nat) (S : XS) (i j t : Nat) (hi : i < 5) (hj : j < 5) (ht : t < 5) (hI : InvX S) (h5j : (S.2.1 j).2.2.2.2.1 ≤ 5) (h5t : (S.2.1 t).2.2.2.2.1 ≤ 5) : Met l yX0_isProductAlike wsX0_isProductAlike ({ frames := 4, cells := 0, slots := 0, locals := 105 } : Room) (va_Pc [.ref (ad 56), .ref (ad (3 * i)), .ref (ad (24 + 5 * j)), .ref (ad (24 + 5 * t))] (PX dC dI ad S)) (va_Qi (fun r S' => r = bI true ∧ KA S S') (PX dC dI ad) (AX ad)) 0 0 (AX ad) := by
  refine Met.ofW (cc := cX0_isProductAlike) (maxL := 4) (ret := (some .boolean)) pl_X0 rfl ?_
  intro p e s m args below meth c s₁ B hml hv
  obtain ⟨rfl, hPX⟩ := hv
  have hx := B.exec
  have hb := B.bytes
  have hr := B.returns
  have hts := atoms_spec (ws := wsX0_isProductAlike) B.pre
  have hown : s.vm.findClass RX0 = some m.cls := findClass_of_methodNamed B.named
  have hlocks := B.notSynchronized
  have hin0 : ∀ w ∈ u_ws RX0 TX0 4, w ∈ wsX0_isProductAlike := tu 1325 (by decide +kernel) rfl
  have hX := WX.of hPX
  have hl := lv_entry ([.ref (ad 56), .ref (ad (3 * i)), .ref (ad (24 + 5 * j)), .ref (ad (24 + 5 * t))]) (n := 4) (Nat.le_of_ble_eq_true rfl)
  rw [lg_entry_eq]
  generalize (lg_sl ([.ref (ad 56), .ref (ad (3 * i)), .ref (ad (24 + 5 * j)), .ref (ad (24 + 5 * t))]) ++ List.replicate (4 - (lg_sl ([.ref (ad 56), .ref (ad (3 * i)), .ref (ad (24 + 5 * j)), .ref (ad (24 + 5 * t))])).length) Slot.unset).toArray = ls at hl ⊢
  have hl : lv_has ls 4 [(0, .ref (ad 56)), (1, .ref (ad (3 * i))), (2, .ref (ad (24 + 5 * j))), (3, .ref (ad (24 + 5 * t)))] := hl
  show W p l e ({ frames := 4, cells := 0, slots := 0, locals := 105 } : Room) s m ([.ref (ad 56), .ref (ad (3 * i)), .ref (ad (24 + 5 * j)), .ref (ad (24 + 5 * t))]).toArray below meth c s.heap [] 0 0 (MQ below (va_Qi (fun r S' => r = bI true ∧ KA S S') (PX dC dI ad) (AX ad)) ([.ref (ad 56), .ref (ad (3 * i)), .ref (ad (24 + 5 * j)), .ref (ad (24 + 5 * t))]).toArray s 0 0 (AX ad)) (F0 m 0 ls [])
  have hK := KA_refl hI
  have h6 : (S.1 6).2.2 = (S.1 6).2.2 := rfl
  have h7 : (S.1 7).2.2 = (S.1 7).2.2 := rfl
  refine lv_aload_n hx hb dX0_isProductAlike_0 rfl (lv_at hl 0 rfl) ?_
  refine ka_gl hx hb hts hin0 hown hX (hts (.fieldLink RX0 21 "Orderlattice$Auditor" "left" "LOrderlattice$Row;") (tm 10 (by decide +kernel) rfl)) dX0_isProductAlike_1 ?_
  refine lv_aload_n hx hb dX0_isProductAlike_4 rfl (lv_at hl 1 rfl) ?_
  refine kx_cv (va_runV (As := [.ref (ad (3 * i))]) (rest := []) ⟨hx, hb, hml, hown, hts⟩ (m_X2_becomeCopyOf l dC dI ad S 6 i (by omega) (by omega) (hK.1.1 i (by omega)).1) (cwV 1 hts gX0_isProductAlike_X2_becomeCopyOf rfl rfl rfl hdX2_becomeCopyOf_1 ⟨Nat.le_of_ble_eq_true rfl, Nat.le_of_ble_eq_true rfl⟩) (hX.preRow (by omega)) rfl rfl hl.1 rfl (lv_room (Nat.le_of_ble_eq_true rfl)) dX0_isProductAlike_5 ⟨Nat.le_of_ble_eq_true rfl, Nat.le_of_ble_eq_true rfl⟩) hX (fun _ h => h) (fun S_1 H locs hw hX => ?_)
  replace h7 := (show (S_1.1 7).2.2 = (S.1 7).2.2 by rw [hw, xR_ne _ _ (by decide)]).trans h7
  replace h6 := (show (S_1.1 6).2.2 = (S.1 i).2.2 by rw [hw, xR_row]).trans (congrArg (fun r : RowS => r.2.2) (hK.2.2.1 i (by omega)))
  replace hK := (show KA S S_1 by rw [hw]; exact KA_row hK (by decide) (by decide) (rowOK_ovl (hK.1.1 6 (by omega)) (hK.1.1 i (by omega))))
  have FS_1 : FR S S_1 6 (rl (S.1 i)) := FR.copy hw
  clear hw
  refine lv_aload_n hx hb dX0_isProductAlike_8 rfl (lv_at hl 0 rfl) ?_
  refine ka_gs hx hb hts hin0 hown hX (hts (.fieldLink RX0 12 "Orderlattice$Auditor" "sorter" "LOrderlattice$Sorter;") (tm 6 (by decide +kernel) rfl)) dX0_isProductAlike_9 ?_
  refine lv_aload_n hx hb dX0_isProductAlike_12 rfl (lv_at hl 0 rfl) ?_
  refine ka_gl hx hb hts hin0 hown hX (hts (.fieldLink RX0 21 "Orderlattice$Auditor" "left" "LOrderlattice$Row;") (tm 10 (by decide +kernel) rfl)) dX0_isProductAlike_13 ?_
  refine lv_aload_n hx hb dX0_isProductAlike_16 rfl (lv_at hl 2 rfl) ?_
  refine lv_iconst (v := nI 0) hx hb dX0_isProductAlike_17 (by decide) ?_
  refine kx_cv (va_runV (As := [.ref (ad (3 * 6)), .ref (ad (24 + 5 * j)), .int (nI 0)]) (rest := []) ⟨hx, hb, hml, hown, hts⟩ (s_X3_arrangeAll l dC dI ad S_1 1 6 j 0 (by decide) (by omega) (by omega) (hK.1.1 6 (by omega)) (hK.1.2 j (by omega)) (by decide) (hK.1.1 5 (by decide)) (by omega)) (cwV 3 hts gX0_isProductAlike_X3_arrangeAll rfl rfl rfl hdX3_arrangeAll_3 ⟨Nat.le_of_ble_eq_true rfl, Nat.le_of_ble_eq_true rfl⟩) (hX.preSor (by omega)) rfl rfl hl.1 rfl (lv_room (Nat.le_of_ble_eq_true rfl)) dX0_isProductAlike_18 ⟨Nat.le_of_ble_eq_true rfl, Nat.le_of_ble_eq_true rfl⟩) hX (fun _ h => h) (fun S_2 H locs hw hX => ?_)
  obtain ⟨hw, hsp, hst⟩ := hw
  have FS_2 : FS S_1 S_2 6 j := FS.arr hw hsp hst
  replace h6 := hw.2.2.2.2.trans h6
  replace h7 := (show (S_2.1 7).2.2 = (S_1.1 7).2.2 by rw [hw.2.1 7 (by decide) (by decide)]).trans h7
  replace hK := KA_arr hK hw (by decide) (by decide)
  clear hw
  refine lv_aload_n hx hb dX0_isProductAlike_21 rfl (lv_at hl 0 rfl) ?_
  refine ka_gs hx hb hts hin0 hown hX (hts (.fieldLink RX0 12 "Orderlattice$Auditor" "sorter" "LOrderlattice$Sorter;") (tm 6 (by decide +kernel) rfl)) dX0_isProductAlike_22 ?_
  refine lv_aload_n hx hb dX0_isProductAlike_25 rfl (lv_at hl 0 rfl) ?_
  refine ka_gl hx hb hts hin0 hown hX (hts (.fieldLink RX0 21 "Orderlattice$Auditor" "left" "LOrderlattice$Row;") (tm 10 (by decide +kernel) rfl)) dX0_isProductAlike_26 ?_
  refine lv_aload_n hx hb dX0_isProductAlike_29 rfl (lv_at hl 3 rfl) ?_
  refine lv_iconst (v := nI 0) hx hb dX0_isProductAlike_30 (by decide) ?_
  refine kx_cv (va_runV (As := [.ref (ad (3 * 6)), .ref (ad (24 + 5 * t)), .int (nI 0)]) (rest := []) ⟨hx, hb, hml, hown, hts⟩ (s_X3_arrangeAll l dC dI ad S_2 1 6 t 0 (by decide) (by omega) (by omega) (hK.1.1 6 (by omega)) (hK.1.2 t (by omega)) (by decide) (hK.1.1 5 (by decide)) (by omega)) (cwV 3 hts gX0_isProductAlike_X3_arrangeAll rfl rfl rfl hdX3_arrangeAll_3 ⟨Nat.le_of_ble_eq_true rfl, Nat.le_of_ble_eq_true rfl⟩) (hX.preSor (by omega)) rfl rfl hl.1 rfl (lv_room (Nat.le_of_ble_eq_true rfl)) dX0_isProductAlike_31 ⟨Nat.le_of_ble_eq_true rfl, Nat.le_of_ble_eq_true rfl⟩) hX (fun _ h => h) (fun S_3 H locs hw hX => ?_)
  obtain ⟨hw, hsp, hst⟩ := hw
  have FS_3 : FS S_2 S_3 6 t := FS.arr hw hsp hst
  replace h6 := hw.2.2.2.2.trans h6
  replace h7 := (show (S_3.1 7).2.2 = (S_2.1 7).2.2 by rw [hw.2.1 7 (by decide) (by decide)]).trans h7
  replace hK := KA_arr hK hw (by decide) (by decide)
  clear hw
  refine lv_aload_n hx hb dX0_isProductAlike_34 rfl (lv_at hl 0 rfl) ?_
  refine ka_gm hx hb hts hin0 hown hX (hts (.fieldLink RX0 31 "Orderlattice$Auditor" "made" "LOrderlattice$Order;") (tm 15 (by decide +kernel) rfl)) dX0_isProductAlike_35 ?_
  refine lv_aload_n hx hb dX0_isProductAlike_38 rfl (lv_at hl 3 rfl) ?_
  refine lv_aload_n hx hb dX0_isProductAlike_39 rfl (lv_at hl 2 rfl) ?_
  refine kx_cv (va_runV (As := [.ref (ad (24 + 5 * t)), .ref (ad (24 + 5 * j))]) (rest := []) ⟨hx, hb, hml, hown, hts⟩ (m_X1_becomeProductOf l dC dI ad S_3 5 t j (by decide) (by omega) (by omega) (hK.1.2 5 (by decide)).1 (hK.1.2 t (by omega)).1 (hK.1.2 j (by omega)).1 (by omega) (by omega) (by rw [hK.2.2.2 t (by omega), hK.2.2.2 j (by omega)]; omega)) (cwV 2 hts gX0_isProductAlike_X1_becomeProductOf rfl rfl rfl hdX1_becomeProductOf_2 ⟨Nat.le_of_ble_eq_true rfl, Nat.le_of_ble_eq_true rfl⟩) (hX.preOrd (by omega)) rfl rfl hl.1 rfl (lv_room (Nat.le_of_ble_eq_true rfl)) dX0_isProductAlike_40 ⟨Nat.le_of_ble_eq_true rfl, Nat.le_of_ble_eq_true rfl⟩) hX (fun _ h => h) (fun S_4 H locs hw hX => ?_)
  have qa9 := (hK.1.2 t (by omega))
  have qb9 := (hK.1.2 j (by omega))
  replace h6 := (show (S_4.1 6).2.2 = (S_3.1 6).2.2 by rw [hw, xO_row]).trans h6
  replace h7 := (show (S_4.1 7).2.2 = (S_3.1 7).2.2 by rw [hw, xO_row]).trans h7
  replace hK := (show KA S S_4 by rw [hw]; exact KA_ord hK (newO_ok (stepOK_apn2 (D := fun _ => false) (c := fun _ => 0) (r := fun _ => 0) (cl := 0) (hK.1.2 5 (by decide)).1 (hK.1.2 t (by omega)).1 (hK.1.2 j (by omega)).1 (by rw [hK.2.2.2 t (by omega), hK.2.2.2 j (by omega)]; omega))))
  have FS_4 : FO S_3 S_4 (fun c => ∀ v, v < 16 → c v = (S_3.2.1 t).2.2.1 v * 16 ^ (S_3.2.1 j).2.2.2.2.1 + (S_3.2.1 j).2.2.1 v) := FO.prod hw (hK.1.2 5 (by decide)) qa9 qb9
  clear hw
  refine lv_aload_n hx hb dX0_isProductAlike_43 rfl (lv_at hl 0 rfl) ?_
  refine ka_gr hx hb hts hin0 hown hX (hts (.fieldLink RX0 25 "Orderlattice$Auditor" "right" "LOrderlattice$Row;") (tm 11 (by decide +kernel) rfl)) dX0_isProductAlike_44 ?_
  refine lv_aload_n hx hb dX0_isProductAlike_47 rfl (lv_at hl 1 rfl) ?_
  refine kx_cv (va_runV (As := [.ref (ad (3 * i))]) (rest := []) ⟨hx, hb, hml, hown, hts⟩ (m_X2_becomeCopyOf l dC dI ad S_4 7 i (by omega) (by omega) (hK.1.1 i (by omega)).1) (cwV 1 hts gX0_isProductAlike_X2_becomeCopyOf rfl rfl rfl hdX2_becomeCopyOf_1 ⟨Nat.le_of_ble_eq_true rfl, Nat.le_of_ble_eq_true rfl⟩) (hX.preRow (by omega)) rfl rfl hl.1 rfl (lv_room (Nat.le_of_ble_eq_true rfl)) dX0_isProductAlike_48 ⟨Nat.le_of_ble_eq_true rfl, Nat.le_of_ble_eq_true rfl⟩) hX (fun _ h => h) (fun S_5 H locs hw hX => ?_)
  replace h6 := (show (S_5.1 6).2.2 = (S_4.1 6).2.2 by rw [hw, xR_ne _ _ (by decide)]).trans h6
  replace h7 := (show (S_5.1 7).2.2 = (S_4.1 i).2.2 by rw [hw, xR_row]).trans (congrArg (fun r : RowS => r.2.2) (hK.2.2.1 i (by omega)))
  replace hK := (show KA S S_5 by rw [hw]; exact KA_row hK (by decide) (by decide) (rowOK_ovl (hK.1.1 7 (by omega)) (hK.1.1 i (by omega))))
  have FS_5 : FR S_4 S_5 7 (rl (S_4.1 i)) := FR.copy hw
  clear hw
  refine lv_aload_n hx hb dX0_isProductAlike_51 rfl (lv_at hl 0 rfl) ?_
  refine ka_gs hx hb hts hin0 hown hX (hts (.fieldLink RX0 12 "Orderlattice$Auditor" "sorter" "LOrderlattice$Sorter;") (tm 6 (by decide +kernel) rfl)) dX0_isProductAlike_52 ?_
  refine lv_aload_n hx hb dX0_isProductAlike_55 rfl (lv_at hl 0 rfl) ?_
  refine ka_gr hx hb hts hin0 hown hX (hts (.fieldLink RX0 25 "Orderlattice$Auditor" "right" "LOrderlattice$Row;") (tm 11 (by decide +kernel) rfl)) dX0_isProductAlike_56 ?_
  refine lv_aload_n hx hb dX0_isProductAlike_59 rfl (lv_at hl 0 rfl) ?_
  refine ka_gm hx hb hts hin0 hown hX (hts (.fieldLink RX0 31 "Orderlattice$Auditor" "made" "LOrderlattice$Order;") (tm 15 (by decide +kernel) rfl)) dX0_isProductAlike_60 ?_
  refine lv_iconst (v := nI 0) hx hb dX0_isProductAlike_63 (by decide) ?_
  refine kx_cv (va_runV (As := [.ref (ad (3 * 7)), .ref (ad (24 + 5 * 5)), .int (nI 0)]) (rest := []) ⟨hx, hb, hml, hown, hts⟩ (s_X3_arrangeAll l dC dI ad S_5 1 7 5 0 (by decide) (by omega) (by omega) (hK.1.1 7 (by omega)) (hK.1.2 5 (by omega)) (by decide) (hK.1.1 5 (by decide)) (by omega)) (cwV 3 hts gX0_isProductAlike_X3_arrangeAll rfl rfl rfl hdX3_arrangeAll_3 ⟨Nat.le_of_ble_eq_true rfl, Nat.le_of_ble_eq_true rfl⟩) (hX.preSor (by omega)) rfl rfl hl.1 rfl (lv_room (Nat.le_of_ble_eq_true rfl)) dX0_isProductAlike_64 ⟨Nat.le_of_ble_eq_true rfl, Nat.le_of_ble_eq_true rfl⟩) hX (fun _ h => h) (fun S_6 H locs hw hX => ?_)
  obtain ⟨hw, hsp, hst⟩ := hw
  have FS_6 : FS S_5 S_6 7 5 := FS.arr hw hsp hst
  replace h7 := hw.2.2.2.2.trans h7
  replace h6 := (show (S_6.1 6).2.2 = (S_5.1 6).2.2 by rw [hw.2.1 6 (by decide) (by decide)]).trans h6
  replace hK := KA_arr hK hw (by decide) (by decide)
  clear hw
  refine lv_aload_n hx hb dX0_isProductAlike_67 rfl (lv_at hl 0 rfl) ?_
  refine ka_gl hx hb hts hin0 hown hX (hts (.fieldLink RX0 21 "Orderlattice$Auditor" "left" "LOrderlattice$Row;") (tm 10 (by decide +kernel) rfl)) dX0_isProductAlike_68 ?_
  refine lv_aload_n hx hb dX0_isProductAlike_71 rfl (lv_at hl 0 rfl) ?_
  refine ka_gr hx hb hts hin0 hown hX (hts (.fieldLink RX0 25 "Orderlattice$Auditor" "right" "LOrderlattice$Row;") (tm 11 (by decide +kernel) rfl)) dX0_isProductAlike_72 ?_
  refine kx_cr (v := bI (decide ((S_6.1 6).2.2 = (S_6.1 7).2.2 ∧ ∀ k, k < (S_6.1 6).2.2 → (S_6.1 6).2.1 k = (S_6.1 7).2.1 k ∧ (S_6.1 6).1 k = (S_6.1 7).1 k))) (va_runV (As := [.ref (ad (3 * 7))]) (rest := []) ⟨hx, hb, hml, hown, hts⟩ (m_X2_isLike l dC dI ad S_6 6 7 (by omega) (by omega) (hK.1.1 6 (by omega)) (hK.1.1 7 (by omega))) (cwV 1 hts gX0_isProductAlike_X2_isLike rfl rfl rfl hdX2_isLike_1 ⟨Nat.le_of_ble_eq_true rfl, Nat.le_of_ble_eq_true rfl⟩) (hX.preRow (by omega)) rfl rfl hl.1 rfl (lv_room (Nat.le_of_ble_eq_true rfl)) dX0_isProductAlike_75 ⟨Nat.le_of_ble_eq_true rfl, Nat.le_of_ble_eq_true rfl⟩) (fun _ h => h) ?_
  have hlk := prod_ok hi (hI.1 i (by omega)) (hI.2 j (by omega)) FS_1 FS_2 FS_3 FS_4 FS_5 FS_6
  have hlike := like_ok hlk
  exact W.zret (v := bI (decide ((S_6.1 6).2.2 = (S_6.1 7).2.2 ∧ ∀ k, k < (S_6.1 6).2.2 → (S_6.1 6).2.1 k = (S_6.1 7).2.1 k ∧ (S_6.1 6).1 k = (S_6.1 7).1 k))) hx hb hr (bI_narrow _) (fun t9 ht9 hW9 => ⟨⟨_, S_6, rfl, ⟨congrArg bI hlike, hK⟩, hX.P ht9 hW9⟩, hX.2.2.2.F ht9⟩) hX.2.2.2.2.2 dX0_isProductAlike_78
set_option maxHeartbeats 4000000 in
set_option maxRecDepth 100000 in
theorem u_X0_staysSorted (l : Launch) (dC : Nat → ClassId) (dI : Nat → Nat → Nat) (ad : Nat → Nat) (S : XS) (i j : Nat) (hi : i < 5) (hj : j < 5) (hI : InvX S) : Met l yX0_staysSorted wsX0_staysSorted ({ frames := 4, cells := 0, slots := 0, locals := 105 } : Room) (va_Pc [.ref (ad 56), .ref (ad (3 * i)), .ref (ad (24 + 5 * j))] (PX dC dI ad S)) (va_Qi (fun r S' => r = bI true ∧ KA S S') (PX dC dI ad) (AX ad)) 0 0 (AX ad) := by
  refine Met.ofW (cc := cX0_staysSorted) (maxL := 3) (ret := (some .boolean)) pl_X0 rfl ?_
  intro p e s m args below meth c s₁ B hml hv
  obtain ⟨rfl, hPX⟩ := hv
  have hx := B.exec
  have hb := B.bytes
  have hr := B.returns
  have hts := atoms_spec (ws := wsX0_staysSorted) B.pre
  have hown : s.vm.findClass RX0 = some m.cls := findClass_of_methodNamed B.named
  have hlocks := B.notSynchronized
  have hin0 : ∀ w ∈ u_ws RX0 TX0 4, w ∈ wsX0_staysSorted := tu 1325 (by decide +kernel) rfl
  have hX := WX.of hPX
  have hl := lv_entry ([.ref (ad 56), .ref (ad (3 * i)), .ref (ad (24 + 5 * j))]) (n := 3) (Nat.le_of_ble_eq_true rfl)
  rw [lg_entry_eq]
  generalize (lg_sl ([.ref (ad 56), .ref (ad (3 * i)), .ref (ad (24 + 5 * j))]) ++ List.replicate (3 - (lg_sl ([.ref (ad 56), .ref (ad (3 * i)), .ref (ad (24 + 5 * j))])).length) Slot.unset).toArray = ls at hl ⊢
  have hl : lv_has ls 3 [(0, .ref (ad 56)), (1, .ref (ad (3 * i))), (2, .ref (ad (24 + 5 * j)))] := hl
  show W p l e ({ frames := 4, cells := 0, slots := 0, locals := 105 } : Room) s m ([.ref (ad 56), .ref (ad (3 * i)), .ref (ad (24 + 5 * j))]).toArray below meth c s.heap [] 0 0 (MQ below (va_Qi (fun r S' => r = bI true ∧ KA S S') (PX dC dI ad) (AX ad)) ([.ref (ad 56), .ref (ad (3 * i)), .ref (ad (24 + 5 * j))]).toArray s 0 0 (AX ad)) (F0 m 0 ls [])
  have hK := KA_refl hI
  have h6 : (S.1 6).2.2 = (S.1 6).2.2 := rfl
  have h7 : (S.1 7).2.2 = (S.1 7).2.2 := rfl
  refine lv_aload_n hx hb dX0_staysSorted_0 rfl (lv_at hl 0 rfl) ?_
  refine ka_gl hx hb hts hin0 hown hX (hts (.fieldLink RX0 21 "Orderlattice$Auditor" "left" "LOrderlattice$Row;") (tm 10 (by decide +kernel) rfl)) dX0_staysSorted_1 ?_
  refine lv_aload_n hx hb dX0_staysSorted_4 rfl (lv_at hl 1 rfl) ?_
  refine kx_cv (va_runV (As := [.ref (ad (3 * i))]) (rest := []) ⟨hx, hb, hml, hown, hts⟩ (m_X2_becomeCopyOf l dC dI ad S 6 i (by omega) (by omega) (hK.1.1 i (by omega)).1) (cwV 1 hts gX0_staysSorted_X2_becomeCopyOf rfl rfl rfl hdX2_becomeCopyOf_1 ⟨Nat.le_of_ble_eq_true rfl, Nat.le_of_ble_eq_true rfl⟩) (hX.preRow (by omega)) rfl rfl hl.1 rfl (lv_room (Nat.le_of_ble_eq_true rfl)) dX0_staysSorted_5 ⟨Nat.le_of_ble_eq_true rfl, Nat.le_of_ble_eq_true rfl⟩) hX (fun _ h => h) (fun S_1 H locs hw hX => ?_)
  replace h7 := (show (S_1.1 7).2.2 = (S.1 7).2.2 by rw [hw, xR_ne _ _ (by decide)]).trans h7
  replace h6 := (show (S_1.1 6).2.2 = (S.1 i).2.2 by rw [hw, xR_row]).trans (congrArg (fun r : RowS => r.2.2) (hK.2.2.1 i (by omega)))
  replace hK := (show KA S S_1 by rw [hw]; exact KA_row hK (by decide) (by decide) (rowOK_ovl (hK.1.1 6 (by omega)) (hK.1.1 i (by omega))))
  have FS_1 : FR S S_1 6 (rl (S.1 i)) := FR.copy hw
  clear hw
  refine lv_aload_n hx hb dX0_staysSorted_8 rfl (lv_at hl 0 rfl) ?_
  refine ka_gs hx hb hts hin0 hown hX (hts (.fieldLink RX0 12 "Orderlattice$Auditor" "sorter" "LOrderlattice$Sorter;") (tm 6 (by decide +kernel) rfl)) dX0_staysSorted_9 ?_
  refine lv_aload_n hx hb dX0_staysSorted_12 rfl (lv_at hl 0 rfl) ?_
  refine ka_gl hx hb hts hin0 hown hX (hts (.fieldLink RX0 21 "Orderlattice$Auditor" "left" "LOrderlattice$Row;") (tm 10 (by decide +kernel) rfl)) dX0_staysSorted_13 ?_
  refine lv_aload_n hx hb dX0_staysSorted_16 rfl (lv_at hl 2 rfl) ?_
  refine lv_iconst (v := nI 0) hx hb dX0_staysSorted_17 (by decide) ?_
  refine kx_cv (va_runV (As := [.ref (ad (3 * 6)), .ref (ad (24 + 5 * j)), .int (nI 0)]) (rest := []) ⟨hx, hb, hml, hown, hts⟩ (s_X3_arrangeAll l dC dI ad S_1 1 6 j 0 (by decide) (by omega) (by omega) (hK.1.1 6 (by omega)) (hK.1.2 j (by omega)) (by decide) (hK.1.1 5 (by decide)) (by omega)) (cwV 3 hts gX0_staysSorted_X3_arrangeAll rfl rfl rfl hdX3_arrangeAll_3 ⟨Nat.le_of_ble_eq_true rfl, Nat.le_of_ble_eq_true rfl⟩) (hX.preSor (by omega)) rfl rfl hl.1 rfl (lv_room (Nat.le_of_ble_eq_true rfl)) dX0_staysSorted_18 ⟨Nat.le_of_ble_eq_true rfl, Nat.le_of_ble_eq_true rfl⟩) hX (fun _ h => h) (fun S_2 H locs hw hX => ?_)
  obtain ⟨hw, hsp, hst⟩ := hw
  have FS_2 : FS S_1 S_2 6 j := FS.arr hw hsp hst
  replace h6 := hw.2.2.2.2.trans h6
  replace h7 := (show (S_2.1 7).2.2 = (S_1.1 7).2.2 by rw [hw.2.1 7 (by decide) (by decide)]).trans h7
  replace hK := KA_arr hK hw (by decide) (by decide)
  clear hw
  refine lv_aload_n hx hb dX0_staysSorted_21 rfl (lv_at hl 0 rfl) ?_
  refine ka_gr hx hb hts hin0 hown hX (hts (.fieldLink RX0 25 "Orderlattice$Auditor" "right" "LOrderlattice$Row;") (tm 11 (by decide +kernel) rfl)) dX0_staysSorted_22 ?_
  refine lv_aload_n hx hb dX0_staysSorted_25 rfl (lv_at hl 0 rfl) ?_
  refine ka_gl hx hb hts hin0 hown hX (hts (.fieldLink RX0 21 "Orderlattice$Auditor" "left" "LOrderlattice$Row;") (tm 10 (by decide +kernel) rfl)) dX0_staysSorted_26 ?_
  refine kx_cv (va_runV (As := [.ref (ad (3 * 6))]) (rest := []) ⟨hx, hb, hml, hown, hts⟩ (m_X2_becomeCopyOf l dC dI ad S_2 7 6 (by omega) (by omega) (hK.1.1 6 (by omega)).1) (cwV 1 hts gX0_staysSorted_X2_becomeCopyOf rfl rfl rfl hdX2_becomeCopyOf_1 ⟨Nat.le_of_ble_eq_true rfl, Nat.le_of_ble_eq_true rfl⟩) (hX.preRow (by omega)) rfl rfl hl.1 rfl (lv_room (Nat.le_of_ble_eq_true rfl)) dX0_staysSorted_29 ⟨Nat.le_of_ble_eq_true rfl, Nat.le_of_ble_eq_true rfl⟩) hX (fun _ h => h) (fun S_3 H locs hw hX => ?_)
  replace h7 := (show (S_3.1 7).2.2 = (S_2.1 6).2.2 by rw [hw, xR_row]).trans h6
  replace h6 := (show (S_3.1 6).2.2 = (S_2.1 6).2.2 by rw [hw, xR_ne _ _ (by decide)]).trans h6
  replace hK := (show KA S S_3 by rw [hw]; exact KA_row hK (by decide) (by decide) (rowOK_ovl (hK.1.1 7 (by omega)) (hK.1.1 6 (by omega))))
  have FS_3 : FR S_2 S_3 7 (rl (S_2.1 6)) := FR.copy hw
  clear hw
  refine lv_aload_n hx hb dX0_staysSorted_32 rfl (lv_at hl 0 rfl) ?_
  refine ka_gs hx hb hts hin0 hown hX (hts (.fieldLink RX0 12 "Orderlattice$Auditor" "sorter" "LOrderlattice$Sorter;") (tm 6 (by decide +kernel) rfl)) dX0_staysSorted_33 ?_
  refine lv_aload_n hx hb dX0_staysSorted_36 rfl (lv_at hl 0 rfl) ?_
  refine ka_gr hx hb hts hin0 hown hX (hts (.fieldLink RX0 25 "Orderlattice$Auditor" "right" "LOrderlattice$Row;") (tm 11 (by decide +kernel) rfl)) dX0_staysSorted_37 ?_
  refine lv_aload_n hx hb dX0_staysSorted_40 rfl (lv_at hl 2 rfl) ?_
  refine lv_iconst (v := nI 0) hx hb dX0_staysSorted_41 (by decide) ?_
  refine kx_cv (va_runV (As := [.ref (ad (3 * 7)), .ref (ad (24 + 5 * j)), .int (nI 0)]) (rest := []) ⟨hx, hb, hml, hown, hts⟩ (s_X3_arrangeAll l dC dI ad S_3 1 7 j 0 (by decide) (by omega) (by omega) (hK.1.1 7 (by omega)) (hK.1.2 j (by omega)) (by decide) (hK.1.1 5 (by decide)) (by omega)) (cwV 3 hts gX0_staysSorted_X3_arrangeAll rfl rfl rfl hdX3_arrangeAll_3 ⟨Nat.le_of_ble_eq_true rfl, Nat.le_of_ble_eq_true rfl⟩) (hX.preSor (by omega)) rfl rfl hl.1 rfl (lv_room (Nat.le_of_ble_eq_true rfl)) dX0_staysSorted_42 ⟨Nat.le_of_ble_eq_true rfl, Nat.le_of_ble_eq_true rfl⟩) hX (fun _ h => h) (fun S_4 H locs hw hX => ?_)
  obtain ⟨hw, hsp, hst⟩ := hw
  have FS_4 : FS S_3 S_4 7 j := FS.arr hw hsp hst
  replace h7 := hw.2.2.2.2.trans h7
  replace h6 := (show (S_4.1 6).2.2 = (S_3.1 6).2.2 by rw [hw.2.1 6 (by decide) (by decide)]).trans h6
  replace hK := KA_arr hK hw (by decide) (by decide)
  clear hw
  refine lv_aload_n hx hb dX0_staysSorted_45 rfl (lv_at hl 0 rfl) ?_
  refine ka_gl hx hb hts hin0 hown hX (hts (.fieldLink RX0 21 "Orderlattice$Auditor" "left" "LOrderlattice$Row;") (tm 10 (by decide +kernel) rfl)) dX0_staysSorted_46 ?_
  refine lv_aload_n hx hb dX0_staysSorted_49 rfl (lv_at hl 2 rfl) ?_
  refine kx_cr (v := bI (seqB (S_4.2.1 j).2.2.1 (S_4.1 6).1 (S_4.1 6).2.2)) (va_runV (As := [.ref (ad (24 + 5 * j))]) (rest := []) ⟨hx, hb, hml, hown, hts⟩ (m_X2_isInSequenceBy l dC dI ad S_4 6 j (by omega) (by omega) (hK.1.1 6 (by omega)) (hK.1.2 j (by omega))) (cwV 1 hts gX0_staysSorted_X2_isInSequenceBy rfl rfl rfl hdX2_isInSequenceBy_1 ⟨Nat.le_of_ble_eq_true rfl, Nat.le_of_ble_eq_true rfl⟩) (hX.preRow (by omega)) rfl rfl hl.1 rfl (lv_room (Nat.le_of_ble_eq_true rfl)) dX0_staysSorted_50 ⟨Nat.le_of_ble_eq_true rfl, Nat.le_of_ble_eq_true rfl⟩) (fun _ h => h) ?_
  have hst9 := stays_ok FS_1 FS_2 FS_3 FS_4
  have hseq := seq_ok hst9.1
  have hlike := like_ok hst9.2
  refine kb_if_eq (tgt := 74) hx hb dX0_staysSorted_53 (by decide) (fun k_5 => absurd (hseq.symm.trans k_5) (by decide)) (fun k_5 => ?_)
  refine lv_aload_n hx hb dX0_staysSorted_56 rfl (lv_at hl 0 rfl) ?_
  refine ka_gl hx hb hts hin0 hown hX (hts (.fieldLink RX0 21 "Orderlattice$Auditor" "left" "LOrderlattice$Row;") (tm 10 (by decide +kernel) rfl)) dX0_staysSorted_57 ?_
  refine lv_aload_n hx hb dX0_staysSorted_60 rfl (lv_at hl 0 rfl) ?_
  refine ka_gr hx hb hts hin0 hown hX (hts (.fieldLink RX0 25 "Orderlattice$Auditor" "right" "LOrderlattice$Row;") (tm 11 (by decide +kernel) rfl)) dX0_staysSorted_61 ?_
  refine kx_cr (v := bI (decide ((S_4.1 6).2.2 = (S_4.1 7).2.2 ∧ ∀ k, k < (S_4.1 6).2.2 → (S_4.1 6).2.1 k = (S_4.1 7).2.1 k ∧ (S_4.1 6).1 k = (S_4.1 7).1 k))) (va_runV (As := [.ref (ad (3 * 7))]) (rest := []) ⟨hx, hb, hml, hown, hts⟩ (m_X2_isLike l dC dI ad S_4 6 7 (by omega) (by omega) (hK.1.1 6 (by omega)) (hK.1.1 7 (by omega))) (cwV 1 hts gX0_staysSorted_X2_isLike rfl rfl rfl hdX2_isLike_1 ⟨Nat.le_of_ble_eq_true rfl, Nat.le_of_ble_eq_true rfl⟩) (hX.preRow (by omega)) rfl rfl hl.1 rfl (lv_room (Nat.le_of_ble_eq_true rfl)) dX0_staysSorted_64 ⟨Nat.le_of_ble_eq_true rfl, Nat.le_of_ble_eq_true rfl⟩) (fun _ h => h) ?_
  refine kb_if_eq (tgt := 74) hx hb dX0_staysSorted_67 (by decide) (fun k_6 => absurd (hlike.symm.trans k_6) (by decide)) (fun k_6 => ?_)
  refine lv_iconst (v := bI true) hx hb dX0_staysSorted_70 (by decide) ?_
  refine lv_goto (tgt := 75) hx hb dX0_staysSorted_71 (by decide) ?_
  exact W.zret (v := bI true) hx hb hr (bI_narrow _) (fun t9 ht9 hW9 => ⟨⟨_, S_4, rfl, ⟨rfl, hK⟩, hX.P ht9 hW9⟩, hX.2.2.2.F ht9⟩) hX.2.2.2.2.2 dX0_staysSorted_75
set_option maxHeartbeats 4000000 in
set_option maxRecDepth 100000 in
theorem u_X0_isTurnedAlike (l : Launch) (dC : Nat → ClassId) (dI : Nat → Nat → Nat) (ad : Nat → Nat) (S : XS) (i j : Nat) (hi : i < 5) (hj : j < 5) (hI : InvX S) : Met l yX0_isTurnedAlike wsX0_isTurnedAlike ({ frames := 4, cells := 0, slots := 0, locals := 105 } : Room) (va_Pc [.ref (ad 56), .ref (ad (3 * i)), .ref (ad (24 + 5 * j))] (PX dC dI ad S)) (va_Qi (fun r S' => r = bI true ∧ KA S S') (PX dC dI ad) (AX ad)) 0 0 (AX ad) := by
  refine Met.ofW (cc := cX0_isTurnedAlike) (maxL := 3) (ret := (some .boolean)) pl_X0 rfl ?_
  intro p e s m args below meth c s₁ B hml hv
  obtain ⟨rfl, hPX⟩ := hv
  have hx := B.exec
  have hb := B.bytes
  have hr := B.returns
  have hts := atoms_spec (ws := wsX0_isTurnedAlike) B.pre
  have hown : s.vm.findClass RX0 = some m.cls := findClass_of_methodNamed B.named
  have hlocks := B.notSynchronized
  have hin0 : ∀ w ∈ u_ws RX0 TX0 4, w ∈ wsX0_isTurnedAlike := tu 1325 (by decide +kernel) rfl
  have hX := WX.of hPX
  have hl := lv_entry ([.ref (ad 56), .ref (ad (3 * i)), .ref (ad (24 + 5 * j))]) (n := 3) (Nat.le_of_ble_eq_true rfl)
  rw [lg_entry_eq]
  generalize (lg_sl ([.ref (ad 56), .ref (ad (3 * i)), .ref (ad (24 + 5 * j))]) ++ List.replicate (3 - (lg_sl ([.ref (ad 56), .ref (ad (3 * i)), .ref (ad (24 + 5 * j))])).length) Slot.unset).toArray = ls at hl ⊢
  have hl : lv_has ls 3 [(0, .ref (ad 56)), (1, .ref (ad (3 * i))), (2, .ref (ad (24 + 5 * j)))] := hl
  show W p l e ({ frames := 4, cells := 0, slots := 0, locals := 105 } : Room) s m ([.ref (ad 56), .ref (ad (3 * i)), .ref (ad (24 + 5 * j))]).toArray below meth c s.heap [] 0 0 (MQ below (va_Qi (fun r S' => r = bI true ∧ KA S S') (PX dC dI ad) (AX ad)) ([.ref (ad 56), .ref (ad (3 * i)), .ref (ad (24 + 5 * j))]).toArray s 0 0 (AX ad)) (F0 m 0 ls [])
  have hK := KA_refl hI
  have h6 : (S.1 6).2.2 = (S.1 6).2.2 := rfl
  have h7 : (S.1 7).2.2 = (S.1 7).2.2 := rfl
  refine lv_aload_n hx hb dX0_isTurnedAlike_0 rfl (lv_at hl 0 rfl) ?_
  refine ka_gl hx hb hts hin0 hown hX (hts (.fieldLink RX0 21 "Orderlattice$Auditor" "left" "LOrderlattice$Row;") (tm 10 (by decide +kernel) rfl)) dX0_isTurnedAlike_1 ?_
  refine lv_aload_n hx hb dX0_isTurnedAlike_4 rfl (lv_at hl 1 rfl) ?_
  refine kx_cv (va_runV (As := [.ref (ad (3 * i))]) (rest := []) ⟨hx, hb, hml, hown, hts⟩ (m_X2_becomeCopyOf l dC dI ad S 6 i (by omega) (by omega) (hK.1.1 i (by omega)).1) (cwV 1 hts gX0_isTurnedAlike_X2_becomeCopyOf rfl rfl rfl hdX2_becomeCopyOf_1 ⟨Nat.le_of_ble_eq_true rfl, Nat.le_of_ble_eq_true rfl⟩) (hX.preRow (by omega)) rfl rfl hl.1 rfl (lv_room (Nat.le_of_ble_eq_true rfl)) dX0_isTurnedAlike_5 ⟨Nat.le_of_ble_eq_true rfl, Nat.le_of_ble_eq_true rfl⟩) hX (fun _ h => h) (fun S_1 H locs hw hX => ?_)
  replace h7 := (show (S_1.1 7).2.2 = (S.1 7).2.2 by rw [hw, xR_ne _ _ (by decide)]).trans h7
  replace h6 := (show (S_1.1 6).2.2 = (S.1 i).2.2 by rw [hw, xR_row]).trans (congrArg (fun r : RowS => r.2.2) (hK.2.2.1 i (by omega)))
  replace hK := (show KA S S_1 by rw [hw]; exact KA_row hK (by decide) (by decide) (rowOK_ovl (hK.1.1 6 (by omega)) (hK.1.1 i (by omega))))
  have FS_1 : FR S S_1 6 (rl (S.1 i)) := FR.copy hw
  clear hw
  refine lv_aload_n hx hb dX0_isTurnedAlike_8 rfl (lv_at hl 0 rfl) ?_
  refine ka_gl hx hb hts hin0 hown hX (hts (.fieldLink RX0 21 "Orderlattice$Auditor" "left" "LOrderlattice$Row;") (tm 10 (by decide +kernel) rfl)) dX0_isTurnedAlike_9 ?_
  refine kx_cv (va_runV (As := []) (rest := []) ⟨hx, hb, hml, hown, hts⟩ (m_X2_reverse l dC dI ad S_1 6 (by omega) (hK.1.1 6 (by omega)).1) (cwV 0 hts gX0_isTurnedAlike_X2_reverse rfl rfl rfl hdX2_reverse_0 ⟨Nat.le_of_ble_eq_true rfl, Nat.le_of_ble_eq_true rfl⟩) (hX.preRow (by omega)) rfl rfl hl.1 rfl (lv_room (Nat.le_of_ble_eq_true rfl)) dX0_isTurnedAlike_12 ⟨Nat.le_of_ble_eq_true rfl, Nat.le_of_ble_eq_true rfl⟩) hX (fun _ h => h) (fun S_2 H locs hw hX => ?_)
  replace h6 := (show (S_2.1 6).2.2 = (S_1.1 6).2.2 by rw [hw, xR_row]).trans h6
  replace h7 := (show (S_2.1 7).2.2 = (S_1.1 7).2.2 by rw [hw, xR_ne _ _ (by decide)]).trans h7
  replace hK := (show KA S S_2 by rw [hw]; exact KA_row hK (by decide) (by decide) (rowOK_rev (hK.1.1 6 (by omega))))
  have FS_2 : FR S_1 S_2 6 (rl (S_1.1 6)).reverse := FR.rev hw
  clear hw
  refine lv_aload_n hx hb dX0_isTurnedAlike_15 rfl (lv_at hl 0 rfl) ?_
  refine ka_gs hx hb hts hin0 hown hX (hts (.fieldLink RX0 12 "Orderlattice$Auditor" "sorter" "LOrderlattice$Sorter;") (tm 6 (by decide +kernel) rfl)) dX0_isTurnedAlike_16 ?_
  refine lv_aload_n hx hb dX0_isTurnedAlike_19 rfl (lv_at hl 0 rfl) ?_
  refine ka_gl hx hb hts hin0 hown hX (hts (.fieldLink RX0 21 "Orderlattice$Auditor" "left" "LOrderlattice$Row;") (tm 10 (by decide +kernel) rfl)) dX0_isTurnedAlike_20 ?_
  refine lv_aload_n hx hb dX0_isTurnedAlike_23 rfl (lv_at hl 2 rfl) ?_
  refine lv_iconst (v := nI 0) hx hb dX0_isTurnedAlike_24 (by decide) ?_
  refine kx_cv (va_runV (As := [.ref (ad (3 * 6)), .ref (ad (24 + 5 * j)), .int (nI 0)]) (rest := []) ⟨hx, hb, hml, hown, hts⟩ (s_X3_arrangeAll l dC dI ad S_2 1 6 j 0 (by decide) (by omega) (by omega) (hK.1.1 6 (by omega)) (hK.1.2 j (by omega)) (by decide) (hK.1.1 5 (by decide)) (by omega)) (cwV 3 hts gX0_isTurnedAlike_X3_arrangeAll rfl rfl rfl hdX3_arrangeAll_3 ⟨Nat.le_of_ble_eq_true rfl, Nat.le_of_ble_eq_true rfl⟩) (hX.preSor (by omega)) rfl rfl hl.1 rfl (lv_room (Nat.le_of_ble_eq_true rfl)) dX0_isTurnedAlike_25 ⟨Nat.le_of_ble_eq_true rfl, Nat.le_of_ble_eq_true rfl⟩) hX (fun _ h => h) (fun S_3 H locs hw hX => ?_)
  obtain ⟨hw, hsp, hst⟩ := hw
  have FS_3 : FS S_2 S_3 6 j := FS.arr hw hsp hst
  replace h6 := hw.2.2.2.2.trans h6
  replace h7 := (show (S_3.1 7).2.2 = (S_2.1 7).2.2 by rw [hw.2.1 7 (by decide) (by decide)]).trans h7
  replace hK := KA_arr hK hw (by decide) (by decide)
  clear hw
  refine lv_aload_n hx hb dX0_isTurnedAlike_28 rfl (lv_at hl 0 rfl) ?_
  refine ka_gl hx hb hts hin0 hown hX (hts (.fieldLink RX0 21 "Orderlattice$Auditor" "left" "LOrderlattice$Row;") (tm 10 (by decide +kernel) rfl)) dX0_isTurnedAlike_29 ?_
  refine kx_cv (va_runV (As := []) (rest := []) ⟨hx, hb, hml, hown, hts⟩ (m_X2_reverse l dC dI ad S_3 6 (by omega) (hK.1.1 6 (by omega)).1) (cwV 0 hts gX0_isTurnedAlike_X2_reverse rfl rfl rfl hdX2_reverse_0 ⟨Nat.le_of_ble_eq_true rfl, Nat.le_of_ble_eq_true rfl⟩) (hX.preRow (by omega)) rfl rfl hl.1 rfl (lv_room (Nat.le_of_ble_eq_true rfl)) dX0_isTurnedAlike_32 ⟨Nat.le_of_ble_eq_true rfl, Nat.le_of_ble_eq_true rfl⟩) hX (fun _ h => h) (fun S_4 H locs hw hX => ?_)
  replace h6 := (show (S_4.1 6).2.2 = (S_3.1 6).2.2 by rw [hw, xR_row]).trans h6
  replace h7 := (show (S_4.1 7).2.2 = (S_3.1 7).2.2 by rw [hw, xR_ne _ _ (by decide)]).trans h7
  replace hK := (show KA S S_4 by rw [hw]; exact KA_row hK (by decide) (by decide) (rowOK_rev (hK.1.1 6 (by omega))))
  have FS_4 : FR S_3 S_4 6 (rl (S_3.1 6)).reverse := FR.rev hw
  clear hw
  refine lv_aload_n hx hb dX0_isTurnedAlike_35 rfl (lv_at hl 0 rfl) ?_
  refine ka_gm hx hb hts hin0 hown hX (hts (.fieldLink RX0 31 "Orderlattice$Auditor" "made" "LOrderlattice$Order;") (tm 15 (by decide +kernel) rfl)) dX0_isTurnedAlike_36 ?_
  refine lv_aload_n hx hb dX0_isTurnedAlike_39 rfl (lv_at hl 2 rfl) ?_
  refine kx_cv (va_runV (As := [.ref (ad (24 + 5 * j))]) (rest := []) ⟨hx, hb, hml, hown, hts⟩ (m_X1_becomeCopyOf l dC dI ad S_4 5 j (by decide) (by omega) (hK.1.2 5 (by decide)).1 (hK.1.2 j (by omega)).1) (cwV 1 hts gX0_isTurnedAlike_X1_becomeCopyOf rfl rfl rfl hdX1_becomeCopyOf_1 ⟨Nat.le_of_ble_eq_true rfl, Nat.le_of_ble_eq_true rfl⟩) (hX.preOrd (by omega)) rfl rfl hl.1 rfl (lv_room (Nat.le_of_ble_eq_true rfl)) dX0_isTurnedAlike_40 ⟨Nat.le_of_ble_eq_true rfl, Nat.le_of_ble_eq_true rfl⟩) hX (fun _ h => h) (fun S_5 H locs hw hX => ?_)
  have qa9 := (hK.1.2 j (by omega))
  replace h6 := (show (S_5.1 6).2.2 = (S_4.1 6).2.2 by rw [hw, xO_row]).trans h6
  replace h7 := (show (S_5.1 7).2.2 = (S_4.1 7).2.2 by rw [hw, xO_row]).trans h7
  replace hK := (show KA S S_5 by rw [hw]; exact KA_ord hK (newO_ok (stepOK_apn0 (D := fun _ => false) (c := fun _ => 0) (r := fun _ => 0) (cl := 0) (hK.1.2 5 (by decide)).1 (hK.1.2 j (by omega)).1)))
  have FS_5 : FO S_4 S_5 (fun c => ∀ v, v < 16 → c v = (S_4.2.1 j).2.2.1 v) := FO.copy hw (hK.1.2 5 (by decide)) qa9
  clear hw
  refine lv_aload_n hx hb dX0_isTurnedAlike_43 rfl (lv_at hl 0 rfl) ?_
  refine ka_gm hx hb hts hin0 hown hX (hts (.fieldLink RX0 31 "Orderlattice$Auditor" "made" "LOrderlattice$Order;") (tm 15 (by decide +kernel) rfl)) dX0_isTurnedAlike_44 ?_
  refine kx_cv (va_runV (As := []) (rest := []) ⟨hx, hb, hml, hown, hts⟩ (m_X1_reverse l dC dI ad S_5 5 (by decide) (hK.1.2 5 (by decide)).1) (cwV 0 hts gX0_isTurnedAlike_X1_reverse rfl rfl rfl hdX1_reverse_0 ⟨Nat.le_of_ble_eq_true rfl, Nat.le_of_ble_eq_true rfl⟩) (hX.preOrd (by omega)) rfl rfl hl.1 rfl (lv_room (Nat.le_of_ble_eq_true rfl)) dX0_isTurnedAlike_47 ⟨Nat.le_of_ble_eq_true rfl, Nat.le_of_ble_eq_true rfl⟩) hX (fun _ h => h) (fun S_6 H locs hw hX => ?_)
  have qa9 := (hK.1.2 5 (by omega))
  replace h6 := (show (S_6.1 6).2.2 = (S_5.1 6).2.2 by rw [hw, xO_row]).trans h6
  replace h7 := (show (S_6.1 7).2.2 = (S_5.1 7).2.2 by rw [hw, xO_row]).trans h7
  replace hK := (show KA S S_6 by rw [hw]; exact KA_ord hK (newO_ok (hK.1.2 5 (by decide)).1))
  have FS_6 : FO S_5 S_6 (fun c => ∀ v, v < 16 → c v + (S_5.2.1 5).2.2.1 v + 1 = 16 ^ (S_5.2.1 5).2.2.2.2.1) := FO.rev hw (hK.1.2 5 (by decide)) qa9
  clear hw
  refine lv_aload_n hx hb dX0_isTurnedAlike_50 rfl (lv_at hl 0 rfl) ?_
  refine ka_gr hx hb hts hin0 hown hX (hts (.fieldLink RX0 25 "Orderlattice$Auditor" "right" "LOrderlattice$Row;") (tm 11 (by decide +kernel) rfl)) dX0_isTurnedAlike_51 ?_
  refine lv_aload_n hx hb dX0_isTurnedAlike_54 rfl (lv_at hl 1 rfl) ?_
  refine kx_cv (va_runV (As := [.ref (ad (3 * i))]) (rest := []) ⟨hx, hb, hml, hown, hts⟩ (m_X2_becomeCopyOf l dC dI ad S_6 7 i (by omega) (by omega) (hK.1.1 i (by omega)).1) (cwV 1 hts gX0_isTurnedAlike_X2_becomeCopyOf rfl rfl rfl hdX2_becomeCopyOf_1 ⟨Nat.le_of_ble_eq_true rfl, Nat.le_of_ble_eq_true rfl⟩) (hX.preRow (by omega)) rfl rfl hl.1 rfl (lv_room (Nat.le_of_ble_eq_true rfl)) dX0_isTurnedAlike_55 ⟨Nat.le_of_ble_eq_true rfl, Nat.le_of_ble_eq_true rfl⟩) hX (fun _ h => h) (fun S_7 H locs hw hX => ?_)
  replace h6 := (show (S_7.1 6).2.2 = (S_6.1 6).2.2 by rw [hw, xR_ne _ _ (by decide)]).trans h6
  replace h7 := (show (S_7.1 7).2.2 = (S_6.1 i).2.2 by rw [hw, xR_row]).trans (congrArg (fun r : RowS => r.2.2) (hK.2.2.1 i (by omega)))
  replace hK := (show KA S S_7 by rw [hw]; exact KA_row hK (by decide) (by decide) (rowOK_ovl (hK.1.1 7 (by omega)) (hK.1.1 i (by omega))))
  have FS_7 : FR S_6 S_7 7 (rl (S_6.1 i)) := FR.copy hw
  clear hw
  refine lv_aload_n hx hb dX0_isTurnedAlike_58 rfl (lv_at hl 0 rfl) ?_
  refine ka_gs hx hb hts hin0 hown hX (hts (.fieldLink RX0 12 "Orderlattice$Auditor" "sorter" "LOrderlattice$Sorter;") (tm 6 (by decide +kernel) rfl)) dX0_isTurnedAlike_59 ?_
  refine lv_aload_n hx hb dX0_isTurnedAlike_62 rfl (lv_at hl 0 rfl) ?_
  refine ka_gr hx hb hts hin0 hown hX (hts (.fieldLink RX0 25 "Orderlattice$Auditor" "right" "LOrderlattice$Row;") (tm 11 (by decide +kernel) rfl)) dX0_isTurnedAlike_63 ?_
  refine lv_aload_n hx hb dX0_isTurnedAlike_66 rfl (lv_at hl 0 rfl) ?_
  refine ka_gm hx hb hts hin0 hown hX (hts (.fieldLink RX0 31 "Orderlattice$Auditor" "made" "LOrderlattice$Order;") (tm 15 (by decide +kernel) rfl)) dX0_isTurnedAlike_67 ?_
  refine lv_iconst (v := nI 0) hx hb dX0_isTurnedAlike_70 (by decide) ?_
  refine kx_cv (va_runV (As := [.ref (ad (3 * 7)), .ref (ad (24 + 5 * 5)), .int (nI 0)]) (rest := []) ⟨hx, hb, hml, hown, hts⟩ (s_X3_arrangeAll l dC dI ad S_7 1 7 5 0 (by decide) (by omega) (by omega) (hK.1.1 7 (by omega)) (hK.1.2 5 (by omega)) (by decide) (hK.1.1 5 (by decide)) (by omega)) (cwV 3 hts gX0_isTurnedAlike_X3_arrangeAll rfl rfl rfl hdX3_arrangeAll_3 ⟨Nat.le_of_ble_eq_true rfl, Nat.le_of_ble_eq_true rfl⟩) (hX.preSor (by omega)) rfl rfl hl.1 rfl (lv_room (Nat.le_of_ble_eq_true rfl)) dX0_isTurnedAlike_71 ⟨Nat.le_of_ble_eq_true rfl, Nat.le_of_ble_eq_true rfl⟩) hX (fun _ h => h) (fun S_8 H locs hw hX => ?_)
  obtain ⟨hw, hsp, hst⟩ := hw
  have FS_8 : FS S_7 S_8 7 5 := FS.arr hw hsp hst
  replace h7 := hw.2.2.2.2.trans h7
  replace h6 := (show (S_8.1 6).2.2 = (S_7.1 6).2.2 by rw [hw.2.1 6 (by decide) (by decide)]).trans h6
  replace hK := KA_arr hK hw (by decide) (by decide)
  clear hw
  refine lv_aload_n hx hb dX0_isTurnedAlike_74 rfl (lv_at hl 0 rfl) ?_
  refine ka_gl hx hb hts hin0 hown hX (hts (.fieldLink RX0 21 "Orderlattice$Auditor" "left" "LOrderlattice$Row;") (tm 10 (by decide +kernel) rfl)) dX0_isTurnedAlike_75 ?_
  refine lv_aload_n hx hb dX0_isTurnedAlike_78 rfl (lv_at hl 0 rfl) ?_
  refine ka_gr hx hb hts hin0 hown hX (hts (.fieldLink RX0 25 "Orderlattice$Auditor" "right" "LOrderlattice$Row;") (tm 11 (by decide +kernel) rfl)) dX0_isTurnedAlike_79 ?_
  refine kx_cr (v := bI (decide ((S_8.1 6).2.2 = (S_8.1 7).2.2 ∧ ∀ k, k < (S_8.1 6).2.2 → (S_8.1 6).2.1 k = (S_8.1 7).2.1 k ∧ (S_8.1 6).1 k = (S_8.1 7).1 k))) (va_runV (As := [.ref (ad (3 * 7))]) (rest := []) ⟨hx, hb, hml, hown, hts⟩ (m_X2_isLike l dC dI ad S_8 6 7 (by omega) (by omega) (hK.1.1 6 (by omega)) (hK.1.1 7 (by omega))) (cwV 1 hts gX0_isTurnedAlike_X2_isLike rfl rfl rfl hdX2_isLike_1 ⟨Nat.le_of_ble_eq_true rfl, Nat.le_of_ble_eq_true rfl⟩) (hX.preRow (by omega)) rfl rfl hl.1 rfl (lv_room (Nat.le_of_ble_eq_true rfl)) dX0_isTurnedAlike_82 ⟨Nat.le_of_ble_eq_true rfl, Nat.le_of_ble_eq_true rfl⟩) (fun _ h => h) ?_
  have hlk := turn_ok hi hj (hI.1 i (by omega)) FS_1 FS_2 FS_3 FS_4 FS_5 FS_6 FS_7 FS_8
  have hlike := like_ok hlk
  exact W.zret (v := bI (decide ((S_8.1 6).2.2 = (S_8.1 7).2.2 ∧ ∀ k, k < (S_8.1 6).2.2 → (S_8.1 6).2.1 k = (S_8.1 7).2.1 k ∧ (S_8.1 6).1 k = (S_8.1 7).1 k))) hx hb hr (bI_narrow _) (fun t9 ht9 hW9 => ⟨⟨_, S_8, rfl, ⟨congrArg bI hlike, hK⟩, hX.P ht9 hW9⟩, hX.2.2.2.F ht9⟩) hX.2.2.2.2.2 dX0_isTurnedAlike_85
set_option maxHeartbeats 4000000 in
set_option maxRecDepth 100000 in
theorem u_X0_areWaysAgreed (l : Launch) (dC : Nat → ClassId) (dI : Nat → Nat → Nat) (ad : Nat → Nat) (S : XS) (i j : Nat) (hi : i < 5) (hj : j < 5) (hI : InvX S) : Met l yX0_areWaysAgreed wsX0_areWaysAgreed ({ frames := 4, cells := 0, slots := 0, locals := 105 } : Room) (va_Pc [.ref (ad 56), .ref (ad (3 * i)), .ref (ad (24 + 5 * j))] (PX dC dI ad S)) (va_Qi (fun r S' => r = bI true ∧ KA S S') (PX dC dI ad) (AX ad)) 0 0 (AX ad) := by
  refine Met.ofW (cc := cX0_areWaysAgreed) (maxL := 4) (ret := (some .boolean)) pl_X0 rfl ?_
  intro p e s m args below meth c s₁ B hml hv
  obtain ⟨rfl, hPX⟩ := hv
  have hx := B.exec
  have hb := B.bytes
  have hr := B.returns
  have hts := atoms_spec (ws := wsX0_areWaysAgreed) B.pre
  have hown : s.vm.findClass RX0 = some m.cls := findClass_of_methodNamed B.named
  have hlocks := B.notSynchronized
  have hin0 : ∀ w ∈ u_ws RX0 TX0 4, w ∈ wsX0_areWaysAgreed := tu 1325 (by decide +kernel) rfl
  have hX := WX.of hPX
  have hl := lv_entry ([.ref (ad 56), .ref (ad (3 * i)), .ref (ad (24 + 5 * j))]) (n := 4) (Nat.le_of_ble_eq_true rfl)
  rw [lg_entry_eq]
  generalize (lg_sl ([.ref (ad 56), .ref (ad (3 * i)), .ref (ad (24 + 5 * j))]) ++ List.replicate (4 - (lg_sl ([.ref (ad 56), .ref (ad (3 * i)), .ref (ad (24 + 5 * j))])).length) Slot.unset).toArray = ls at hl ⊢
  have hl : lv_has ls 4 [(0, .ref (ad 56)), (1, .ref (ad (3 * i))), (2, .ref (ad (24 + 5 * j)))] := hl
  show W p l e ({ frames := 4, cells := 0, slots := 0, locals := 105 } : Room) s m ([.ref (ad 56), .ref (ad (3 * i)), .ref (ad (24 + 5 * j))]).toArray below meth c s.heap [] 0 0 (MQ below (va_Qi (fun r S' => r = bI true ∧ KA S S') (PX dC dI ad) (AX ad)) ([.ref (ad 56), .ref (ad (3 * i)), .ref (ad (24 + 5 * j))]).toArray s 0 0 (AX ad)) (F0 m 0 ls [])
  have hK := KA_refl hI
  have h6 : (S.1 6).2.2 = (S.1 6).2.2 := rfl
  have h7 : (S.1 7).2.2 = (S.1 7).2.2 := rfl
  refine lv_aload_n hx hb dX0_areWaysAgreed_0 rfl (lv_at hl 0 rfl) ?_
  refine ka_gl hx hb hts hin0 hown hX (hts (.fieldLink RX0 21 "Orderlattice$Auditor" "left" "LOrderlattice$Row;") (tm 10 (by decide +kernel) rfl)) dX0_areWaysAgreed_1 ?_
  refine lv_aload_n hx hb dX0_areWaysAgreed_4 rfl (lv_at hl 1 rfl) ?_
  refine kx_cv (va_runV (As := [.ref (ad (3 * i))]) (rest := []) ⟨hx, hb, hml, hown, hts⟩ (m_X2_becomeCopyOf l dC dI ad S 6 i (by omega) (by omega) (hK.1.1 i (by omega)).1) (cwV 1 hts gX0_areWaysAgreed_X2_becomeCopyOf rfl rfl rfl hdX2_becomeCopyOf_1 ⟨Nat.le_of_ble_eq_true rfl, Nat.le_of_ble_eq_true rfl⟩) (hX.preRow (by omega)) rfl rfl hl.1 rfl (lv_room (Nat.le_of_ble_eq_true rfl)) dX0_areWaysAgreed_5 ⟨Nat.le_of_ble_eq_true rfl, Nat.le_of_ble_eq_true rfl⟩) hX (fun _ h => h) (fun S_1 H locs hw hX => ?_)
  replace h7 := (show (S_1.1 7).2.2 = (S.1 7).2.2 by rw [hw, xR_ne _ _ (by decide)]).trans h7
  replace h6 := (show (S_1.1 6).2.2 = (S.1 i).2.2 by rw [hw, xR_row]).trans (congrArg (fun r : RowS => r.2.2) (hK.2.2.1 i (by omega)))
  replace hK := (show KA S S_1 by rw [hw]; exact KA_row hK (by decide) (by decide) (rowOK_ovl (hK.1.1 6 (by omega)) (hK.1.1 i (by omega))))
  have FS_1 : FR S S_1 6 (rl (S.1 i)) := FR.copy hw
  clear hw
  refine lv_aload_n hx hb dX0_areWaysAgreed_8 rfl (lv_at hl 0 rfl) ?_
  refine ka_gs hx hb hts hin0 hown hX (hts (.fieldLink RX0 12 "Orderlattice$Auditor" "sorter" "LOrderlattice$Sorter;") (tm 6 (by decide +kernel) rfl)) dX0_areWaysAgreed_9 ?_
  refine lv_aload_n hx hb dX0_areWaysAgreed_12 rfl (lv_at hl 0 rfl) ?_
  refine ka_gl hx hb hts hin0 hown hX (hts (.fieldLink RX0 21 "Orderlattice$Auditor" "left" "LOrderlattice$Row;") (tm 10 (by decide +kernel) rfl)) dX0_areWaysAgreed_13 ?_
  refine lv_aload_n hx hb dX0_areWaysAgreed_16 rfl (lv_at hl 2 rfl) ?_
  refine lv_iconst (v := nI 0) hx hb dX0_areWaysAgreed_17 (by decide) ?_
  refine kx_cv (va_runV (As := [.ref (ad (3 * 6)), .ref (ad (24 + 5 * j)), .int (nI 0)]) (rest := []) ⟨hx, hb, hml, hown, hts⟩ (s_X3_arrangeAll l dC dI ad S_1 1 6 j 0 (by decide) (by omega) (by omega) (hK.1.1 6 (by omega)) (hK.1.2 j (by omega)) (by decide) (hK.1.1 5 (by decide)) (by omega)) (cwV 3 hts gX0_areWaysAgreed_X3_arrangeAll rfl rfl rfl hdX3_arrangeAll_3 ⟨Nat.le_of_ble_eq_true rfl, Nat.le_of_ble_eq_true rfl⟩) (hX.preSor (by omega)) rfl rfl hl.1 rfl (lv_room (Nat.le_of_ble_eq_true rfl)) dX0_areWaysAgreed_18 ⟨Nat.le_of_ble_eq_true rfl, Nat.le_of_ble_eq_true rfl⟩) hX (fun _ h => h) (fun S_2 H locs hw hX => ?_)
  obtain ⟨hw, hsp, hst⟩ := hw
  have FS_2 : FS S_1 S_2 6 j := FS.arr hw hsp hst
  replace h6 := hw.2.2.2.2.trans h6
  replace h7 := (show (S_2.1 7).2.2 = (S_1.1 7).2.2 by rw [hw.2.1 7 (by decide) (by decide)]).trans h7
  replace hK := KA_arr hK hw (by decide) (by decide)
  clear hw
  refine lv_iconst (v := nI 1) hx hb dX0_areWaysAgreed_21 (by decide) ?_
  refine lv_istore_n (lv' := [(3, .int (nI 1)), (0, .ref (ad 56)), (1, .ref (ad (3 * i))), (2, .ref (ad (24 + 5 * j)))]) hx hb dX0_areWaysAgreed_22 rfl hl (by decide) rfl (fun ls hl => ?_)
  have loop23 : ∀ (fuel : Nat) (S1 : XS) (y : Nat) (hK : KA S S1) (h67 : ∃ a b, (S1.1 6).2.2 = a ∧ (S1.1 7).2.2 = b) (hy : 1 ≤ y ∧ y ≤ 3) (hL : Srt (S1.2.1 j).2.2.1 (rl (S.1 i)) (rl (S1.1 6))) (H : Heap) (locs : List Loc), 3 - y < fuel → WX dC dI ad S1 (AX ad) s H locs → ∀ ls : Array Slot, lv_has ls 4 [(0, .ref (ad 56)), (1, .ref (ad (3 * i))), (2, .ref (ad (24 + 5 * j))), (3, .int (nI y))] → W p l e ({ frames := 4, cells := 0, slots := 0, locals := 105 } : Room) s m ([.ref (ad 56), .ref (ad (3 * i)), .ref (ad (24 + 5 * j))]).toArray below meth c H locs 0 0 (MQ below (va_Qi (fun r S' => r = bI true ∧ KA S S') (PX dC dI ad) (AX ad)) ([.ref (ad 56), .ref (ad (3 * i)), .ref (ad (24 + 5 * j))]).toArray s 0 0 (AX ad)) (F0 m 23 ls []) := by
    intro fuel
    induction fuel with
    | zero => intro S1 y hK h67 hy hL H locs hf; exact absurd hf (Nat.not_lt_zero _)
    | succ fuel ih23 =>
      intro S1 y hK h67 hy hL H locs hf hX ls hl
      obtain ⟨_, _, h6, h7⟩ := h67
      refine lv_iload_n hx hb dX0_areWaysAgreed_23 rfl (lv_at hl 3 rfl) ?_
      refine lv_iconst (v := nI 3) hx hb dX0_areWaysAgreed_24 (by decide) ?_
      refine kn_icmp_ge (tgt := 71) hx hb (by omega) (by omega) dX0_areWaysAgreed_25 (by decide) (fun k_3 => ?_) (fun k_3 => ?_)
      · skip
        refine lv_iconst (v := bI true) hx hb dX0_areWaysAgreed_71 (by decide) ?_
        exact W.zret (v := bI true) hx hb hr (bI_narrow _) (fun t9 ht9 hW9 => ⟨⟨_, S1, rfl, ⟨rfl, hK⟩, hX.P ht9 hW9⟩, hX.2.2.2.F ht9⟩) hX.2.2.2.2.2 dX0_areWaysAgreed_72
      · skip
        have hK1 := hK
        refine lv_aload_n hx hb dX0_areWaysAgreed_28 rfl (lv_at hl 0 rfl) ?_
        refine ka_gr hx hb hts hin0 hown hX (hts (.fieldLink RX0 25 "Orderlattice$Auditor" "right" "LOrderlattice$Row;") (tm 11 (by decide +kernel) rfl)) dX0_areWaysAgreed_29 ?_
        refine lv_aload_n hx hb dX0_areWaysAgreed_32 rfl (lv_at hl 1 rfl) ?_
        refine kx_cv (va_runV (As := [.ref (ad (3 * i))]) (rest := []) ⟨hx, hb, hml, hown, hts⟩ (m_X2_becomeCopyOf l dC dI ad S1 7 i (by omega) (by omega) (hK.1.1 i (by omega)).1) (cwV 1 hts gX0_areWaysAgreed_X2_becomeCopyOf rfl rfl rfl hdX2_becomeCopyOf_1 ⟨Nat.le_of_ble_eq_true rfl, Nat.le_of_ble_eq_true rfl⟩) (hX.preRow (by omega)) rfl rfl hl.1 rfl (lv_room (Nat.le_of_ble_eq_true rfl)) dX0_areWaysAgreed_33 ⟨Nat.le_of_ble_eq_true rfl, Nat.le_of_ble_eq_true rfl⟩) hX (fun _ h => h) (fun S_4 H locs hw hX => ?_)
        replace h6 := (show (S_4.1 6).2.2 = (S1.1 6).2.2 by rw [hw, xR_ne _ _ (by decide)]).trans h6
        replace h7 := (show (S_4.1 7).2.2 = (S1.1 i).2.2 by rw [hw, xR_row]).trans (congrArg (fun r : RowS => r.2.2) (hK.2.2.1 i (by omega)))
        replace hK := (show KA S S_4 by rw [hw]; exact KA_row hK (by decide) (by decide) (rowOK_ovl (hK.1.1 7 (by omega)) (hK.1.1 i (by omega))))
        have FS_4 : FR S1 S_4 7 (rl (S1.1 i)) := FR.copy hw
        clear hw
        refine lv_aload_n hx hb dX0_areWaysAgreed_36 rfl (lv_at hl 0 rfl) ?_
        refine ka_gs hx hb hts hin0 hown hX (hts (.fieldLink RX0 12 "Orderlattice$Auditor" "sorter" "LOrderlattice$Sorter;") (tm 6 (by decide +kernel) rfl)) dX0_areWaysAgreed_37 ?_
        refine lv_aload_n hx hb dX0_areWaysAgreed_40 rfl (lv_at hl 0 rfl) ?_
        refine ka_gr hx hb hts hin0 hown hX (hts (.fieldLink RX0 25 "Orderlattice$Auditor" "right" "LOrderlattice$Row;") (tm 11 (by decide +kernel) rfl)) dX0_areWaysAgreed_41 ?_
        refine lv_aload_n hx hb dX0_areWaysAgreed_44 rfl (lv_at hl 2 rfl) ?_
        refine lv_iload_n hx hb dX0_areWaysAgreed_45 rfl (lv_at hl 3 rfl) ?_
        refine kx_cv (va_runV (As := [.ref (ad (3 * 7)), .ref (ad (24 + 5 * j)), .int (nI y)]) (rest := []) ⟨hx, hb, hml, hown, hts⟩ (s_X3_arrangeAll l dC dI ad S_4 1 7 j y (by decide) (by omega) (by omega) (hK.1.1 7 (by omega)) (hK.1.2 j (by omega)) (by decide) (hK.1.1 5 (by decide)) (by omega)) (cwV 3 hts gX0_areWaysAgreed_X3_arrangeAll rfl rfl rfl hdX3_arrangeAll_3 ⟨Nat.le_of_ble_eq_true rfl, Nat.le_of_ble_eq_true rfl⟩) (hX.preSor (by omega)) rfl rfl hl.1 rfl (lv_room (Nat.le_of_ble_eq_true rfl)) dX0_areWaysAgreed_46 ⟨Nat.le_of_ble_eq_true rfl, Nat.le_of_ble_eq_true rfl⟩) hX (fun _ h => h) (fun S_5 H locs hw hX => ?_)
        obtain ⟨hw, hsp, hst⟩ := hw
        have FS_5 : FS S_4 S_5 7 j := FS.arr hw hsp hst
        replace h7 := hw.2.2.2.2.trans h7
        replace h6 := (show (S_5.1 6).2.2 = (S_4.1 6).2.2 by rw [hw.2.1 6 (by decide) (by decide)]).trans h6
        replace hK := KA_arr hK hw (by decide) (by decide)
        clear hw
        refine lv_aload_n hx hb dX0_areWaysAgreed_49 rfl (lv_at hl 0 rfl) ?_
        refine ka_gl hx hb hts hin0 hown hX (hts (.fieldLink RX0 21 "Orderlattice$Auditor" "left" "LOrderlattice$Row;") (tm 10 (by decide +kernel) rfl)) dX0_areWaysAgreed_50 ?_
        refine lv_aload_n hx hb dX0_areWaysAgreed_53 rfl (lv_at hl 0 rfl) ?_
        refine ka_gr hx hb hts hin0 hown hX (hts (.fieldLink RX0 25 "Orderlattice$Auditor" "right" "LOrderlattice$Row;") (tm 11 (by decide +kernel) rfl)) dX0_areWaysAgreed_54 ?_
        refine kx_cr (v := bI (decide ((S_5.1 6).2.2 = (S_5.1 7).2.2 ∧ ∀ k, k < (S_5.1 6).2.2 → (S_5.1 6).2.1 k = (S_5.1 7).2.1 k ∧ (S_5.1 6).1 k = (S_5.1 7).1 k))) (va_runV (As := [.ref (ad (3 * 7))]) (rest := []) ⟨hx, hb, hml, hown, hts⟩ (m_X2_isLike l dC dI ad S_5 6 7 (by omega) (by omega) (hK.1.1 6 (by omega)) (hK.1.1 7 (by omega))) (cwV 1 hts gX0_areWaysAgreed_X2_isLike rfl rfl rfl hdX2_isLike_1 ⟨Nat.le_of_ble_eq_true rfl, Nat.le_of_ble_eq_true rfl⟩) (hX.preRow (by omega)) rfl rfl hl.1 rfl (lv_room (Nat.le_of_ble_eq_true rfl)) dX0_areWaysAgreed_57 ⟨Nat.le_of_ble_eq_true rfl, Nat.le_of_ble_eq_true rfl⟩) (fun _ h => h) ?_
        have hwy := way_ok (S2 := S1) (l := rl (S.1 i)) hL (by have h9 := FS_4; rw [hK1.2.2.1 i (by omega)] at h9; exact h9) FS_5
        have hlike := like_ok hwy.1
        refine kb_if_ne (tgt := 65) hx hb dX0_areWaysAgreed_60 (by decide) (fun k_6 => ?_) (fun k_6 => absurd (hlike.symm.trans k_6) (by decide))
        refine lv_iinc (v := nI (y + 1)) (lv' := [(3, .int (nI (y + 1))), (0, .ref (ad 56)), (1, .ref (ad (3 * i))), (2, .ref (ad (24 + 5 * j)))]) hx hb dX0_areWaysAgreed_65 hl (k := 3) rfl (nI_1 y) (by decide) rfl (fun ls hl => ?_)
        refine lv_goto (tgt := 23) hx hb dX0_areWaysAgreed_68 (by decide) ?_
        exact ih23  S_5 (y + 1) hK ⟨_, _, h6, h7⟩ (by omega) hwy.2 _ _ (by omega) hX _ (lv_sub hl [1, 2, 3, 0] rfl)
  exact loop23 (3 + 1) S_2 1 hK ⟨_, _, h6, h7⟩ (by omega) (by have h9 := FS_2.1; rw [FS_1.1, ← FS_2.2.2] at h9; exact h9) _ _ (by omega) (WX.eqS rfl hX) _ (lv_sub hl [1, 2, 3, 0] rfl)
set_option maxHeartbeats 4000000 in
set_option maxRecDepth 100000 in
theorem u_X0_isQueuedAlike (l : Launch) (dC : Nat → ClassId) (dI : Nat → Nat → Nat) (ad : Nat → Nat) (S : XS) (i j : Nat) (hi : i < 5) (hj : j < 5) (hI : InvX S) : Met l yX0_isQueuedAlike wsX0_isQueuedAlike ({ frames := 4, cells := 0, slots := 0, locals := 105 } : Room) (va_Pc [.ref (ad 56), .ref (ad (3 * i)), .ref (ad (24 + 5 * j))] (PX dC dI ad S)) (va_Qi (fun r S' => r = bI true ∧ KA S S') (PX dC dI ad) (AX ad)) 0 0 (AX ad) := by
  refine Met.ofW (cc := cX0_isQueuedAlike) (maxL := 5) (ret := (some .boolean)) pl_X0 rfl ?_
  intro p e s m args below meth c s₁ B hml hv
  obtain ⟨rfl, hPX⟩ := hv
  have hx := B.exec
  have hb := B.bytes
  have hr := B.returns
  have hts := atoms_spec (ws := wsX0_isQueuedAlike) B.pre
  have hown : s.vm.findClass RX0 = some m.cls := findClass_of_methodNamed B.named
  have hlocks := B.notSynchronized
  have hin0 : ∀ w ∈ u_ws RX0 TX0 4, w ∈ wsX0_isQueuedAlike := tu 1325 (by decide +kernel) rfl
  have hX := WX.of hPX
  have hl := lv_entry ([.ref (ad 56), .ref (ad (3 * i)), .ref (ad (24 + 5 * j))]) (n := 5) (Nat.le_of_ble_eq_true rfl)
  rw [lg_entry_eq]
  generalize (lg_sl ([.ref (ad 56), .ref (ad (3 * i)), .ref (ad (24 + 5 * j))]) ++ List.replicate (5 - (lg_sl ([.ref (ad 56), .ref (ad (3 * i)), .ref (ad (24 + 5 * j))])).length) Slot.unset).toArray = ls at hl ⊢
  have hl : lv_has ls 5 [(0, .ref (ad 56)), (1, .ref (ad (3 * i))), (2, .ref (ad (24 + 5 * j)))] := hl
  show W p l e ({ frames := 4, cells := 0, slots := 0, locals := 105 } : Room) s m ([.ref (ad 56), .ref (ad (3 * i)), .ref (ad (24 + 5 * j))]).toArray below meth c s.heap [] 0 0 (MQ below (va_Qi (fun r S' => r = bI true ∧ KA S S') (PX dC dI ad) (AX ad)) ([.ref (ad 56), .ref (ad (3 * i)), .ref (ad (24 + 5 * j))]).toArray s 0 0 (AX ad)) (F0 m 0 ls [])
  have hK := KA_refl hI
  have h6 : (S.1 6).2.2 = (S.1 6).2.2 := rfl
  have h7 : (S.1 7).2.2 = (S.1 7).2.2 := rfl
  have hn9 := (hI.1 i (by omega)).1
  refine lv_aload_n hx hb dX0_isQueuedAlike_0 rfl (lv_at hl 0 rfl) ?_
  refine ka_gl hx hb hts hin0 hown hX (hts (.fieldLink RX0 21 "Orderlattice$Auditor" "left" "LOrderlattice$Row;") (tm 10 (by decide +kernel) rfl)) dX0_isQueuedAlike_1 ?_
  refine lv_aload_n hx hb dX0_isQueuedAlike_4 rfl (lv_at hl 1 rfl) ?_
  refine kx_cv (va_runV (As := [.ref (ad (3 * i))]) (rest := []) ⟨hx, hb, hml, hown, hts⟩ (m_X2_becomeCopyOf l dC dI ad S 6 i (by omega) (by omega) (hK.1.1 i (by omega)).1) (cwV 1 hts gX0_isQueuedAlike_X2_becomeCopyOf rfl rfl rfl hdX2_becomeCopyOf_1 ⟨Nat.le_of_ble_eq_true rfl, Nat.le_of_ble_eq_true rfl⟩) (hX.preRow (by omega)) rfl rfl hl.1 rfl (lv_room (Nat.le_of_ble_eq_true rfl)) dX0_isQueuedAlike_5 ⟨Nat.le_of_ble_eq_true rfl, Nat.le_of_ble_eq_true rfl⟩) hX (fun _ h => h) (fun S_1 H locs hw hX => ?_)
  replace h7 := (show (S_1.1 7).2.2 = (S.1 7).2.2 by rw [hw, xR_ne _ _ (by decide)]).trans h7
  replace h6 := (show (S_1.1 6).2.2 = (S.1 i).2.2 by rw [hw, xR_row]).trans (congrArg (fun r : RowS => r.2.2) (hK.2.2.1 i (by omega)))
  replace hK := (show KA S S_1 by rw [hw]; exact KA_row hK (by decide) (by decide) (rowOK_ovl (hK.1.1 6 (by omega)) (hK.1.1 i (by omega))))
  have FS_1 : FR S S_1 6 (rl (S.1 i)) := FR.copy hw
  clear hw
  refine lv_aload_n hx hb dX0_isQueuedAlike_8 rfl (lv_at hl 0 rfl) ?_
  refine ka_gs hx hb hts hin0 hown hX (hts (.fieldLink RX0 12 "Orderlattice$Auditor" "sorter" "LOrderlattice$Sorter;") (tm 6 (by decide +kernel) rfl)) dX0_isQueuedAlike_9 ?_
  refine lv_aload_n hx hb dX0_isQueuedAlike_12 rfl (lv_at hl 0 rfl) ?_
  refine ka_gl hx hb hts hin0 hown hX (hts (.fieldLink RX0 21 "Orderlattice$Auditor" "left" "LOrderlattice$Row;") (tm 10 (by decide +kernel) rfl)) dX0_isQueuedAlike_13 ?_
  refine lv_aload_n hx hb dX0_isQueuedAlike_16 rfl (lv_at hl 2 rfl) ?_
  refine lv_iconst (v := nI 0) hx hb dX0_isQueuedAlike_17 (by decide) ?_
  refine kx_cv (va_runV (As := [.ref (ad (3 * 6)), .ref (ad (24 + 5 * j)), .int (nI 0)]) (rest := []) ⟨hx, hb, hml, hown, hts⟩ (s_X3_arrangeAll l dC dI ad S_1 1 6 j 0 (by decide) (by omega) (by omega) (hK.1.1 6 (by omega)) (hK.1.2 j (by omega)) (by decide) (hK.1.1 5 (by decide)) (by omega)) (cwV 3 hts gX0_isQueuedAlike_X3_arrangeAll rfl rfl rfl hdX3_arrangeAll_3 ⟨Nat.le_of_ble_eq_true rfl, Nat.le_of_ble_eq_true rfl⟩) (hX.preSor (by omega)) rfl rfl hl.1 rfl (lv_room (Nat.le_of_ble_eq_true rfl)) dX0_isQueuedAlike_18 ⟨Nat.le_of_ble_eq_true rfl, Nat.le_of_ble_eq_true rfl⟩) hX (fun _ h => h) (fun S_2 H locs hw hX => ?_)
  obtain ⟨hw, hsp, hst⟩ := hw
  have FS_2 : FS S_1 S_2 6 j := FS.arr hw hsp hst
  replace h6 := hw.2.2.2.2.trans h6
  replace h7 := (show (S_2.1 7).2.2 = (S_1.1 7).2.2 by rw [hw.2.1 7 (by decide) (by decide)]).trans h7
  replace hK := KA_arr hK hw (by decide) (by decide)
  clear hw
  refine lv_aload_n hx hb dX0_isQueuedAlike_21 rfl (lv_at hl 0 rfl) ?_
  refine ka_gr hx hb hts hin0 hown hX (hts (.fieldLink RX0 25 "Orderlattice$Auditor" "right" "LOrderlattice$Row;") (tm 11 (by decide +kernel) rfl)) dX0_isQueuedAlike_22 ?_
  refine lv_aload_n hx hb dX0_isQueuedAlike_25 rfl (lv_at hl 1 rfl) ?_
  refine kx_cv (va_runV (As := [.ref (ad (3 * i))]) (rest := []) ⟨hx, hb, hml, hown, hts⟩ (m_X2_becomeCopyOf l dC dI ad S_2 7 i (by omega) (by omega) (hK.1.1 i (by omega)).1) (cwV 1 hts gX0_isQueuedAlike_X2_becomeCopyOf rfl rfl rfl hdX2_becomeCopyOf_1 ⟨Nat.le_of_ble_eq_true rfl, Nat.le_of_ble_eq_true rfl⟩) (hX.preRow (by omega)) rfl rfl hl.1 rfl (lv_room (Nat.le_of_ble_eq_true rfl)) dX0_isQueuedAlike_26 ⟨Nat.le_of_ble_eq_true rfl, Nat.le_of_ble_eq_true rfl⟩) hX (fun _ h => h) (fun S_3 H locs hw hX => ?_)
  replace h6 := (show (S_3.1 6).2.2 = (S_2.1 6).2.2 by rw [hw, xR_ne _ _ (by decide)]).trans h6
  replace h7 := (show (S_3.1 7).2.2 = (S_2.1 i).2.2 by rw [hw, xR_row]).trans (congrArg (fun r : RowS => r.2.2) (hK.2.2.1 i (by omega)))
  replace hK := (show KA S S_3 by rw [hw]; exact KA_row hK (by decide) (by decide) (rowOK_ovl (hK.1.1 7 (by omega)) (hK.1.1 i (by omega))))
  have FS_3 : FR S_2 S_3 7 (rl (S_2.1 i)) := FR.copy hw
  clear hw
  refine lv_iconst (v := nI 0) hx hb dX0_isQueuedAlike_29 (by decide) ?_
  refine lv_istore_n (lv' := [(3, .int (nI 0)), (0, .ref (ad 56)), (1, .ref (ad (3 * i))), (2, .ref (ad (24 + 5 * j)))]) hx hb dX0_isQueuedAlike_30 rfl hl (by decide) rfl (fun ls hl => ?_)
  have loop31 : ∀ (fuel : Nat) (S1 : XS) (q : Nat) (hK : KA S S1) (h6 : (S1.1 6).2.2 = (S.1 i).2.2) (h7 : (S1.1 7).2.2 = (S.1 i).2.2 - q) (hq : q ≤ (S.1 i).2.2) (hL : Pw (S1.2.1 j).2.2.1 (rl (S1.1 6))) (hR : ∀ u, kf (S1.2.1 j).2.2.1 u (rl (S1.1 7)) = kf (S1.2.1 j).2.2.1 u ((rl (S1.1 6)).drop q)) (H : Heap) (locs : List Loc), (S.1 i).2.2 - q < fuel → WX dC dI ad S1 (AX ad) s H locs → ∀ ls : Array Slot, lv_has ls 5 [(0, .ref (ad 56)), (1, .ref (ad (3 * i))), (2, .ref (ad (24 + 5 * j))), (3, .int (nI q))] → W p l e ({ frames := 4, cells := 0, slots := 0, locals := 105 } : Room) s m ([.ref (ad 56), .ref (ad (3 * i)), .ref (ad (24 + 5 * j))]).toArray below meth c H locs 0 0 (MQ below (va_Qi (fun r S' => r = bI true ∧ KA S S') (PX dC dI ad) (AX ad)) ([.ref (ad 56), .ref (ad (3 * i)), .ref (ad (24 + 5 * j))]).toArray s 0 0 (AX ad)) (F0 m 31 ls []) := by
    intro fuel
    induction fuel with
    | zero => intro S1 q hK h6 h7 hq hL hR H locs hf; exact absurd hf (Nat.not_lt_zero _)
    | succ fuel ih31 =>
      intro S1 q hK h6 h7 hq hL hR H locs hf hX ls hl
      refine lv_iload_n hx hb dX0_isQueuedAlike_31 rfl (lv_at hl 3 rfl) ?_
      refine lv_aload_n hx hb dX0_isQueuedAlike_32 rfl (lv_at hl 0 rfl) ?_
      refine ka_gl hx hb hts hin0 hown hX (hts (.fieldLink RX0 21 "Orderlattice$Auditor" "left" "LOrderlattice$Row;") (tm 10 (by decide +kernel) rfl)) dX0_isQueuedAlike_33 ?_
      refine kx_cr (v := nI ((S.1 i).2.2)) (va_runV (As := []) (rest := [.int (nI q)]) ⟨hx, hb, hml, hown, hts⟩ (m_X2_length l dC dI ad S1 6 (by omega)) (cwV 0 hts gX0_isQueuedAlike_X2_length rfl rfl rfl hdX2_length_0 ⟨Nat.le_of_ble_eq_true rfl, Nat.le_of_ble_eq_true rfl⟩) (hX.preRow (by omega)) rfl rfl hl.1 rfl (lv_room (Nat.le_of_ble_eq_true rfl)) dX0_isQueuedAlike_36 ⟨Nat.le_of_ble_eq_true rfl, Nat.le_of_ble_eq_true rfl⟩) (fun _ h => by rw [h, h6]) ?_
      refine kn_icmp_ge (tgt := 97) hx hb (by omega) (by omega) dX0_isQueuedAlike_39 (by decide) (fun k_4 => ?_) (fun k_4 => ?_)
      · skip
        refine lv_iconst (v := bI true) hx hb dX0_isQueuedAlike_97 (by decide) ?_
        exact W.zret (v := bI true) hx hb hr (bI_narrow _) (fun t9 ht9 hW9 => ⟨⟨_, S1, rfl, ⟨rfl, hK⟩, hX.P ht9 hW9⟩, hX.2.2.2.F ht9⟩) hX.2.2.2.2.2 dX0_isQueuedAlike_98
      · skip
        refine lv_aload_n hx hb dX0_isQueuedAlike_42 rfl (lv_at hl 0 rfl) ?_
        refine ka_gr hx hb hts hin0 hown hX (hts (.fieldLink RX0 25 "Orderlattice$Auditor" "right" "LOrderlattice$Row;") (tm 11 (by decide +kernel) rfl)) dX0_isQueuedAlike_43 ?_
        refine lv_aload_n hx hb dX0_isQueuedAlike_46 rfl (lv_at hl 2 rfl) ?_
        refine kx_cr (v := (oI (bestB (fun _ => true) (fun a b => decide ((S1.2.1 j).2.2.1 ((S1.1 7).1 a) < (S1.2.1 j).2.2.1 ((S1.1 7).1 b))) (S1.1 7).2.2))) (va_runV (As := [.ref (ad (24 + 5 * j))]) (rest := []) ⟨hx, hb, hml, hown, hts⟩ (m_X2_firstPlaceBy l dC dI ad S1 7 j (by omega) (by omega) (hK.1.1 7 (by omega)) (hK.1.2 j (by omega))) (cwV 1 hts gX0_isQueuedAlike_X2_firstPlaceBy rfl rfl rfl hdX2_firstPlaceBy_1 ⟨Nat.le_of_ble_eq_true rfl, Nat.le_of_ble_eq_true rfl⟩) (hX.preRow (by omega)) rfl rfl hl.1 rfl (lv_room (Nat.le_of_ble_eq_true rfl)) dX0_isQueuedAlike_47 ⟨Nat.le_of_ble_eq_true rfl, Nat.le_of_ble_eq_true rfl⟩) (fun _ h => h) ?_
        obtain ⟨bb, hbb⟩ := bestB_some (lt := (fun a b => decide ((S1.2.1 j).2.2.1 ((S1.1 7).1 a) < (S1.2.1 j).2.2.1 ((S1.1 7).1 b)))) (show 0 < (S1.1 7).2.2 by rw [h7]; omega)
        have hb9 := (bestB_lt hbb).1
        rw [h7] at hb9
        rw [hbb]
        refine lv_istore (lv' := [(4, .int (nI bb)), (0, .ref (ad 56)), (1, .ref (ad (3 * i))), (2, .ref (ad (24 + 5 * j))), (3, .int (nI q))]) hx hb dX0_isQueuedAlike_50 hl (by decide) rfl (fun ls hl => ?_)
        refine lv_aload_n hx hb dX0_isQueuedAlike_52 rfl (lv_at hl 3 rfl) ?_
        refine lv_aload_n hx hb dX0_isQueuedAlike_53 rfl (lv_at hl 1 rfl) ?_
        refine ka_gr hx hb hts hin0 hown hX (hts (.fieldLink RX0 25 "Orderlattice$Auditor" "right" "LOrderlattice$Row;") (tm 11 (by decide +kernel) rfl)) dX0_isQueuedAlike_54 ?_
        refine lv_iload hx hb dX0_isQueuedAlike_57 (lv_at hl 0 rfl) ?_
        refine kx_cr (v := nI ((S1.1 7).1 bb)) (va_runV (As := [.int (nI bb)]) (rest := [.ref (ad (24 + 5 * j))]) ⟨hx, hb, hml, hown, hts⟩ (m_X2_valueOn l dC dI ad S1 7 bb (by omega) (by omega)) (cwV 1 hts gX0_isQueuedAlike_X2_valueOn rfl rfl rfl hdX2_valueOn_1 ⟨Nat.le_of_ble_eq_true rfl, Nat.le_of_ble_eq_true rfl⟩) (hX.preRow (by omega)) rfl rfl hl.1 rfl (lv_room (Nat.le_of_ble_eq_true rfl)) dX0_isQueuedAlike_59 ⟨Nat.le_of_ble_eq_true rfl, Nat.le_of_ble_eq_true rfl⟩) (fun _ h => h) ?_
        refine kx_cr (v := nI ((S1.2.1 j).2.2.2.1 ((S1.1 7).1 bb))) (va_runV (As := [.int (nI ((S1.1 7).1 bb))]) (rest := []) ⟨hx, hb, hml, hown, hts⟩ (m_X1_rankOf l dC dI ad S1 j ((S1.1 7).1 bb) (by omega) ((hK.1.1 7 (by omega)).2 _ (by omega)).1) (cwV 1 hts gX0_isQueuedAlike_X1_rankOf rfl rfl rfl hdX1_rankOf_1 ⟨Nat.le_of_ble_eq_true rfl, Nat.le_of_ble_eq_true rfl⟩) (hX.preOrd (by omega)) rfl rfl hl.1 rfl (lv_room (Nat.le_of_ble_eq_true rfl)) dX0_isQueuedAlike_62 ⟨Nat.le_of_ble_eq_true rfl, Nat.le_of_ble_eq_true rfl⟩) (fun _ h => h) ?_
        refine lv_aload_n hx hb dX0_isQueuedAlike_65 rfl (lv_at hl 3 rfl) ?_
        refine lv_aload_n hx hb dX0_isQueuedAlike_66 rfl (lv_at hl 1 rfl) ?_
        refine ka_gl hx hb hts hin0 hown hX (hts (.fieldLink RX0 21 "Orderlattice$Auditor" "left" "LOrderlattice$Row;") (tm 10 (by decide +kernel) rfl)) dX0_isQueuedAlike_67 ?_
        refine lv_iload_n hx hb dX0_isQueuedAlike_70 rfl (lv_at hl 4 rfl) ?_
        refine kx_cr (v := nI ((S1.1 6).1 q)) (va_runV (As := [.int (nI q)]) (rest := [.ref (ad (24 + 5 * j)), .int (nI ((S1.2.1 j).2.2.2.1 ((S1.1 7).1 bb)))]) ⟨hx, hb, hml, hown, hts⟩ (m_X2_valueOn l dC dI ad S1 6 q (by omega) (by omega)) (cwV 1 hts gX0_isQueuedAlike_X2_valueOn rfl rfl rfl hdX2_valueOn_1 ⟨Nat.le_of_ble_eq_true rfl, Nat.le_of_ble_eq_true rfl⟩) (hX.preRow (by omega)) rfl rfl hl.1 rfl (lv_room (Nat.le_of_ble_eq_true rfl)) dX0_isQueuedAlike_71 ⟨Nat.le_of_ble_eq_true rfl, Nat.le_of_ble_eq_true rfl⟩) (fun _ h => h) ?_
        refine kx_cr (v := nI ((S1.2.1 j).2.2.2.1 ((S1.1 6).1 q))) (va_runV (As := [.int (nI ((S1.1 6).1 q))]) (rest := [.int (nI ((S1.2.1 j).2.2.2.1 ((S1.1 7).1 bb)))]) ⟨hx, hb, hml, hown, hts⟩ (m_X1_rankOf l dC dI ad S1 j ((S1.1 6).1 q) (by omega) ((hK.1.1 6 (by omega)).2 _ (by omega)).1) (cwV 1 hts gX0_isQueuedAlike_X1_rankOf rfl rfl rfl hdX1_rankOf_1 ⟨Nat.le_of_ble_eq_true rfl, Nat.le_of_ble_eq_true rfl⟩) (hX.preOrd (by omega)) rfl rfl hl.1 rfl (lv_room (Nat.le_of_ble_eq_true rfl)) dX0_isQueuedAlike_74 ⟨Nat.le_of_ble_eq_true rfl, Nat.le_of_ble_eq_true rfl⟩) (fun _ h => h) ?_
        have hr1 := ordOK.rnk (hK.1.2 j (by omega)) ((hK.1.1 7 (by omega)).2 bb (by omega)).1
        have hr2 := ordOK.rnk (hK.1.2 j (by omega)) ((hK.1.1 6 (by omega)).2 q (by omega)).1
        have hqu := queue_ok hL hR (by rw [h6]; omega) hbb (hK.1.2 j (by omega)) (hK.1.1 6 (by omega)) (hK.1.1 7 (by omega))
        refine kn_icmp_eq (tgt := 82) hx hb (by omega) (by omega) dX0_isQueuedAlike_77 (by decide) (fun k_5 => ?_) (fun k_5 => absurd hqu.1 k_5)
        refine lv_aload_n hx hb dX0_isQueuedAlike_82 rfl (lv_at hl 1 rfl) ?_
        refine ka_gr hx hb hts hin0 hown hX (hts (.fieldLink RX0 25 "Orderlattice$Auditor" "right" "LOrderlattice$Row;") (tm 11 (by decide +kernel) rfl)) dX0_isQueuedAlike_83 ?_
        refine lv_iload hx hb dX0_isQueuedAlike_86 (lv_at hl 0 rfl) ?_
        refine kx_cv (va_runV (As := [.int (nI bb)]) (rest := []) ⟨hx, hb, hml, hown, hts⟩ (m_X2_remove l dC dI ad S1 7 bb (by omega) (hK.1.1 7 (by omega)).1 (by rw [h7]; omega)) (cwV 1 hts gX0_isQueuedAlike_X2_remove rfl rfl rfl hdX2_remove_1 ⟨Nat.le_of_ble_eq_true rfl, Nat.le_of_ble_eq_true rfl⟩) (hX.preRow (by omega)) rfl rfl hl.1 rfl (lv_room (Nat.le_of_ble_eq_true rfl)) dX0_isQueuedAlike_88 ⟨Nat.le_of_ble_eq_true rfl, Nat.le_of_ble_eq_true rfl⟩) hX (fun _ h => h) (fun S_6 H locs hw hX => ?_)
        have FS_6 : FR S1 S_6 7 ((rl (S1.1 7)).eraseIdx bb) := FR.rem hw (by rw [h7]; omega)
        replace hK := (show KA S S_6 by rw [hw]; exact KA_row hK (by decide) (by decide) (rowOK_rem (hK.1.1 7 (by omega)) (by rw [h7]; omega)))
        replace h7 := (show (S_6.1 7).2.2 = (S1.1 7).2.2 - 1 by rw [hw, xR_row]).trans (congrArg (· - 1) h7)
        replace h6 := (show (S_6.1 6).2.2 = (S1.1 6).2.2 by rw [hw, xR_ne _ _ (by decide)]).trans h6
        clear hw
        refine lv_iinc (v := nI (q + 1)) (lv' := [(3, .int (nI (q + 1))), (4, .int (nI bb)), (0, .ref (ad 56)), (1, .ref (ad (3 * i))), (2, .ref (ad (24 + 5 * j)))]) hx hb dX0_isQueuedAlike_91 hl (k := 4) rfl (nI_1 q) (by decide) rfl (fun ls hl => ?_)
        refine lv_goto (tgt := 31) hx hb dX0_isQueuedAlike_94 (by decide) ?_
        exact ih31  S_6 (q + 1) hK h6 h7 (by omega) (by rw [FS_6.2.1 6 (by decide), FS_6.2.2]; exact hL) (fun u => by rw [FS_6.1, FS_6.2.1 6 (by decide), FS_6.2.2]; exact hqu.2 u) _ _ (by omega) hX _ (lv_sub hl [2, 3, 4, 0] rfl)
  exact loop31 ((S.1 i).2.2 + 1) S_3 0 hK h6 h7 (by omega) (by rw [FS_3.2.1 6 (by decide), FS_3.2.2, FS_2.2.2]; exact FS_2.1.2) (fun u => by rw [List.drop_zero, FS_3.1, FS_3.2.1 6 (by decide), FS_3.2.2, FS_2.2.2, FS_2.1.1 u, FS_1.1, FS_2.2.1 i (by omega) (by omega), FS_1.2.1 i (by omega)]) _ _ (by omega) (WX.eqS rfl hX) _ (lv_sub hl [1, 2, 3, 0] rfl)
end
section
set_option maxHeartbeats 4000000 in
set_option maxRecDepth 100000 in
theorem u_X4_isSound (l : Launch) (dC : Nat → ClassId) (dI : Nat → Nat → Nat) (ad : Nat → Nat) (S : XS) (hI : InvX S) (h5 : ∀ j, j < 4 → (S.2.1 j).2.2.2.2.1 ≤ 5) : Met l yX4_isSound wsX4_isSound ({ frames := 5, cells := 0, slots := 0, locals := 129 } : Room) (va_Pc [.ref (ad 57)] (PX dC dI ad S)) (va_Qi (fun r S' => r = bI true ∧ KA S S') (PX dC dI ad) (AX ad)) 0 0 (AX ad) := by
  refine Met.ofW (cc := cX4_isSound) (maxL := 7) (ret := (some .boolean)) pl_X4 rfl ?_
  intro p e s m args below meth c s₁ B hml hv
  obtain ⟨rfl, hPX⟩ := hv
  have hx := B.exec
  have hb := B.bytes
  have hr := B.returns
  have hts := atoms_spec (ws := wsX4_isSound) B.pre
  have hown : s.vm.findClass RX4 = some m.cls := findClass_of_methodNamed B.named
  have hlocks := B.notSynchronized
  have hin4 : ∀ w ∈ u_ws RX4 TX4 9, w ∈ wsX4_isSound := tu 1328 (by decide +kernel) rfl
  have hX := WX.of hPX
  have hl := lv_entry ([.ref (ad 57)]) (n := 7) (Nat.le_of_ble_eq_true rfl)
  rw [lg_entry_eq]
  generalize (lg_sl ([.ref (ad 57)]) ++ List.replicate (7 - (lg_sl ([.ref (ad 57)])).length) Slot.unset).toArray = ls at hl ⊢
  have hl : lv_has ls 7 [(0, .ref (ad 57))] := hl
  show W p l e ({ frames := 5, cells := 0, slots := 0, locals := 129 } : Room) s m ([.ref (ad 57)]).toArray below meth c s.heap [] 0 0 (MQ below (va_Qi (fun r S' => r = bI true ∧ KA S S') (PX dC dI ad) (AX ad)) ([.ref (ad 57)]).toArray s 0 0 (AX ad)) (F0 m 0 ls [])
  have hK := KA_refl hI
  refine lv_iconst (v := bI true) hx hb dX4_isSound_0 (by decide) ?_
  refine lv_istore_n (lv' := [(1, .int (bI true)), (0, .ref (ad 57))]) hx hb dX4_isSound_1 rfl hl (by decide) rfl (fun ls hl => ?_)
  refine lv_iconst (v := nI 0) hx hb dX4_isSound_2 (by decide) ?_
  refine lv_istore_n (lv' := [(2, .int (nI 0)), (1, .int (bI true)), (0, .ref (ad 57))]) hx hb dX4_isSound_3 rfl hl (by decide) rfl (fun ls hl => ?_)
  have loop4 : ∀ (fuel : Nat) (S1 : XS) (a : Nat) (hK : KA S S1) (ha : a ≤ 4) (H : Heap) (locs : List Loc), 4 - a < fuel → WX dC dI ad S1 (AX ad) s H locs → ∀ ls : Array Slot, lv_has ls 7 [(0, .ref (ad 57)), (1, .int (bI true)), (2, .int (nI a))] → W p l e ({ frames := 5, cells := 0, slots := 0, locals := 129 } : Room) s m ([.ref (ad 57)]).toArray below meth c H locs 0 0 (MQ below (va_Qi (fun r S' => r = bI true ∧ KA S S') (PX dC dI ad) (AX ad)) ([.ref (ad 57)]).toArray s 0 0 (AX ad)) (F0 m 4 ls []) := by
    intro fuel
    induction fuel with
    | zero => intro S1 a hK ha H locs hf; exact absurd hf (Nat.not_lt_zero _)
    | succ fuel ih4 =>
      intro S1 a hK ha H locs hf hX ls hl
      refine lv_iload_n hx hb dX4_isSound_4 rfl (lv_at hl 1 rfl) ?_
      refine kb_if_eq (tgt := 212) hx hb dX4_isSound_5 (by decide) (fun k_1 => absurd k_1 (by decide)) (fun k_1 => ?_)
      refine lv_iload_n hx hb dX4_isSound_8 rfl (lv_at hl 2 rfl) ?_
      refine lv_iconst (v := nI 4) hx hb dX4_isSound_9 (by decide) ?_
      refine kn_icmp_ge (tgt := 212) hx hb (by omega) (by omega) dX4_isSound_10 (by decide) (fun k_2 => ?_) (fun k_2 => ?_)
      · skip
        refine lv_iload_n hx hb dX4_isSound_212 rfl (lv_at hl 1 rfl) ?_
        exact W.zret (v := bI true) hx hb hr (bI_narrow _) (fun t9 ht9 hW9 => ⟨⟨_, S1, rfl, ⟨rfl, hK⟩, hX.P ht9 hW9⟩, hX.2.2.2.F ht9⟩) hX.2.2.2.2.2 dX4_isSound_213
      · skip
        refine lv_aload_n hx hb dX4_isSound_13 rfl (lv_at hl 0 rfl) ?_
        refine lv_iload_n hx hb dX4_isSound_14 rfl (lv_at hl 2 rfl) ?_
        refine va_csr (va_Run.run (va_runV (As := [.int (nI a)]) (rest := []) ⟨hx, hb, hml, hown, hts⟩ (m_X4_orderAt l dC dI ad S1 a (by omega)) (cwV 1 hts gX4_isSound_X4_orderAt rfl rfl rfl hdX4_orderAt_1 ⟨Nat.le_of_ble_eq_true rfl, Nat.le_of_ble_eq_true rfl⟩) (hX.preTop 57 6 (by decide) (by decide) rfl rfl) rfl rfl hl.1 rfl (lv_room (Nat.le_of_ble_eq_true rfl)) dX4_isSound_15 ⟨Nat.le_of_ble_eq_true rfl, Nat.le_of_ble_eq_true rfl⟩)) (fun k_ hk_ => ?_)
        rw [hk_]
        refine lv_astore_n (lv' := [(3, .ref (ad (24 + 5 * a))), (0, .ref (ad 57)), (1, .int (bI true)), (2, .int (nI a))]) hx hb dX4_isSound_18 rfl hl (by decide) rfl (fun ls hl => ?_)
        refine lv_aload_n hx hb dX4_isSound_19 rfl (lv_at hl 1 rfl) ?_
        refine kx_gauditor hx hb hts hin4 hown hX (hts (.fieldLink RX4 31 "Orderlattice" "auditor" "LOrderlattice$Auditor;") (tm 452 (by decide +kernel) rfl)) dX4_isSound_20 ?_
        refine lv_aload_n hx hb dX4_isSound_23 rfl (lv_at hl 0 rfl) ?_
        refine kx_cr (v := bI true) (va_runV (As := [.ref (ad (24 + 5 * a))]) (rest := []) ⟨hx, hb, hml, hown, hts⟩ (m_X0_areSignsTurned l dC dI ad S1 a (by omega) (hK.1.2 a (by omega))) (cwV 1 hts gX4_isSound_X0_areSignsTurned rfl rfl rfl hdX0_areSignsTurned_1 ⟨Nat.le_of_ble_eq_true rfl, Nat.le_of_ble_eq_true rfl⟩) (hX.preTop 56 2 (by decide) (by decide) rfl rfl) rfl rfl hl.1 rfl (lv_room (Nat.le_of_ble_eq_true rfl)) dX4_isSound_24 ⟨Nat.le_of_ble_eq_true rfl, Nat.le_of_ble_eq_true rfl⟩) (fun _ h => h) ?_
        refine kb_if_eq (tgt := 45) hx hb dX4_isSound_27 (by decide) (fun k_3 => absurd k_3 (by decide)) (fun k_3 => ?_)
        refine lv_aload_n hx hb dX4_isSound_30 rfl (lv_at hl 1 rfl) ?_
        refine kx_gauditor hx hb hts hin4 hown hX (hts (.fieldLink RX4 31 "Orderlattice" "auditor" "LOrderlattice$Auditor;") (tm 452 (by decide +kernel) rfl)) dX4_isSound_31 ?_
        refine lv_aload_n hx hb dX4_isSound_34 rfl (lv_at hl 0 rfl) ?_
        refine kx_cr (v := bI true) (va_runV (As := [.ref (ad (24 + 5 * a))]) (rest := []) ⟨hx, hb, hml, hown, hts⟩ (m_X0_areRanksAsClasses l dC dI ad S1 a (by omega) (hK.1.2 a (by omega))) (cwV 1 hts gX4_isSound_X0_areRanksAsClasses rfl rfl rfl hdX0_areRanksAsClasses_1 ⟨Nat.le_of_ble_eq_true rfl, Nat.le_of_ble_eq_true rfl⟩) (hX.preTop 56 2 (by decide) (by decide) rfl rfl) rfl rfl hl.1 rfl (lv_room (Nat.le_of_ble_eq_true rfl)) dX4_isSound_35 ⟨Nat.le_of_ble_eq_true rfl, Nat.le_of_ble_eq_true rfl⟩) (fun _ h => h.trans (congrArg bI (decide_eq_true (rank_all (hK.1.2 a (by omega)))))) ?_
        refine kb_if_eq (tgt := 45) hx hb dX4_isSound_38 (by decide) (fun k_4 => absurd k_4 (by decide)) (fun k_4 => ?_)
        refine lv_iconst (v := bI true) hx hb dX4_isSound_41 (by decide) ?_
        refine lv_goto (tgt := 46) hx hb dX4_isSound_42 (by decide) ?_
        refine lv_istore_n (lv' := [(1, .int (bI true)), (3, .ref (ad (24 + 5 * a))), (0, .ref (ad 57)), (2, .int (nI a))]) hx hb dX4_isSound_46 rfl hl (by decide) rfl (fun ls hl => ?_)
        refine lv_iconst (v := nI 0) hx hb dX4_isSound_47 (by decide) ?_
        refine lv_istore (lv' := [(4, .int (nI 0)), (1, .int (bI true)), (3, .ref (ad (24 + 5 * a))), (0, .ref (ad 57)), (2, .int (nI a))]) hx hb dX4_isSound_48 hl (by decide) rfl (fun ls hl => ?_)
        have loop50 : ∀ (fuel : Nat) (S2 : XS) (b9 : Nat) (hK : KA S S2) (hb9 : b9 ≤ 3) (H : Heap) (locs : List Loc), 3 - b9 < fuel → WX dC dI ad S2 (AX ad) s H locs → ∀ ls : Array Slot, lv_has ls 7 [(0, .ref (ad 57)), (1, .int (bI true)), (2, .int (nI a)), (3, .ref (ad (24 + 5 * a))), (4, .int (nI b9))] → W p l e ({ frames := 5, cells := 0, slots := 0, locals := 129 } : Room) s m ([.ref (ad 57)]).toArray below meth c H locs 0 0 (MQ below (va_Qi (fun r S' => r = bI true ∧ KA S S') (PX dC dI ad) (AX ad)) ([.ref (ad 57)]).toArray s 0 0 (AX ad)) (F0 m 50 ls []) := by
          intro fuel
          induction fuel with
          | zero => intro S2 b9 hK hb9 H locs hf; exact absurd hf (Nat.not_lt_zero _)
          | succ fuel ih50 =>
            intro S2 b9 hK hb9 H locs hf hX ls hl
            refine lv_iload_n hx hb dX4_isSound_50 rfl (lv_at hl 1 rfl) ?_
            refine kb_if_eq (tgt := 132) hx hb dX4_isSound_51 (by decide) (fun k_5 => absurd k_5 (by decide)) (fun k_5 => ?_)
            refine lv_iload hx hb dX4_isSound_54 (lv_at hl 4 rfl) ?_
            refine lv_iconst (v := nI 3) hx hb dX4_isSound_56 (by decide) ?_
            refine kn_icmp_ge (tgt := 132) hx hb (by omega) (by omega) dX4_isSound_57 (by decide) (fun k_6 => ?_) (fun k_6 => ?_)
            · skip
              refine lv_iconst (v := nI 0) hx hb dX4_isSound_132 (by decide) ?_
              refine lv_istore (lv' := [(4, .int (nI 0)), (0, .ref (ad 57)), (1, .int (bI true)), (2, .int (nI a)), (3, .ref (ad (24 + 5 * a)))]) hx hb dX4_isSound_133 hl (by decide) rfl (fun ls hl => ?_)
              have loop135 : ∀ (fuel : Nat) (S3 : XS) (c9 : Nat) (hK : KA S S3) (hc9 : c9 ≤ 4) (H : Heap) (locs : List Loc), 4 - c9 < fuel → WX dC dI ad S3 (AX ad) s H locs → ∀ ls : Array Slot, lv_has ls 7 [(0, .ref (ad 57)), (1, .int (bI true)), (2, .int (nI a)), (3, .ref (ad (24 + 5 * a))), (4, .int (nI c9))] → W p l e ({ frames := 5, cells := 0, slots := 0, locals := 129 } : Room) s m ([.ref (ad 57)]).toArray below meth c H locs 0 0 (MQ below (va_Qi (fun r S' => r = bI true ∧ KA S S') (PX dC dI ad) (AX ad)) ([.ref (ad 57)]).toArray s 0 0 (AX ad)) (F0 m 135 ls []) := by
                intro fuel
                induction fuel with
                | zero => intro S3 c9 hK hc9 H locs hf; exact absurd hf (Nat.not_lt_zero _)
                | succ fuel ih135 =>
                  intro S3 c9 hK hc9 H locs hf hX ls hl
                  refine lv_iload_n hx hb dX4_isSound_135 rfl (lv_at hl 1 rfl) ?_
                  refine kb_if_eq (tgt := 206) hx hb dX4_isSound_136 (by decide) (fun k_7 => absurd k_7 (by decide)) (fun k_7 => ?_)
                  refine lv_iload hx hb dX4_isSound_139 (lv_at hl 4 rfl) ?_
                  refine lv_iconst (v := nI 4) hx hb dX4_isSound_141 (by decide) ?_
                  refine kn_icmp_ge (tgt := 206) hx hb (by omega) (by omega) dX4_isSound_142 (by decide) (fun k_8 => ?_) (fun k_8 => ?_)
                  · skip
                    refine lv_iinc (v := nI (a + 1)) (lv' := [(2, .int (nI (a + 1))), (0, .ref (ad 57)), (1, .int (bI true)), (3, .ref (ad (24 + 5 * a))), (4, .int (nI c9))]) hx hb dX4_isSound_206 hl (k := 2) rfl (nI_1 a) (by decide) rfl (fun ls hl => ?_)
                    refine lv_goto (tgt := 4) hx hb dX4_isSound_209 (by decide) ?_
                    exact ih4  S3 (a + 1) hK (by omega) _ _ (by omega) hX _ (lv_sub hl [1, 2, 0] rfl)
                  · skip
                    refine lv_aload_n hx hb dX4_isSound_145 rfl (lv_at hl 0 rfl) ?_
                    refine lv_iload hx hb dX4_isSound_146 (lv_at hl 4 rfl) ?_
                    refine va_csr (va_Run.run (va_runV (As := [.int (nI c9)]) (rest := []) ⟨hx, hb, hml, hown, hts⟩ (m_X4_orderAt l dC dI ad S3 c9 (by omega)) (cwV 1 hts gX4_isSound_X4_orderAt rfl rfl rfl hdX4_orderAt_1 ⟨Nat.le_of_ble_eq_true rfl, Nat.le_of_ble_eq_true rfl⟩) (hX.preTop 57 6 (by decide) (by decide) rfl rfl) rfl rfl hl.1 rfl (lv_room (Nat.le_of_ble_eq_true rfl)) dX4_isSound_148 ⟨Nat.le_of_ble_eq_true rfl, Nat.le_of_ble_eq_true rfl⟩)) (fun k_ hk_ => ?_)
                    rw [hk_]
                    refine lv_astore (lv' := [(5, .ref (ad (24 + 5 * c9))), (0, .ref (ad 57)), (1, .int (bI true)), (2, .int (nI a)), (3, .ref (ad (24 + 5 * a))), (4, .int (nI c9))]) hx hb dX4_isSound_151 hl (by decide) rfl (fun ls hl => ?_)
                    refine lv_aload_n hx hb dX4_isSound_153 rfl (lv_at hl 1 rfl) ?_
                    refine kx_gauditor hx hb hts hin4 hown hX (hts (.fieldLink RX4 31 "Orderlattice" "auditor" "LOrderlattice$Auditor;") (tm 452 (by decide +kernel) rfl)) dX4_isSound_154 ?_
                    refine lv_aload_n hx hb dX4_isSound_157 rfl (lv_at hl 4 rfl) ?_
                    refine lv_aload hx hb dX4_isSound_158 (lv_at hl 0 rfl) ?_
                    refine kx_ci (va_runV (As := [.ref (ad (24 + 5 * a)), .ref (ad (24 + 5 * c9))]) (rest := []) ⟨hx, hb, hml, hown, hts⟩ (u_X0_isRefiningSound l dC dI ad S3 a c9 (by omega) (by omega) hK.1 (by rw [hK.2.2.2 a (by omega)]; exact h5 a (by omega)) (by rw [hK.2.2.2 c9 (by omega)]; exact h5 c9 (by omega))) (cwV 2 hts gX4_isSound_X0_isRefiningSound rfl rfl rfl hdX0_isRefiningSound_2 ⟨Nat.le_of_ble_eq_true rfl, Nat.le_of_ble_eq_true rfl⟩) (hX.preTop 56 2 (by decide) (by decide) rfl rfl) rfl rfl hl.1 rfl (lv_room (Nat.le_of_ble_eq_true rfl)) dX4_isSound_160 ⟨Nat.le_of_ble_eq_true rfl, Nat.le_of_ble_eq_true rfl⟩) hX (fun _ h => h) (fun r_ S_9 H locs hw hX => ?_)
                    obtain ⟨rfl, hK9⟩ := hw
                    replace hK := KA_trans hK hK9
                    refine lv_istore_n (lv' := [(1, .int (bI true)), (5, .ref (ad (24 + 5 * c9))), (0, .ref (ad 57)), (2, .int (nI a)), (3, .ref (ad (24 + 5 * a))), (4, .int (nI c9))]) hx hb dX4_isSound_163 rfl hl (by decide) rfl (fun ls hl => ?_)
                    refine lv_iconst (v := nI 0) hx hb dX4_isSound_164 (by decide) ?_
                    refine lv_istore (lv' := [(6, .int (nI 0)), (1, .int (bI true)), (5, .ref (ad (24 + 5 * c9))), (0, .ref (ad 57)), (2, .int (nI a)), (3, .ref (ad (24 + 5 * a))), (4, .int (nI c9))]) hx hb dX4_isSound_165 hl (by decide) rfl (fun ls hl => ?_)
                    have loop167 : ∀ (fuel : Nat) (S4 : XS) (d9 : Nat) (hK : KA S S4) (hd9 : d9 ≤ 3) (H : Heap) (locs : List Loc), 3 - d9 < fuel → WX dC dI ad S4 (AX ad) s H locs → ∀ ls : Array Slot, lv_has ls 7 [(0, .ref (ad 57)), (1, .int (bI true)), (2, .int (nI a)), (3, .ref (ad (24 + 5 * a))), (4, .int (nI c9)), (5, .ref (ad (24 + 5 * c9))), (6, .int (nI d9))] → W p l e ({ frames := 5, cells := 0, slots := 0, locals := 129 } : Room) s m ([.ref (ad 57)]).toArray below meth c H locs 0 0 (MQ below (va_Qi (fun r S' => r = bI true ∧ KA S S') (PX dC dI ad) (AX ad)) ([.ref (ad 57)]).toArray s 0 0 (AX ad)) (F0 m 167 ls []) := by
                      intro fuel
                      induction fuel with
                      | zero => intro S4 d9 hK hd9 H locs hf; exact absurd hf (Nat.not_lt_zero _)
                      | succ fuel ih167 =>
                        intro S4 d9 hK hd9 H locs hf hX ls hl
                        refine lv_iload_n hx hb dX4_isSound_167 rfl (lv_at hl 1 rfl) ?_
                        refine kb_if_eq (tgt := 200) hx hb dX4_isSound_168 (by decide) (fun k_10 => absurd k_10 (by decide)) (fun k_10 => ?_)
                        refine lv_iload hx hb dX4_isSound_171 (lv_at hl 6 rfl) ?_
                        refine lv_iconst (v := nI 3) hx hb dX4_isSound_173 (by decide) ?_
                        refine kn_icmp_ge (tgt := 200) hx hb (by omega) (by omega) dX4_isSound_174 (by decide) (fun k_11 => ?_) (fun k_11 => ?_)
                        · skip
                          refine lv_iinc (v := nI (c9 + 1)) (lv' := [(4, .int (nI (c9 + 1))), (0, .ref (ad 57)), (1, .int (bI true)), (2, .int (nI a)), (3, .ref (ad (24 + 5 * a))), (5, .ref (ad (24 + 5 * c9))), (6, .int (nI d9))]) hx hb dX4_isSound_200 hl (k := 4) rfl (nI_1 c9) (by decide) rfl (fun ls hl => ?_)
                          refine lv_goto (tgt := 135) hx hb dX4_isSound_203 (by decide) ?_
                          exact ih135  S4 (c9 + 1) hK (by omega) _ _ (by omega) hX _ (lv_sub hl [1, 2, 3, 4, 0] rfl)
                        · skip
                          refine lv_aload_n hx hb dX4_isSound_177 rfl (lv_at hl 0 rfl) ?_
                          refine kx_gauditor hx hb hts hin4 hown hX (hts (.fieldLink RX4 31 "Orderlattice" "auditor" "LOrderlattice$Auditor;") (tm 452 (by decide +kernel) rfl)) dX4_isSound_178 ?_
                          refine lv_aload_n hx hb dX4_isSound_181 rfl (lv_at hl 0 rfl) ?_
                          refine lv_iload hx hb dX4_isSound_182 (lv_at hl 6 rfl) ?_
                          refine va_csr (va_Run.run (va_runV (As := [.int (nI d9)]) (rest := [.ref (ad 56)]) ⟨hx, hb, hml, hown, hts⟩ (m_X4_rowAt l dC dI ad S4 d9 (by omega)) (cwV 1 hts gX4_isSound_X4_rowAt rfl rfl rfl hdX4_rowAt_1 ⟨Nat.le_of_ble_eq_true rfl, Nat.le_of_ble_eq_true rfl⟩) (hX.preTop 57 6 (by decide) (by decide) rfl rfl) rfl rfl hl.1 rfl (lv_room (Nat.le_of_ble_eq_true rfl)) dX4_isSound_184 ⟨Nat.le_of_ble_eq_true rfl, Nat.le_of_ble_eq_true rfl⟩)) (fun k_ hk_ => ?_)
                          rw [hk_]
                          refine lv_aload_n hx hb dX4_isSound_187 rfl (lv_at hl 3 rfl) ?_
                          refine lv_aload hx hb dX4_isSound_188 (lv_at hl 5 rfl) ?_
                          refine kx_ci (va_runV (As := [.ref (ad (3 * d9)), .ref (ad (24 + 5 * a)), .ref (ad (24 + 5 * c9))]) (rest := []) ⟨hx, hb, hml, hown, hts⟩ (u_X0_isProductAlike l dC dI ad S4 d9 a c9 (by omega) (by omega) (by omega) hK.1 (by rw [hK.2.2.2 a (by omega)]; exact h5 a (by omega)) (by rw [hK.2.2.2 c9 (by omega)]; exact h5 c9 (by omega))) (cwV 3 hts gX4_isSound_X0_isProductAlike rfl rfl rfl hdX0_isProductAlike_3 ⟨Nat.le_of_ble_eq_true rfl, Nat.le_of_ble_eq_true rfl⟩) (hX.preTop 56 2 (by decide) (by decide) rfl rfl) rfl rfl hl.1 rfl (lv_room (Nat.le_of_ble_eq_true rfl)) dX4_isSound_190 ⟨Nat.le_of_ble_eq_true rfl, Nat.le_of_ble_eq_true rfl⟩) hX (fun _ h => h) (fun r_ S_12 H locs hw hX => ?_)
                          obtain ⟨rfl, hK9⟩ := hw
                          replace hK := KA_trans hK hK9
                          refine lv_istore_n (lv' := [(1, .int (bI true)), (0, .ref (ad 57)), (2, .int (nI a)), (3, .ref (ad (24 + 5 * a))), (4, .int (nI c9)), (5, .ref (ad (24 + 5 * c9))), (6, .int (nI d9))]) hx hb dX4_isSound_193 rfl hl (by decide) rfl (fun ls hl => ?_)
                          refine lv_iinc (v := nI (d9 + 1)) (lv' := [(6, .int (nI (d9 + 1))), (1, .int (bI true)), (0, .ref (ad 57)), (2, .int (nI a)), (3, .ref (ad (24 + 5 * a))), (4, .int (nI c9)), (5, .ref (ad (24 + 5 * c9)))]) hx hb dX4_isSound_194 hl (k := 6) rfl (nI_1 d9) (by decide) rfl (fun ls hl => ?_)
                          refine lv_goto (tgt := 167) hx hb dX4_isSound_197 (by decide) ?_
                          exact ih167  S_12 (d9 + 1) hK (by omega) _ _ (by omega) hX _ (lv_sub hl [2, 1, 3, 4, 5, 6, 0] rfl)
                    exact loop167 (3 + 1) S_9 0 hK (by omega) _ _ (by omega) (WX.eqS rfl hX) _ (lv_sub hl [3, 1, 4, 5, 6, 2, 0] rfl)
              exact loop135 (4 + 1) S2 0 hK (by omega) _ _ (by omega) (WX.eqS rfl hX) _ (lv_sub hl [1, 2, 3, 4, 0] rfl)
            · skip
              refine lv_aload_n hx hb dX4_isSound_60 rfl (lv_at hl 0 rfl) ?_
              refine lv_iload hx hb dX4_isSound_61 (lv_at hl 4 rfl) ?_
              refine va_csr (va_Run.run (va_runV (As := [.int (nI b9)]) (rest := []) ⟨hx, hb, hml, hown, hts⟩ (m_X4_rowAt l dC dI ad S2 b9 (by omega)) (cwV 1 hts gX4_isSound_X4_rowAt rfl rfl rfl hdX4_rowAt_1 ⟨Nat.le_of_ble_eq_true rfl, Nat.le_of_ble_eq_true rfl⟩) (hX.preTop 57 6 (by decide) (by decide) rfl rfl) rfl rfl hl.1 rfl (lv_room (Nat.le_of_ble_eq_true rfl)) dX4_isSound_63 ⟨Nat.le_of_ble_eq_true rfl, Nat.le_of_ble_eq_true rfl⟩)) (fun k_ hk_ => ?_)
              rw [hk_]
              refine lv_astore (lv' := [(5, .ref (ad (3 * b9))), (0, .ref (ad 57)), (1, .int (bI true)), (2, .int (nI a)), (3, .ref (ad (24 + 5 * a))), (4, .int (nI b9))]) hx hb dX4_isSound_66 hl (by decide) rfl (fun ls hl => ?_)
              refine lv_aload_n hx hb dX4_isSound_68 rfl (lv_at hl 1 rfl) ?_
              refine kx_gauditor hx hb hts hin4 hown hX (hts (.fieldLink RX4 31 "Orderlattice" "auditor" "LOrderlattice$Auditor;") (tm 452 (by decide +kernel) rfl)) dX4_isSound_69 ?_
              refine lv_aload hx hb dX4_isSound_72 (lv_at hl 0 rfl) ?_
              refine lv_aload_n hx hb dX4_isSound_74 rfl (lv_at hl 4 rfl) ?_
              refine kx_ci (va_runV (As := [.ref (ad (3 * b9)), .ref (ad (24 + 5 * a))]) (rest := []) ⟨hx, hb, hml, hown, hts⟩ (u_X0_areWaysAgreed l dC dI ad S2 b9 a (by omega) (by omega) hK.1) (cwV 2 hts gX4_isSound_X0_areWaysAgreed rfl rfl rfl hdX0_areWaysAgreed_2 ⟨Nat.le_of_ble_eq_true rfl, Nat.le_of_ble_eq_true rfl⟩) (hX.preTop 56 2 (by decide) (by decide) rfl rfl) rfl rfl hl.1 rfl (lv_room (Nat.le_of_ble_eq_true rfl)) dX4_isSound_75 ⟨Nat.le_of_ble_eq_true rfl, Nat.le_of_ble_eq_true rfl⟩) hX (fun _ h => h) (fun r_ S_13 H locs hw hX => ?_)
              obtain ⟨rfl, hK9⟩ := hw
              replace hK := KA_trans hK hK9
              refine kb_if_eq (tgt := 124) hx hb dX4_isSound_78 (by decide) (fun k_14 => absurd k_14 (by decide)) (fun k_14 => ?_)
              refine lv_aload_n hx hb dX4_isSound_81 rfl (lv_at hl 1 rfl) ?_
              refine kx_gauditor hx hb hts hin4 hown hX (hts (.fieldLink RX4 31 "Orderlattice" "auditor" "LOrderlattice$Auditor;") (tm 452 (by decide +kernel) rfl)) dX4_isSound_82 ?_
              refine lv_aload hx hb dX4_isSound_85 (lv_at hl 0 rfl) ?_
              refine lv_aload_n hx hb dX4_isSound_87 rfl (lv_at hl 4 rfl) ?_
              refine kx_ci (va_runV (As := [.ref (ad (3 * b9)), .ref (ad (24 + 5 * a))]) (rest := []) ⟨hx, hb, hml, hown, hts⟩ (u_X0_staysSorted l dC dI ad S_13 b9 a (by omega) (by omega) hK.1) (cwV 2 hts gX4_isSound_X0_staysSorted rfl rfl rfl hdX0_staysSorted_2 ⟨Nat.le_of_ble_eq_true rfl, Nat.le_of_ble_eq_true rfl⟩) (hX.preTop 56 2 (by decide) (by decide) rfl rfl) rfl rfl hl.1 rfl (lv_room (Nat.le_of_ble_eq_true rfl)) dX4_isSound_88 ⟨Nat.le_of_ble_eq_true rfl, Nat.le_of_ble_eq_true rfl⟩) hX (fun _ h => h) (fun r_ S_15 H locs hw hX => ?_)
              obtain ⟨rfl, hK9⟩ := hw
              replace hK := KA_trans hK hK9
              refine kb_if_eq (tgt := 124) hx hb dX4_isSound_91 (by decide) (fun k_16 => absurd k_16 (by decide)) (fun k_16 => ?_)
              refine lv_aload_n hx hb dX4_isSound_94 rfl (lv_at hl 1 rfl) ?_
              refine kx_gauditor hx hb hts hin4 hown hX (hts (.fieldLink RX4 31 "Orderlattice" "auditor" "LOrderlattice$Auditor;") (tm 452 (by decide +kernel) rfl)) dX4_isSound_95 ?_
              refine lv_aload hx hb dX4_isSound_98 (lv_at hl 0 rfl) ?_
              refine lv_aload_n hx hb dX4_isSound_100 rfl (lv_at hl 4 rfl) ?_
              refine kx_ci (va_runV (As := [.ref (ad (3 * b9)), .ref (ad (24 + 5 * a))]) (rest := []) ⟨hx, hb, hml, hown, hts⟩ (u_X0_isTurnedAlike l dC dI ad S_15 b9 a (by omega) (by omega) hK.1) (cwV 2 hts gX4_isSound_X0_isTurnedAlike rfl rfl rfl hdX0_isTurnedAlike_2 ⟨Nat.le_of_ble_eq_true rfl, Nat.le_of_ble_eq_true rfl⟩) (hX.preTop 56 2 (by decide) (by decide) rfl rfl) rfl rfl hl.1 rfl (lv_room (Nat.le_of_ble_eq_true rfl)) dX4_isSound_101 ⟨Nat.le_of_ble_eq_true rfl, Nat.le_of_ble_eq_true rfl⟩) hX (fun _ h => h) (fun r_ S_17 H locs hw hX => ?_)
              obtain ⟨rfl, hK9⟩ := hw
              replace hK := KA_trans hK hK9
              refine kb_if_eq (tgt := 124) hx hb dX4_isSound_104 (by decide) (fun k_18 => absurd k_18 (by decide)) (fun k_18 => ?_)
              refine lv_aload_n hx hb dX4_isSound_107 rfl (lv_at hl 1 rfl) ?_
              refine kx_gauditor hx hb hts hin4 hown hX (hts (.fieldLink RX4 31 "Orderlattice" "auditor" "LOrderlattice$Auditor;") (tm 452 (by decide +kernel) rfl)) dX4_isSound_108 ?_
              refine lv_aload hx hb dX4_isSound_111 (lv_at hl 0 rfl) ?_
              refine lv_aload_n hx hb dX4_isSound_113 rfl (lv_at hl 4 rfl) ?_
              refine kx_ci (va_runV (As := [.ref (ad (3 * b9)), .ref (ad (24 + 5 * a))]) (rest := []) ⟨hx, hb, hml, hown, hts⟩ (u_X0_isQueuedAlike l dC dI ad S_17 b9 a (by omega) (by omega) hK.1) (cwV 2 hts gX4_isSound_X0_isQueuedAlike rfl rfl rfl hdX0_isQueuedAlike_2 ⟨Nat.le_of_ble_eq_true rfl, Nat.le_of_ble_eq_true rfl⟩) (hX.preTop 56 2 (by decide) (by decide) rfl rfl) rfl rfl hl.1 rfl (lv_room (Nat.le_of_ble_eq_true rfl)) dX4_isSound_114 ⟨Nat.le_of_ble_eq_true rfl, Nat.le_of_ble_eq_true rfl⟩) hX (fun _ h => h) (fun r_ S_19 H locs hw hX => ?_)
              obtain ⟨rfl, hK9⟩ := hw
              replace hK := KA_trans hK hK9
              refine kb_if_eq (tgt := 124) hx hb dX4_isSound_117 (by decide) (fun k_20 => absurd k_20 (by decide)) (fun k_20 => ?_)
              refine lv_iconst (v := bI true) hx hb dX4_isSound_120 (by decide) ?_
              refine lv_goto (tgt := 125) hx hb dX4_isSound_121 (by decide) ?_
              refine lv_istore_n (lv' := [(1, .int (bI true)), (5, .ref (ad (3 * b9))), (0, .ref (ad 57)), (2, .int (nI a)), (3, .ref (ad (24 + 5 * a))), (4, .int (nI b9))]) hx hb dX4_isSound_125 rfl hl (by decide) rfl (fun ls hl => ?_)
              refine lv_iinc (v := nI (b9 + 1)) (lv' := [(4, .int (nI (b9 + 1))), (1, .int (bI true)), (5, .ref (ad (3 * b9))), (0, .ref (ad 57)), (2, .int (nI a)), (3, .ref (ad (24 + 5 * a)))]) hx hb dX4_isSound_126 hl (k := 5) rfl (nI_1 b9) (by decide) rfl (fun ls hl => ?_)
              refine lv_goto (tgt := 50) hx hb dX4_isSound_129 (by decide) ?_
              exact ih50  S_19 (b9 + 1) hK (by omega) _ _ (by omega) hX _ (lv_sub hl [3, 1, 4, 5, 0] rfl)
        exact loop50 (3 + 1) S1 0 hK (by omega) _ _ (by omega) (WX.eqS rfl hX) _ (lv_sub hl [3, 1, 4, 2, 0] rfl)
  exact loop4 (4 + 1) S 0 hK (by omega) _ _ (by omega) (WX.eqS rfl hX) _ (lv_sub hl [2, 1, 0] rfl)
set_option maxHeartbeats 4000000 in
set_option maxRecDepth 100000 in
theorem u_X4_digest (l : Launch) (dC : Nat → ClassId) (dI : Nat → Nat → Nat) (ad : Nat → Nat) (S : XS) (hI : InvX S) (h5 : ∀ j, j < 4 → (S.2.1 j).2.2.2.2.1 ≤ 5) (hc : S.2.2.1 < 2 ^ 31 ∧ S.2.2.2.1 < 2 ^ 31 ∧ S.2.2.2.2 < 2 ^ 31) : Met l yX4_digest wsX4_digest ({ frames := 6, cells := 0, slots := 0, locals := 155 } : Room) (va_Pc [.ref (ad 57)] (PX dC dI ad S)) (va_Ql (fun r S' => r = mixI (mixSeqs S (mixPairs S (mixOrders S (mixRows S (iterL (fun k d => mixI d (countX S k)) 5 (lN 7842)))))) (bN true) ∧ KA S S') (PX dC dI ad) (AX ad)) 0 0 (AX ad) := by
  refine Met.ofW (cc := cX4_digest) (maxL := 4) (ret := (some .long)) pl_X4 rfl ?_
  intro p e s m args below meth c s₁ B hml hv
  obtain ⟨rfl, hPX⟩ := hv
  have hx := B.exec
  have hb := B.bytes
  have hr := B.returns
  have hts := atoms_spec (ws := wsX4_digest) B.pre
  have hown : s.vm.findClass RX4 = some m.cls := findClass_of_methodNamed B.named
  have hlocks := B.notSynchronized
  have hX := WX.of hPX
  have hl := lv_entry ([.ref (ad 57)]) (n := 4) (Nat.le_of_ble_eq_true rfl)
  rw [lg_entry_eq]
  generalize (lg_sl ([.ref (ad 57)]) ++ List.replicate (4 - (lg_sl ([.ref (ad 57)])).length) Slot.unset).toArray = ls at hl ⊢
  have hl : lv_has ls 4 [(0, .ref (ad 57))] := hl
  show W p l e ({ frames := 6, cells := 0, slots := 0, locals := 155 } : Room) s m ([.ref (ad 57)]).toArray below meth c s.heap [] 0 0 (MQ below (va_Ql (fun r S' => r = mixI (mixSeqs S (mixPairs S (mixOrders S (mixRows S (iterL (fun k d => mixI d (countX S k)) 5 (lN 7842)))))) (bN true) ∧ KA S S') (PX dC dI ad) (AX ad)) ([.ref (ad 57)]).toArray s 0 0 (AX ad)) (F0 m 0 ls [])
  refine lv_ldc2 (v := lN 7842) hx hb hown (hts (.constantLong RX4 279 7842) (tm 660 (by decide +kernel) rfl)) dX4_digest_0 ?_
  refine lv_lstore_n (lv' := [(1, .long (lN 7842)), (0, .ref (ad 57))]) hx hb dX4_digest_3 rfl hl (by decide) rfl (fun ls hl => ?_)
  refine lv_iconst (v := nI 0) hx hb dX4_digest_4 (by decide) ?_
  refine lv_istore_n (lv' := [(3, .int (nI 0)), (1, .long (lN 7842)), (0, .ref (ad 57))]) hx hb dX4_digest_5 rfl hl (by decide) rfl (fun ls hl => ?_)
  have loop6 : ∀ (fuel : Nat) (x : Int64) (k : Nat) (hk : k ≤ 5) (hx9 : x = iterL (fun k d => mixI d (countX S k)) k (lN 7842)), 5 - k < fuel → ∀ ls : Array Slot, lv_has ls 4 [(0, .ref (ad 57)), (1, .long x), (3, .int (nI k))] → W p l e ({ frames := 6, cells := 0, slots := 0, locals := 155 } : Room) s m ([.ref (ad 57)]).toArray below meth c s.heap [] 0 0 (MQ below (va_Ql (fun r S' => r = mixI (mixSeqs S (mixPairs S (mixOrders S (mixRows S (iterL (fun k d => mixI d (countX S k)) 5 (lN 7842)))))) (bN true) ∧ KA S S') (PX dC dI ad) (AX ad)) ([.ref (ad 57)]).toArray s 0 0 (AX ad)) (F0 m 6 ls []) := by
    intro fuel
    induction fuel with
    | zero => intro x k hk hx9 hf; exact absurd hf (Nat.not_lt_zero _)
    | succ fuel ih6 =>
      intro x k hk hx9 hf ls hl
      refine lv_iload_n hx hb dX4_digest_6 rfl (lv_at hl 2 rfl) ?_
      refine lv_iconst (v := nI 5) hx hb dX4_digest_7 (by decide) ?_
      refine kn_icmp_ge (tgt := 27) hx hb (by omega) (by omega) dX4_digest_8 (by decide) (fun k_1 => ?_) (fun k_1 => ?_)
      · skip
        refine lv_aload_n hx hb dX4_digest_27 rfl (lv_at hl 0 rfl) ?_
        refine lv_lload_n hx hb dX4_digest_28 rfl (lv_at hl 1 rfl) ?_
        refine kx_crl (v := mixRows S x) (va_runV (As := [.long x]) (rest := []) ⟨hx, hb, hml, hown, hts⟩ (m_X4_mixedWithRows l dC dI ad S x hI) (cwV 1 hts gX4_digest_X4_mixedWithRows rfl rfl rfl hdX4_mixedWithRows_1 ⟨Nat.le_of_ble_eq_true rfl, Nat.le_of_ble_eq_true rfl⟩) (hX.preTop 57 6 (by decide) (by decide) rfl rfl) rfl rfl hl.1 rfl (lv_room (Nat.le_of_ble_eq_true rfl)) dX4_digest_29 ⟨Nat.le_of_ble_eq_true rfl, Nat.le_of_ble_eq_true rfl⟩) (fun _ h => h) ?_
        refine lv_lstore_n (lv' := [(1, .long (mixRows S x)), (0, .ref (ad 57)), (3, .int (nI k))]) hx hb dX4_digest_32 rfl hl (by decide) rfl (fun ls hl => ?_)
        refine lv_aload_n hx hb dX4_digest_33 rfl (lv_at hl 1 rfl) ?_
        refine lv_lload_n hx hb dX4_digest_34 rfl (lv_at hl 0 rfl) ?_
        refine kx_crl (v := mixOrders S (mixRows S x)) (va_runV (As := [.long (mixRows S x)]) (rest := []) ⟨hx, hb, hml, hown, hts⟩ (m_X4_mixedWithOrders l dC dI ad S (mixRows S x) hI) (cwV 1 hts gX4_digest_X4_mixedWithOrders rfl rfl rfl hdX4_mixedWithOrders_1 ⟨Nat.le_of_ble_eq_true rfl, Nat.le_of_ble_eq_true rfl⟩) (hX.preTop 57 6 (by decide) (by decide) rfl rfl) rfl rfl hl.1 rfl (lv_room (Nat.le_of_ble_eq_true rfl)) dX4_digest_35 ⟨Nat.le_of_ble_eq_true rfl, Nat.le_of_ble_eq_true rfl⟩) (fun _ h => h) ?_
        refine lv_lstore_n (lv' := [(1, .long (mixOrders S (mixRows S x))), (0, .ref (ad 57)), (3, .int (nI k))]) hx hb dX4_digest_38 rfl hl (by decide) rfl (fun ls hl => ?_)
        refine lv_aload_n hx hb dX4_digest_39 rfl (lv_at hl 1 rfl) ?_
        refine lv_lload_n hx hb dX4_digest_40 rfl (lv_at hl 0 rfl) ?_
        refine kx_crl (v := mixPairs S (mixOrders S (mixRows S x))) (va_runV (As := [.long (mixOrders S (mixRows S x))]) (rest := []) ⟨hx, hb, hml, hown, hts⟩ (m_X4_mixedWithPairs l dC dI ad S (mixOrders S (mixRows S x)) hI) (cwV 1 hts gX4_digest_X4_mixedWithPairs rfl rfl rfl hdX4_mixedWithPairs_1 ⟨Nat.le_of_ble_eq_true rfl, Nat.le_of_ble_eq_true rfl⟩) (hX.preTop 57 6 (by decide) (by decide) rfl rfl) rfl rfl hl.1 rfl (lv_room (Nat.le_of_ble_eq_true rfl)) dX4_digest_41 ⟨Nat.le_of_ble_eq_true rfl, Nat.le_of_ble_eq_true rfl⟩) (fun _ h => h) ?_
        refine lv_lstore_n (lv' := [(1, .long (mixPairs S (mixOrders S (mixRows S x)))), (0, .ref (ad 57)), (3, .int (nI k))]) hx hb dX4_digest_44 rfl hl (by decide) rfl (fun ls hl => ?_)
        refine lv_aload_n hx hb dX4_digest_45 rfl (lv_at hl 1 rfl) ?_
        refine lv_lload_n hx hb dX4_digest_46 rfl (lv_at hl 0 rfl) ?_
        refine kx_crl (v := mixSeqs S (mixPairs S (mixOrders S (mixRows S x)))) (va_runV (As := [.long (mixPairs S (mixOrders S (mixRows S x)))]) (rest := []) ⟨hx, hb, hml, hown, hts⟩ (m_X4_mixedWithSequences l dC dI ad S (mixPairs S (mixOrders S (mixRows S x))) hI) (cwV 1 hts gX4_digest_X4_mixedWithSequences rfl rfl rfl hdX4_mixedWithSequences_1 ⟨Nat.le_of_ble_eq_true rfl, Nat.le_of_ble_eq_true rfl⟩) (hX.preTop 57 6 (by decide) (by decide) rfl rfl) rfl rfl hl.1 rfl (lv_room (Nat.le_of_ble_eq_true rfl)) dX4_digest_47 ⟨Nat.le_of_ble_eq_true rfl, Nat.le_of_ble_eq_true rfl⟩) (fun _ h => h) ?_
        refine lv_lstore_n (lv' := [(1, .long (mixSeqs S (mixPairs S (mixOrders S (mixRows S x))))), (0, .ref (ad 57)), (3, .int (nI k))]) hx hb dX4_digest_50 rfl hl (by decide) rfl (fun ls hl => ?_)
        refine lv_lload_n hx hb dX4_digest_51 rfl (lv_at hl 0 rfl) ?_
        refine lv_aload_n hx hb dX4_digest_52 rfl (lv_at hl 1 rfl) ?_
        refine kx_ci (va_runV (As := []) (rest := [.long (mixSeqs S (mixPairs S (mixOrders S (mixRows S x))))]) ⟨hx, hb, hml, hown, hts⟩ (u_X4_isSound l dC dI ad S hI h5) (cwV 0 hts gX4_digest_X4_isSound rfl rfl rfl hdX4_isSound_0 ⟨Nat.le_of_ble_eq_true rfl, Nat.le_of_ble_eq_true rfl⟩) (hX.preTop 57 6 (by decide) (by decide) rfl rfl) rfl rfl hl.1 rfl (lv_room (Nat.le_of_ble_eq_true rfl)) dX4_digest_53 ⟨Nat.le_of_ble_eq_true rfl, Nat.le_of_ble_eq_true rfl⟩) hX (fun _ h => h) (fun r_ S_2 H locs hw hX => ?_)
        obtain ⟨rfl, hK⟩ := hw
        refine kb_if_eq (tgt := 63) hx hb dX4_digest_56 (by decide) (fun k_3 => absurd k_3 (by decide)) (fun k_3 => ?_)
        refine lv_iconst (v := nI 1) hx hb dX4_digest_59 (by decide) ?_
        refine lv_goto (tgt := 64) hx hb dX4_digest_60 (by decide) ?_
        refine kx_crl (v := mixI (mixSeqs S (mixPairs S (mixOrders S (mixRows S x)))) 1) (va_runS (As := [.long (mixSeqs S (mixPairs S (mixOrders S (mixRows S x)))), .int (nI 1)]) (rest := []) ⟨hx, hb, hml, hown, hts⟩ (m_X4_mixed l dC dI ad S_2 (mixSeqs S (mixPairs S (mixOrders S (mixRows S x)))) 1 (by omega)) (va_cwS 2 hts gX4_digest_X4_mixed rfl rfl rfl hdX4_mixed_2.2 ⟨Nat.le_of_ble_eq_true rfl, Nat.le_of_ble_eq_true rfl⟩) hX.preS rfl rfl hl.1 rfl (lv_room (Nat.le_of_ble_eq_true rfl)) dX4_digest_64 ⟨Nat.le_of_ble_eq_true rfl, Nat.le_of_ble_eq_true rfl⟩) (fun _ h => h) ?_
        exact W.lret (v := mixI (mixSeqs S (mixPairs S (mixOrders S (mixRows S x)))) 1) hx hb hr (fun t9 ht9 hW9 => ⟨⟨_, S_2, rfl, ⟨by rw [hx9, show k = 5 by omega]; rfl, hK⟩, hX.P ht9 hW9⟩, hX.2.2.2.F ht9⟩) hX.2.2.2.2.2 dX4_digest_67
      · skip
        refine lv_lload_n hx hb dX4_digest_11 rfl (lv_at hl 1 rfl) ?_
        refine lv_aload_n hx hb dX4_digest_12 rfl (lv_at hl 0 rfl) ?_
        refine lv_iload_n hx hb dX4_digest_13 rfl (lv_at hl 2 rfl) ?_
        have hcx : countX S k < 2 ^ 31 := countX_lt hI hc k
        refine kx_cr (v := nI (countX S k)) (va_runV (As := [.int (nI k)]) (rest := [.long x]) ⟨hx, hb, hml, hown, hts⟩ (m_X4_count l dC dI ad S k (by omega) hI) (cwV 1 hts gX4_digest_X4_count rfl rfl rfl hdX4_count_1 ⟨Nat.le_of_ble_eq_true rfl, Nat.le_of_ble_eq_true rfl⟩) (hX.preTop 57 6 (by decide) (by decide) rfl rfl) rfl rfl hl.1 rfl (lv_room (Nat.le_of_ble_eq_true rfl)) dX4_digest_14 ⟨Nat.le_of_ble_eq_true rfl, Nat.le_of_ble_eq_true rfl⟩) (fun _ h => h) ?_
        refine kx_crl (v := mixI x (countX S k)) (va_runS (As := [.long x, .int (nI (countX S k))]) (rest := []) ⟨hx, hb, hml, hown, hts⟩ (m_X4_mixed l dC dI ad S x (countX S k) (by omega)) (va_cwS 2 hts gX4_digest_X4_mixed rfl rfl rfl hdX4_mixed_2.2 ⟨Nat.le_of_ble_eq_true rfl, Nat.le_of_ble_eq_true rfl⟩) hX.preS rfl rfl hl.1 rfl (lv_room (Nat.le_of_ble_eq_true rfl)) dX4_digest_17 ⟨Nat.le_of_ble_eq_true rfl, Nat.le_of_ble_eq_true rfl⟩) (fun _ h => h) ?_
        refine lv_lstore_n (lv' := [(1, .long (mixI x (countX S k))), (0, .ref (ad 57)), (3, .int (nI k))]) hx hb dX4_digest_20 rfl hl (by decide) rfl (fun ls hl => ?_)
        refine lv_iinc (v := nI (k + 1)) (lv' := [(3, .int (nI (k + 1))), (1, .long (mixI x (countX S k))), (0, .ref (ad 57))]) hx hb dX4_digest_21 hl (k := 2) rfl (nI_1 k) (by decide) rfl (fun ls hl => ?_)
        refine lv_goto (tgt := 6) hx hb dX4_digest_24 (by decide) ?_
        exact ih6  (mixI x (countX S k)) (k + 1) (by omega) (by rw [hx9]; rfl) (by omega) _ (lv_sub hl [2, 1, 0] rfl)
  exact loop6 (5 + 1) (lN 7842) 0 (by omega) rfl (by omega) _ (lv_sub hl [2, 1, 0] rfl)
end
section
/-! the law's wrappers: the class's world, and the object of answers at o -/
def AO (ad : Nat → Nat) (o q : Nat) : Prop := AX ad q ∨ q = o
def OC (dC : Nat → ClassId) (dI : Nat → Nat → Nat) (o : Nat) (H : Heap) : Prop := ∃ (n : Int64) (v : Value), (v = .null ∨ ∃ q, v = .ref q) ∧ va_P (dC, dI) vwCl [(o, .inr (7, [.long n, v]))] H
/-- the links by which the law reaches the object of answers -/
def NF9 (U : State) : Prop := va_Nw (.fieldLinkNest "OrderlatticeLaw" 13 RX5 "n" "J" "OrderlatticeLaw") U ∧ va_Nw (.fieldLinkNest "OrderlatticeLaw" 73 RX5 "s" "Ljava/lang/String;" "OrderlatticeLaw") U
theorem NF9.warm {s U : State} (hW : s.WarmedH U.vm) (h : NF9 s) : NF9 U := ⟨va_Nw.warmF hW h.1, va_Nw.warmF hW h.2⟩
theorem NF9.same {s U : State} (hv : s.vm = U.vm) (h : NF9 s) : NF9 U := ⟨va_Nw.same rfl hv h.1, va_Nw.same rfl hv h.2⟩
def PW (dC : Nat → ClassId) (dI : Nat → Nat → Nat) (cB : ClassId) (ad : Nat → Nat) (o : Nat) (S : XS) (U : State) : Prop := PXZ dC dI ad S U ∧ PT dC dI cB ad S U ∧ OC dC dI o U.heap ∧ ¬ AX ad o ∧ va_Nc IA IX U ∧ NF9 U
/-- what a call keeps: all in its bounds; the counters grow by little; no knock -/
def LQ (S S1 : XS) : Prop := InvX S1 ∧ (∀ j, j < 4 → (S1.2.1 j).2.2.2.2.1 ≤ 5) ∧ S1.2.2.1 ≤ S.2.2.1 + 12 ∧ S1.2.2.2.1 ≤ S.2.2.2.1 + 1 ∧ S1.2.2.2.2 = S.2.2.2.2
theorem wX_len {dC : Nat → ClassId} {ad : Nat → Nat} {S : XS} : (wX dC ad S).length = 60 := by rw [wX, List.length_map, List.length_range]
theorem OC.kept {dC : Nat → ClassId} {dI : Nat → Nat → Nat} {o : Nat} {H H1 : Heap} (h : OC dC dI o H) (hk : H1[o]? = H[o]?) : OC dC dI o H1 := by
  obtain ⟨n, v, h1, h2⟩ := h
  refine ⟨n, v, h1, h2.kept (fun k q hq => ?_)⟩
  have h3 : k < 1 := (List.getElem?_eq_some_iff.mp hq).1
  obtain rfl : k = 0 := by omega
  cases hq
  exact hk
theorem OC.lt {dC : Nat → ClassId} {dI : Nat → Nat → Nat} {o : Nat} {H : Heap} (h : OC dC dI o H) : o < H.size := by
  obtain ⟨n, v, h1, h2⟩ := h
  exact (h2 0 _ rfl).lt
theorem PW.blind {dC : Nat → ClassId} {dI : Nat → Nat → Nat} {cB : ClassId} {ad : Nat → Nat} {o : Nat} {S : XS} {av : List Value} : FrameBlind (va_Pc av (PW dC dI cB ad o S)) := fun a U g mk h => ⟨h.1, (PXZ.blind (av := av) a U g mk ⟨h.1, h.2.1⟩).2, h.2.2.1.call, h.2.2.2.1, h.2.2.2.2.1, va_Nc.moved (u := U) (U := U.calling g mk a) (Vm.Alike.refl U.vm) h.2.2.2.2.2.1, NF9.same (s := U) (U := U.calling g mk a) rfl h.2.2.2.2.2.2⟩
section KW
variable {dC : Nat → ClassId} {dI : Nat → Nat → Nat} {cB : ClassId} {ad : Nat → Nat} {o : Nat} {S : XS} {s : State} {H : Heap} {locs : List Loc}
theorem wo_P {x : Nat × va_E} (hP : va_P (dC, dI) vwCl (wX dC ad S) H) (hO : va_P (dC, dI) vwCl [x] H) : va_P (dC, dI) vwCl (wX dC ad S ++ [x]) H := fun k q hq => by
  by_cases h : k < 60
  · rw [List.getElem?_append_left (by rw [wX_len]; exact h)] at hq
    exact hP k q hq
  · rw [List.getElem?_append_right (by rw [wX_len]; omega)] at hq
    exact hO _ q hq
theorem wo_D {e : va_E} (hD : va_D (AO ad o) (wX dC ad S)) (hno : ¬ AX ad o) : va_D (AO ad o) (wX dC ad S ++ [(o, e)]) := by
  have one : ∀ k q, (wX dC ad S ++ [(o, e)])[k]? = some q → ((wX dC ad S)[k]? = some q ∧ k < 60 ∧ q.1 = ad k) ∨ (k = 60 ∧ q = (o, e)) := fun k q hq => by
    by_cases h : k < 60
    · rw [List.getElem?_append_left (by rw [wX_len]; exact h)] at hq
      exact Or.inl ⟨hq, h, (wX_in k q hq).2⟩
    · rw [List.getElem?_append_right (by rw [wX_len]; omega), wX_len] at hq
      have h3 : k - 60 < 1 := (List.getElem?_eq_some_iff.mp hq).1
      obtain rfl : k = 60 := by omega
      cases hq
      exact Or.inr ⟨rfl, rfl⟩
  refine ⟨fun i j p q hi hj e1 => ?_, fun k q hq => ?_⟩
  · rcases one i p hi with ⟨h1, h2, h3⟩ | ⟨h1, h2⟩
    · rcases one j q hj with ⟨h4, h5, h6⟩ | ⟨h4, h5⟩
      · exact hD.1 i j p q h1 h4 e1
      · rw [h5] at e1
        exact absurd ⟨i, h2, by rw [← h3]; exact e1.symm⟩ hno
    · rcases one j q hj with ⟨h4, h5, h6⟩ | ⟨h4, h5⟩
      · rw [h2] at e1
        exact absurd ⟨j, h5, by rw [← h6]; exact e1⟩ hno
      · rw [h1, h4]
  · rcases one k q hq with ⟨h1, h2, h3⟩ | ⟨h1, h2⟩
    · exact Or.inl ⟨k, h2, h3⟩
    · rw [h2]; exact Or.inr rfl
theorem WX.ofW (h : PW dC dI cB ad o S s) : WX dC dI ad S (AO ad o) s s.heap [] := ⟨h.2.1.1.1, h.2.1.1.2.1, h.2.1.1.2.2.weaken (fun _ _ _ h => Or.inl h), va_S.rf⟩
theorem PW.preT (h : PW dC dI cB ad o S s) {As : List Value} : PreV s s.heap RX4 (ad 57) (va_Pc (Value.ref (ad 57) :: As) (PT dC dI cB ad S)) As :=
  ⟨PT.blind, ((WX.of h.2.1.1).preTop 57 6 (by decide) (by decide) rfl rfl (As := As)).2.1, fun _ hU hW => ⟨rfl, TB.toPT (TB.of h.2.1) (WX.ofT h.2.1) h.2.1.2.2.2 hU hW⟩⟩
end KW
section KW2
variable {p : Program} {l : Launch} {e : Env} {R : Room} {s : State} {m : MethodId} {args : Array Value} {below : List Frame} {meth : Method} {c : Code} {H : Heap} {locs : List Loc} {cells slots : Nat} {Q : State → Prop}
variable {cc : ByteArray} {pc : Nat} {ls : Array Slot} {rest st0 : List Value} {dC : Nat → ClassId} {dI : Nat → Nat → Nat} {cB : ClassId} {ad : Nat → Nat} {o : Nat} {S : XS} {Ts : List Cond} {a : Array Value} {mc ms : Nat}
theorem kl_put (hx : p.tables.exec = Jvm.exec) (hb : c.code = cc) {own : String} {index : Nat} (hts : ∀ w ∈ Ts, w.before args s = true) (hin : ∀ w ∈ u_ws RX5 TX5 2, w ∈ Ts) (hown : s.vm.findClass own = some m.cls) (hX : WX dC dI ad S (AO ad o) s H locs) (hO : OC dC dI o H) (hno : ¬ AX ad o)
    (k : Nat) (hk : k < 2) {host : String} (hlink : (Cond.fieldLinkNest own index RX5 (TX5 k).2.1 (TX5 k).2.2.1 host).before args s = true) {v : Value} {ty : FieldType} (hd : parseFieldDescriptor (TX5 k).2.2.1 = some ty) (hn : narrow ty v = v) (hfit : fits ty v = true) (hv : (k = 0 ∧ ∃ n, v = .long n) ∨ (k = 1 ∧ ∃ q, v = .ref q)) (hdg : decode cc pc = .ok (.putfield index, 3))
    (kk : ∀ (H1 : Heap) (locs1 : List Loc), WX dC dI ad S (AO ad o) s H1 locs1 → OC dC dI o H1 → W p l e R s m args below meth c H1 locs1 cells slots Q (F0 m (pc + 3) ls rest)) : W p l e R s m args below meth c H locs cells slots Q (F0 m pc ls (v :: .ref o :: rest)) := by
  obtain ⟨n0, v0, h0, hP0⟩ := hO
  have hsame : ∀ x, s.fieldFound? (TX5 k).1 (TX5 k).2.1 (TX5 k).2.2.1 = some x → s.fieldFound? RX5 (TX5 k).2.1 (TX5 k).2.2.1 = some x := by
    rcases (show k = 0 ∨ k = 1 by omega) with rfl | rfl <;> exact fun _ h => h
  have hfin : (TX5 k).2.2.2 = false := by rcases (show k = 0 ∨ k = 1 by omega) with rfl | rfl <;> rfl
  refine va_putN (D := (dC, dI)) (ci := 7) (C := RX5) (T := TX5) (N := 2) (fs := [.long n0, v0]) hx hb hts hin tyX5 tyX5_ok nmX5 hown hX.2.1 (wo_P hX.1 hP0) (wo_D hX.2.2.1 hno) hX.2.2.2 60 (by rw [List.getElem?_append_right (by rw [wX_len]; exact Nat.le_refl _), wX_len]; rfl) rfl k hk hlink hsame hfin hd hn hfit (by show k < 2; exact hk) hdg (fun H1 locs1 h1 h2 h3 => ?_)
  rw [List.set_append_right _ _ (by rw [wX_len]; exact Nat.le_refl _), wX_len] at h1
  refine kk H1 locs1 ⟨fun i q hq => h1 i q (by rw [List.getElem?_append_left (by rw [wX_len]; exact (wX_in i q hq).1)]; exact hq), hX.2.1, hX.2.2.1, h3⟩ ?_
  have h4 : va_P (dC, dI) vwCl [(o, .inr (7, [Value.long n0, v0].set k v))] H1 := fun i q hq => h1 (60 + i) q (by rw [List.getElem?_append_right (by rw [wX_len]; omega), wX_len, Nat.add_sub_cancel_left]; exact hq)
  rcases hv with ⟨rfl, n, rfl⟩ | ⟨rfl, q, rfl⟩
  · exact ⟨n, v0, h0, h4⟩
  · exact ⟨n0, _, Or.inr ⟨q, rfl⟩, h4⟩
theorem kl_cr {post : Int32 → Prop} (hr : va_Run p l e R s m args below meth c H locs cells slots 0 0 (F0 m pc ls st0) rest (vp_Si post a) (fun _ => False)) (kk : ∀ r, post r → W p l e R s m args below meth c H locs cells slots Q (F0 m (pc + 3) ls (.int r :: rest))) : W p l e R s m args below meth c H locs cells slots Q (F0 m pc ls st0) :=
  vp_callSi (va_Run.run hr) (fun r h => kk r h)
theorem kl_ci {post : Int32 → XS → Prop} (hr : va_Run p l e R s m args below meth c H locs cells slots mc ms (F0 m pc ls st0) rest (va_Qi post (PX dC dI ad) (AX ad) a) (AX ad)) (hX : WX dC dI ad S (AO ad o) s H locs) (hO : OC dC dI o H) (hno : ¬ AX ad o) (kk : ∀ (r : Int32) (S1 : XS) (H1 : Heap) (locs1 : List Loc), post r S1 → WX dC dI ad S1 (AO ad o) s H1 locs1 → OC dC dI o H1 → W p l e R s m args below meth c H1 locs1 (cells + mc) (slots + ms) Q (F0 m (pc + 3) ls (.int r :: rest))) : W p l e R s m args below meth c H locs cells slots Q (F0 m pc ls st0) :=
  va_calli hr hX.2.2.2 (fun q _ h => Or.inl h) (fun _ h => Or.inl h) (fun r u t H1 locs1 ht hvm hp hB _ hk hS => kk r u H1 locs1 hp (kx_back hX (fun _ h => Or.inl h) ht hvm hB hS) (hO.kept (hk o hO.lt hno)))
theorem kl_rr {post : XS → Prop} (hr : va_Run p l e R s m args below meth c H locs cells slots mc ms (F0 m pc ls st0) rest (va_Qr post (fun S1 _ t => PX dC dI ad S1 t) (AX ad) a) (AX ad)) (hX : WX dC dI ad S (AO ad o) s H locs) (hO : OC dC dI o H) (hno : ¬ AX ad o) (kk : ∀ (S1 : XS) (q : Nat) (H1 : Heap) (locs1 : List Loc), post S1 → WX dC dI ad S1 (AO ad o) s H1 locs1 → OC dC dI o H1 → W p l e R s m args below meth c H1 locs1 (cells + mc) (slots + ms) Q (F0 m (pc + 3) ls (.ref q :: rest))) : W p l e R s m args below meth c H locs cells slots Q (F0 m pc ls st0) :=
  va_callr hr hX.2.2.2 (fun _ _ h => Or.inl h) (fun _ h => Or.inl h) (fun u q t H1 locs1 ht hvm hp hB _ hk hS => kk u q H1 locs1 hp (kx_back hX (fun _ h => Or.inl h) ht hvm hB hS) (hO.kept (hk o hO.lt hno)))
/-- a refused call: it throws, and nothing that was there has changed -/
theorem kl_throw {cls : String} (hr : vx_Run p l e R s m args below meth c H locs cells slots 1 6 (F0 m pc ls st0) rest (fun _ _ _ => False) (XQ dC dI ad S cls) (fun _ => False)) (hX : WX dC dI ad S (AO ad o) s H locs) (hO : OC dC dI o H)
    (kk : ∀ (ce : Cell) (q : Nat) (H1 : Heap), H1[q]? = some ce → ce.vm = .none → s.vm.findClass cls = some ce.cls → WX dC dI ad S (AO ad o) s H1 locs → OC dC dI o H1 → vx_W p l e R s m args below meth c H1 locs (cells + 1) (slots + 6) Q (F0 m pc ls rest) q) : W p l e R s m args below meth c H locs cells slots Q (F0 m pc ls st0) := by
  intro T hT X
  rcases hr T hT X with ⟨v, st₀, t, T', L, h0, X', hL, e1, e2, h, st⟩ | ⟨q, st₀, t, T', L, E, ce, h0, X', hL, e1, e2, ⟨hE, hP, hF⟩, hce, hcv, hcl, st⟩
  · exact h.elim
  · subst hE
    obtain ⟨hz, hk⟩ := hF
    rw [h0] at hz hk
    obtain rfl : L = [] := by
      cases L with
      | nil => rfl
      | cons x xs => exact (hL x List.mem_cons_self).elim
    rw [List.append_nil] at X'
    have hk' : ∀ q : Nat, q < H.size → T'.heap[q]? = H[q]? := fun q hq => by rw [e1]; exact hk q hq (fun z => z)
    obtain ⟨t2, a1, b1⟩ := kk ce q T'.heap (by rw [e1]; exact hce) hcv hcl ⟨hX.1.kept (fun k q hq => hk' q.1 (hX.1 k q hq).lt), hX.2.1, hX.2.2.1, ⟨Nat.le_trans hX.2.2.2.1 (by rw [e1]; exact hz), fun q h1 h2 => (hk' q (Nat.lt_of_lt_of_le h1 hX.2.2.2.1)).trans (hX.2.2.2.2.1 q h1 h2), hX.2.2.2.2.2⟩⟩ (hO.kept (hk' o hO.lt)) T' rfl X'
    exact ⟨t2, st.trans a1, b1⟩
end KW2
/-! a number in its bounds or out of them -/
theorem lim_lt (n : Nat) (hn : n < 1000) (x : Int32) : (∃ i, i < n ∧ x = nI i) ∨ (x < 0 ∨ nI n ≤ x) := by
  by_cases h : x < 0
  · exact Or.inr (Or.inl h)
  · by_cases h2 : nI n ≤ x
    · exact Or.inr (Or.inr h2)
    · refine Or.inl ⟨x.toNatClampNeg, ?_, ?_⟩
      · rw [Int32.lt_iff_toInt_lt] at h
        rw [Int32.le_iff_toInt_le] at h2
        have e : (nI n).toInt = n := by
          unfold nI
          rw [Int32.toInt_ofNat_of_lt (by omega)]
        rw [e] at h2
        have e0 : (0 : Int32).toInt = 0 := by decide
        rw [e0] at h
        have e3 : (x.toNatClampNeg : Int) = x.toInt := by
          rw [show x.toNatClampNeg = x.toInt.toNat from rfl]
          omega
        omega
      · have h5 : ¬ x < 0 := h
        apply Int32.toInt_inj.mp
        rw [Int32.lt_iff_toInt_lt] at h
        rw [Int32.le_iff_toInt_le] at h2
        have e0 : (0 : Int32).toInt = 0 := by decide
        rw [e0] at h
        have e : (nI n).toInt = n := by
          unfold nI
          rw [Int32.toInt_ofNat_of_lt (by omega)]
        rw [e] at h2
        have e3 : (x.toNatClampNeg : Int) = x.toInt := by
          rw [show x.toNatClampNeg = x.toInt.toNat from rfl]
          omega
        unfold nI
        rw [Int32.toInt_ofNat_of_lt (by omega)]
        exact e3.symm
theorem lim_le (n : Nat) (hn : n < 999) (x : Int32) : (∃ i, i ≤ n ∧ x = nI i) ∨ (x < 0 ∨ nI n < x) := by
  rcases lim_lt (n + 1) (by omega) x with ⟨i, h1, h2⟩ | h | h
  · exact Or.inl ⟨i, by omega, h2⟩
  · exact Or.inr (Or.inl h)
  · refine Or.inr (Or.inr ?_)
    rw [Int32.lt_iff_toInt_lt]
    rw [Int32.le_iff_toInt_le] at h
    have e : ∀ k : Nat, k < 2000 → (nI k).toInt = k := fun k hk => by
      unfold nI
      rw [Int32.toInt_ofNat_of_lt (by omega)]
    rw [e _ (by omega)] at h
    rw [e _ (by omega)]
    omega
/-! what each call keeps -/
theorem LQ_same {S : XS} (hI : InvX S) (h5 : ∀ j, j < 4 → (S.2.1 j).2.2.2.2.1 ≤ 5) : LQ S S := ⟨hI, h5, Nat.le_add_right _ _, Nat.le_add_right _ _, rfl⟩
theorem LQ_ref {S : XS} (hI : InvX S) (h5 : ∀ j, j < 4 → (S.2.1 j).2.2.2.2.1 ≤ 5) : LQ S (refT S) := ⟨hI, h5, Nat.le_add_right _ _, Nat.le_refl _, rfl⟩
theorem LQ_row {S : XS} (hI : InvX S) (h5 : ∀ j, j < 4 → (S.2.1 j).2.2.2.2.1 ≤ 5) {i : Nat} {r : RowS} (hr : rowOK r) {k : Nat} (hk : k ≤ 12) : LQ S (xR (xN S (S.2.2.1 + k, S.2.2.2.1, S.2.2.2.2)) i r) :=
  ⟨InvX_row (S := xN S (S.2.2.1 + k, S.2.2.2.1, S.2.2.2.2)) hI hr, h5, Nat.add_le_add_left hk _, Nat.le_add_right _ _, rfl⟩
theorem LQ_row0 {S : XS} (hI : InvX S) (h5 : ∀ j, j < 4 → (S.2.1 j).2.2.2.2.1 ≤ 5) {i : Nat} {r : RowS} (hr : rowOK r) : LQ S (xR S i r) := ⟨InvX_row hI hr, h5, Nat.le_add_right _ _, Nat.le_add_right _ _, rfl⟩
theorem LQ_ord {S : XS} (hI : InvX S) (h5 : ∀ j, j < 4 → (S.2.1 j).2.2.2.2.1 ≤ 5) {j : Nat} {o : OrdS} (ho : ordOK o) (h : o.2.2.2.2.1 ≤ 5) : LQ S (xO S j o) := by
  refine ⟨InvX_ord hI ho, fun t ht => ?_, Nat.le_add_right _ _, Nat.le_add_right _ _, rfl⟩
  by_cases e : t = j
  · subst e; rw [xO_ord]; exact h
  · rw [xO_ne _ _ e]; exact h5 t ht
theorem LQ_trans4 {S : XS} (hI : InvX S) (h5 : ∀ j, j < 4 → (S.2.1 j).2.2.2.2.1 ≤ 5) {o4 : OrdS} (h4 : ordOK o4) : InvX (xO S 4 o4) ∧ ∀ j, j < 4 → ((xO S 4 o4).2.1 j).2.2.2.2.1 ≤ 5 := ⟨InvX_ord hI h4, fun j hj => by rw [xO_ne _ _ (show j ≠ 4 by omega)]; exact h5 j hj⟩
theorem LQ_sort {S S1 : XS} {i : Nat} (hI : InvX S) (h5 : ∀ j, j < 4 → (S.2.1 j).2.2.2.2.1 ≤ 5) (h : sortA S S1 i) : LQ S S1 := by
  obtain ⟨h1, h2, h3, h4, h6, -⟩ := h
  refine ⟨⟨fun k hk => ?_, fun j hj => by rw [h1]; exact hI.2 j hj⟩, fun j hj => by rw [h1]; exact h5 j hj, by rw [h1]; exact Nat.le_add_right _ _, by rw [h1]; exact Nat.le_add_right _ _, by rw [h1]⟩
  by_cases e1 : k = i
  · rw [e1]; exact h6
  · by_cases e2 : k = 3
    · rw [e2]; exact h3
    · by_cases e3 : k = 4
      · rw [e3]; exact h4
      · rw [h2 k e1 e2 e3]; exact hI.1 k hk
theorem LQ_KA {S S1 : XS} (h5 : ∀ j, j < 4 → (S.2.1 j).2.2.2.2.1 ≤ 5) (h : KA S S1) : LQ S S1 := ⟨h.1, fun j hj => by rw [h.2.2.2 j (by omega)]; exact h5 j hj, by rw [h.2.1]; exact Nat.le_add_right _ _, by rw [h.2.1]; exact Nat.le_add_right _ _, by rw [h.2.1]⟩
theorem shr_lt {f : Nat → Nat} {n a k N : Nat} (h : ∀ q, q < 16 → f q < N) (hk : k < 16) : shr f n a k < N := by
  unfold shr
  split
  · exact h _ (by omega)
  · exact h _ hk
theorem rowOK_ins {r : RowS} (h : rowOK r) {q v u : Nat} (hn : r.2.2 < 12) (hv : v < 16) (hu : u < 1000000) : rowOK (va_up (shr r.1 r.2.2 q) q v, va_up (shr r.2.1 r.2.2 q) q u, r.2.2 + 1) :=
  ⟨by show r.2.2 + 1 ≤ 16; omega, fun k hk => ⟨up_lt (fun x hx => shr_lt (fun y hy => (h.2 y hy).1) hx) hv hk, up_lt (fun x hx => shr_lt (fun y hy => (h.2 y hy).2) hx) hu hk⟩⟩
theorem rowOK_fill {r : RowS} (h : rowOK r) {f g : Nat → Nat} {k : Nat} (hn : r.2.2 + k ≤ 12) (hf : ∀ x, f x < 16) (hg : ∀ x, x < k → g x < 1000000) : rowOK (apn r.1 f r.2.2 k, apn r.2.1 g r.2.2 k, r.2.2 + k) := by
  refine ⟨by show r.2.2 + k ≤ 16; omega, fun y hy => ⟨?_, ?_⟩⟩
  · show apn r.1 f r.2.2 k y < 16
    unfold apn
    split
    · exact hf _
    · exact (h.2 y hy).1
  · show apn r.2.1 g r.2.2 k y < 1000000
    unfold apn
    split
    · exact hg _ (by omega)
    · exact (h.2 y hy).2
theorem keys_up {K : Nat → Nat} (h : ∀ x, x < 10 → K x < 8) {n k : Nat} (hk : k < 8) : ∀ x, x < 10 → va_up K n k x < 8 := fun x hx => by
  unfold va_up
  split
  · exact hk
  · exact h x hx
theorem keys_apn {K L : Nat → Nat} (h : ∀ x, x < 10 → K x < 8) (h2 : ∀ x, x < 10 → L x < 8) {n0 a : Nat} : ∀ x, x < 10 → apn K L n0 a x < 8 := fun x hx => by
  unfold apn
  split
  · exact h2 _ (by omega)
  · exact h x hx
section LQs
variable {S S1 : XS} {i j : Nat} {r : Int32}
theorem LQ_put {q v : Nat} (hI : InvX S) (h5 : ∀ j, j < 4 → (S.2.1 j).2.2.2.2.1 ≤ 5) (hc : S.2.2.1 + 12 < 1000000) (hi : i < 3) (hv : v < 16) (hw : ((S.1 i).2.2 < 12 ∧ r = nI S.2.2.1 ∧ S1 = placeT S i q v) ∨ (12 ≤ (S.1 i).2.2 ∧ r = -9 ∧ S1 = refT S)) : LQ S S1 := by
  rcases hw with ⟨h1, -, rfl⟩ | ⟨-, -, rfl⟩
  · exact LQ_row hI h5 (rowOK_ins (hI.1 i (by omega)) h1 hv (by omega)) (k := 1) (by omega)
  · exact LQ_ref hI h5
theorem LQ_fill {k k2 k3 : Nat} (hI : InvX S) (h5 : ∀ j, j < 4 → (S.2.1 j).2.2.2.2.1 ≤ 5) (hc : S.2.2.1 + 12 < 1000000) (hi : i < 3) (hk : k ≤ 12) (hw : ((S.1 i).2.2 + k ≤ 12 ∧ r = nI ((S.1 i).2.2 + k) ∧ S1 = xR (xN S (S.2.2.1 + k, S.2.2.2.1, S.2.2.2.2)) i (apn (S.1 i).1 (fun x => (k2 + x * k3) % 16) (S.1 i).2.2 k, apn (S.1 i).2.1 (fun x => S.2.2.1 + x) (S.1 i).2.2 k, (S.1 i).2.2 + k)) ∨ (12 < (S.1 i).2.2 + k ∧ r = -9 ∧ S1 = refT S)) : LQ S S1 := by
  rcases hw with ⟨h1, -, rfl⟩ | ⟨-, -, rfl⟩
  · exact LQ_row hI h5 (rowOK_fill (hI.1 i (by omega)) h1 (fun x => Nat.mod_lt _ (by decide)) (fun x hx => by omega)) hk
  · exact LQ_ref hI h5
theorem LQ_wheel {y : Int32} (hI : InvX S) (h5 : ∀ j, j < 4 → (S.2.1 j).2.2.2.2.1 ≤ 5) (hw : ((S.1 i).2.2 = 0 ∧ r = -1 ∧ S1 = S) ∨ (0 < (S.1 i).2.2 ∧ ∃ (x sh : Nat) (r4 r' : RowS), r = nI x ∧ sh < (S.1 i).2.2 ∧ nI sh = fmv y (nI (S.1 i).2.2) ∧ S1 = xR (xR S 4 r4) i r' ∧ rowOK r4 ∧ rowOK r' ∧ r'.2.2 = (S.1 i).2.2)) : LQ S S1 := by
  rcases hw with ⟨-, -, rfl⟩ | ⟨-, x, sh, r4, r', -, -, -, rfl, h1, h2, -⟩
  · exact LQ_same hI h5
  · exact ⟨InvX_row (InvX_row hI h1) h2, h5, Nat.le_add_right _ _, Nat.le_add_right _ _, rfl⟩
theorem LQ_search {P P2 : Prop} (hI : InvX S) (h5 : ∀ j, j < 4 → (S.2.1 j).2.2.2.2.1 ≤ 5) (hw : (P ∧ r = -9 ∧ S1 = refT S) ∨ (P2 ∧ S1 = S)) : LQ S S1 := by
  rcases hw with ⟨-, -, rfl⟩ | ⟨-, rfl⟩
  · exact LQ_ref hI h5
  · exact LQ_same hI h5
theorem LQ_newO {K : Nat → Nat} {D : Nat → Bool} {n : Nat} {c r9 : Nat → Nat} (hI : InvX S) (h5 : ∀ j, j < 4 → (S.2.1 j).2.2.2.2.1 ≤ 5) (hn : n ≤ 5) (hK : ∀ x, x < 10 → K x < 8) : LQ S (xO S j (newO K D n c r9)) := LQ_ord hI h5 (newO_ok ⟨by omega, hK⟩) hn
theorem LQ_product {j2 j3 : Nat} {P : Prop} (hI : InvX S) (h5 : ∀ j, j < 4 → (S.2.1 j).2.2.2.2.1 ≤ 5) (hj : j < 4) (hj2 : j2 < 4) (hj3 : j3 < 4) (hw : ((S.2.1 j).2.2.2.2.1 + (S.2.1 j2).2.2.2.2.1 ≤ 5 ∧ P ∧ S1 = xO (xO S 4 (prodO S j j2)) j3 (copyO (S.2.1 j3) (prodO S j j2))) ∨ (5 < (S.2.1 j).2.2.2.2.1 + (S.2.1 j2).2.2.2.2.1 ∧ r = -9 ∧ S1 = refT S)) : LQ S S1 := by
  rcases hw with ⟨h1, -, rfl⟩ | ⟨-, -, rfl⟩
  · have k4 := (hI.2 4 (by omega)).1.2
    have k1 := (hI.2 j (by omega)).1.2
    have k2 := (hI.2 j2 (by omega)).1.2
    have k3 := (hI.2 j3 (by omega)).1.2
    have hk : ∀ x, x < 10 → (prodO S j j2).1 x < 8 := keys_apn (keys_apn k4 k1) k2
    have h4 : ordOK (prodO S j j2) := newO_ok ⟨by omega, hk⟩
    obtain ⟨e1, e2⟩ := LQ_trans4 hI h5 h4
    exact LQ_ord e1 e2 (newO_ok ⟨by show (S.2.1 j).2.2.2.2.1 + (S.2.1 j2).2.2.2.2.1 ≤ 10; omega, keys_apn k3 hk⟩) h1
  · exact LQ_ref hI h5
theorem LQ_tell {v v2 : Nat} {P P2 P3 : Prop} (hI : InvX S) (h5 : ∀ j, j < 4 → (S.2.1 j).2.2.2.2.1 ≤ 5) (hj : j < 4) (hw : (P ∧ P2 ∧ (S.2.1 j).2.2.2.2.1 < 5 ∧ r = nI (coarse (coarseC (S.2.1 j)) (keyApart v v2) 8).2 ∧ ∃ o4, ordOK o4 ∧ S1 = xO (xO S 4 o4) j (newO (va_up (S.2.1 j).1 (S.2.1 j).2.2.2.2.1 (coarse (coarseC (S.2.1 j)) (keyApart v v2) 8).2) (va_up (S.2.1 j).2.1 (S.2.1 j).2.2.2.2.1 false) ((S.2.1 j).2.2.2.2.1 + 1) (S.2.1 j).2.2.1 (S.2.1 j).2.2.2.1)) ∨ (P3 ∧ r = -9 ∧ S1 = refT S)) : LQ S S1 := by
  rcases hw with ⟨-, -, h1, -, o4, h4, rfl⟩ | ⟨-, -, rfl⟩
  · obtain ⟨e1, e2⟩ := LQ_trans4 hI h5 h4
    exact LQ_ord e1 e2 (newO_ok ⟨by omega, keys_up (hI.2 j (by omega)).1.2 (coarse_lt _ _ 8 (by omega))⟩) (by show (S.2.1 j).2.2.2.2.1 + 1 ≤ 5; omega)
  · exact LQ_ref hI h5
theorem LQ_step {k : Nat} {z : Bool} {P : Prop} (hI : InvX S) (h5 : ∀ j, j < 4 → (S.2.1 j).2.2.2.2.1 ≤ 5) (hj : j < 4) (hk : k ≤ 7) (hw : ((S.2.1 j).2.2.2.2.1 < 5 ∧ P ∧ S1 = xO S j (newO (va_up (S.2.1 j).1 (S.2.1 j).2.2.2.2.1 k) (va_up (S.2.1 j).2.1 (S.2.1 j).2.2.2.2.1 z) ((S.2.1 j).2.2.2.2.1 + 1) (S.2.1 j).2.2.1 (S.2.1 j).2.2.2.1)) ∨ (5 ≤ (S.2.1 j).2.2.2.2.1 ∧ r = -9 ∧ S1 = refT S)) : LQ S S1 := by
  rcases hw with ⟨h1, -, rfl⟩ | ⟨-, -, rfl⟩
  · exact LQ_newO hI h5 (by omega) (keys_up (hI.2 j (by omega)).1.2 (by omega))
  · exact LQ_ref hI h5
theorem LQ_unstep {P P2 : Prop} (hI : InvX S) (h5 : ∀ j, j < 4 → (S.2.1 j).2.2.2.2.1 ≤ 5) (hj : j < 4) (hw : (P ∧ P2 ∧ S1 = xO S j (newO ((S.2.1 j).1) ((S.2.1 j).2.1) ((S.2.1 j).2.2.2.2.1 - 1) (S.2.1 j).2.2.1 (S.2.1 j).2.2.2.1)) ∨ ((S.2.1 j).2.2.2.2.1 = 0 ∧ r = -9 ∧ S1 = refT S)) : LQ S S1 := by
  rcases hw with ⟨-, -, rfl⟩ | ⟨-, -, rfl⟩
  · exact LQ_newO hI h5 (by have := h5 j hj; omega) (hI.2 j (by omega)).1.2
  · exact LQ_ref hI h5
end LQs
theorem LQ_KR {S S1 : XS} (hI : InvX S) (h5 : ∀ j, j < 4 → (S.2.1 j).2.2.2.2.1 ≤ 5) (h : KR2 S S1) : LQ S S1 := by
  obtain ⟨h1, h2, h3⟩ := h
  refine ⟨⟨fun k hk => ?_, fun j hj => by rw [h1]; exact hI.2 j hj⟩, fun j hj => by rw [h1]; exact h5 j hj, by rw [h1]; exact Nat.le_add_right _ _, by rw [h1]; exact Nat.le_add_right _ _, by rw [h1]⟩
  by_cases e : k = 4
  · rw [e]; exact h3 (hI.1 4 (by omega))
  · rw [h2 k e]; exact hI.1 k hk
end
