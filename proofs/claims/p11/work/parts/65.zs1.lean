/-! things in a stretch of places as a list; keys; what a stable sorting keeps -/
abbrev PQ : Type := (Nat → Nat) × (Nat → Nat)
def sg (V K : Nat → Nat) (f m : Nat) : List (Nat × Nat) := (List.range m).map (fun x => (V (f + x), K (f + x)))
def kf (c : Nat → Nat) (t : Nat) (l : List (Nat × Nat)) : List (Nat × Nat) := l.filter (fun q => decide (c q.1 = t))
theorem kf_app (c : Nat → Nat) (t : Nat) (a b : List (Nat × Nat)) : kf c t (a ++ b) = kf c t a ++ kf c t b := List.filter_append ..
theorem kf_nil (c : Nat → Nat) (t : Nat) : kf c t [] = [] := rfl
theorem kf_t {c : Nat → Nat} {t : Nat} {q : Nat × Nat} {l : List (Nat × Nat)} (h : c q.1 = t) : kf c t (q :: l) = q :: kf c t l := List.filter_cons_of_pos (decide_eq_true h)
theorem kf_f {c : Nat → Nat} {t : Nat} {q : Nat × Nat} {l : List (Nat × Nat)} (h : c q.1 ≠ t) : kf c t (q :: l) = kf c t l := List.filter_cons_of_neg (by rw [decide_eq_false h]; decide)
theorem kf_mem {c : Nat → Nat} {t : Nat} {q : Nat × Nat} {l : List (Nat × Nat)} : q ∈ kf c t l ↔ q ∈ l ∧ c q.1 = t := by
  unfold kf
  rw [List.mem_filter, decide_eq_true_iff]
theorem kf_none {c : Nat → Nat} {t : Nat} : ∀ {l : List (Nat × Nat)}, (∀ q, q ∈ l → c q.1 ≠ t) → kf c t l = []
  | [], _ => rfl
  | q :: l, h => by rw [kf_f (h q List.mem_cons_self), kf_none (fun x hx => h x (List.mem_cons_of_mem _ hx))]
theorem kf_cong {c d : Nat → Nat} {t : Nat} : ∀ {l : List (Nat × Nat)}, (∀ q, q ∈ l → c q.1 = d q.1) → kf c t l = kf d t l
  | [], _ => rfl
  | q :: l, h => by
    have ih := kf_cong (c := c) (d := d) (t := t) (l := l) (fun x hx => h x (List.mem_cons_of_mem _ hx))
    have h0 := h q List.mem_cons_self
    by_cases e : c q.1 = t
    · rw [kf_t e, kf_t (h0.symm.trans e), ih]
    · rw [kf_f e, kf_f (fun z => e (h0.trans z)), ih]
section SG
variable {V V2 K K2 : Nat → Nat} {f m : Nat}
theorem sg_0 : sg V K f 0 = [] := rfl
theorem sg_s : sg V K f (m + 1) = sg V K f m ++ [(V (f + m), K (f + m))] := by
  unfold sg
  rw [List.range_succ, List.map_append]
  rfl
theorem sg_1 : sg V K f 1 = [(V f, K f)] := rfl
theorem sg_add (a : Nat) : ∀ b, sg V K f (a + b) = sg V K f a ++ sg V K (f + a) b
  | 0 => by rw [sg_0, List.append_nil]; rfl
  | b + 1 => by
    show sg V K f ((a + b) + 1) = _
    rw [sg_s, sg_add a b, sg_s, List.append_assoc, Nat.add_assoc]
theorem sg_2 : sg V K f 2 = [(V f, K f), (V (f + 1), K (f + 1))] := rfl
theorem sg_cong (h : ∀ x, f ≤ x → x < f + m → V x = V2 x ∧ K x = K2 x) : sg V K f m = sg V2 K2 f m := by
  unfold sg
  refine List.map_congr_left (fun x hx => ?_)
  have h1 := List.mem_range.mp hx
  rw [(h (f + x) (by omega) (by omega)).1, (h (f + x) (by omega) (by omega)).2]
theorem sg_get {x : Nat} (h : x < m) : (sg V K f m)[x]? = some (V (f + x), K (f + x)) := by
  unfold sg
  rw [List.getElem?_map, List.getElem?_range h]
  rfl
theorem sg_inj (h : sg V K f m = sg V2 K2 f m) {x : Nat} (h1 : f ≤ x) (h2 : x < f + m) : V x = V2 x ∧ K x = K2 x := by
  have e := congrArg (fun l : List (Nat × Nat) => l[x - f]?) h
  rw [sg_get (by omega), sg_get (by omega), show f + (x - f) = x by omega] at e
  have e2 := Option.some.inj e
  exact ⟨congrArg Prod.fst e2, congrArg Prod.snd e2⟩
theorem sg_mem {q : Nat × Nat} (h : q ∈ sg V K f m) : ∃ x, f ≤ x ∧ x < f + m ∧ q = (V x, K x) := by
  unfold sg at h
  obtain ⟨x, hx, rfl⟩ := List.mem_map.mp h
  have h1 := List.mem_range.mp hx
  exact ⟨f + x, by omega, by omega, rfl⟩
end SG
/-- two lists in sequence, of each key the same things in the same sequence: they are the same -/
theorem uniqL {c : Nat → Nat} : ∀ (l l2 : List (Nat × Nat)), (∀ t, kf c t l = kf c t l2) → List.Pairwise (fun a b : Nat × Nat => c a.1 ≤ c b.1) l → List.Pairwise (fun a b : Nat × Nat => c a.1 ≤ c b.1) l2 → l = l2
  | [], [], _, _, _ => rfl
  | [], b :: r, h, _, _ => by
    have h1 := h (c b.1)
    rw [kf_t rfl, kf_nil] at h1
    cases h1
  | a :: r, [], h, _, _ => by
    have h1 := h (c a.1)
    rw [kf_t rfl, kf_nil] at h1
    cases h1
  | a :: r, b :: r2, h, s1, s2 => by
    have e : c a.1 = c b.1 := by
      have ha : a ∈ kf c (c a.1) (a :: r) := kf_mem.mpr ⟨List.mem_cons_self, rfl⟩
      have hb : b ∈ kf c (c b.1) (b :: r2) := kf_mem.mpr ⟨List.mem_cons_self, rfl⟩
      rw [h] at ha
      rw [← h] at hb
      have h1 : c b.1 ≤ c a.1 := (List.mem_cons.mp (kf_mem.mp ha).1).elim (fun e => by rw [e]; exact Nat.le_refl _) (fun hm => (List.pairwise_cons.mp s2).1 a hm)
      have h2 : c a.1 ≤ c b.1 := (List.mem_cons.mp (kf_mem.mp hb).1).elim (fun e => by rw [e]; exact Nat.le_refl _) (fun hm => (List.pairwise_cons.mp s1).1 b hm)
      omega
    have h0 := h (c a.1)
    rw [kf_t rfl, kf_t e.symm] at h0
    have h3 := (List.cons.inj h0).1
    have h4 := (List.cons.inj h0).2
    subst h3
    refine congrArg (fun z => a :: z) (uniqL r r2 (fun t => ?_) (List.pairwise_cons.mp s1).2 (List.pairwise_cons.mp s2).2)
    by_cases ht : c a.1 = t
    · subst ht; exact h4
    · have h5 := h t
      rw [kf_f ht, kf_f ht] at h5
      exact h5
/-- in sequence from f on, ahead of e -/
def srt (c V : Nat → Nat) (f e : Nat) : Prop := ∀ x y, f ≤ x → x < y → y < e → c (V x) ≤ c (V y)
theorem srt_pw {c V K : Nat → Nat} {f : Nat} : ∀ {m : Nat}, srt c V f (f + m) → List.Pairwise (fun a b : Nat × Nat => c a.1 ≤ c b.1) (sg V K f m)
  | 0, _ => List.Pairwise.nil
  | m + 1, h => by
    rw [sg_s, List.pairwise_append]
    refine ⟨srt_pw (fun x y h1 h2 h3 => h x y h1 h2 (by omega)), List.pairwise_singleton _ _, fun a ha b hb => ?_⟩
    obtain ⟨x, h1, h2, rfl⟩ := sg_mem ha
    rw [List.mem_singleton.mp hb]
    exact h x (f + m) h1 (by omega) (by omega)
/-- q is p, its things from f on ahead of e at other places, alike ones as they stood -/
def SP (c : Nat → Nat) (p q : PQ) (f e : Nat) : Prop := (∀ x, x < f ∨ e ≤ x → q.1 x = p.1 x ∧ q.2 x = p.2 x) ∧ ∀ t, kf c t (sg q.1 q.2 f (e - f)) = kf c t (sg p.1 p.2 f (e - f))
theorem SP.refl (c : Nat → Nat) (p : PQ) (f e : Nat) : SP c p p f e := ⟨fun _ _ => ⟨rfl, rfl⟩, fun _ => rfl⟩
theorem SP.trans {c : Nat → Nat} {p q r : PQ} {f e : Nat} (h : SP c p q f e) (h2 : SP c q r f e) : SP c p r f e := ⟨fun x hx => ⟨(h2.1 x hx).1.trans (h.1 x hx).1, (h2.1 x hx).2.trans (h.1 x hx).2⟩, fun t => (h2.2 t).trans (h.2 t)⟩
theorem xch_at {f : Nat → Nat} {a b x : Nat} : xch f a b x = if x = b then f a else if x = a then f b else f x := rfl
theorem xch_com (f : Nat → Nat) (a b : Nat) : xch f a b = xch f b a := by
  funext x
  rw [xch_at, xch_at]
  by_cases h1 : x = b
  · by_cases h2 : x = a
    · rw [if_pos h1, if_pos h2, ← h1, ← h2]
    · rw [if_pos h1, if_neg h2, if_pos h1]
  · by_cases h2 : x = a
    · rw [if_neg h1, if_pos h2, if_pos h2]
    · rw [if_neg h1, if_neg h2, if_neg h2, if_neg h1]
theorem kf_pair {c : Nat → Nat} {t : Nat} {a b : Nat × Nat} (h : c b.1 < c a.1) : kf c t [b, a] = kf c t [a, b] := by
  by_cases e1 : c a.1 = t
  · have e2 : c b.1 ≠ t := by omega
    rw [kf_f e2, kf_t e1, kf_t e1, kf_f e2]
  · by_cases e2 : c b.1 = t
    · rw [kf_t e2, kf_f e1, kf_f e1, kf_t e2]
    · rw [kf_f e2, kf_f e1, kf_f e1, kf_f e2]
/-- two neighbours change, the second one ahead of the first -/
theorem SP.swap {c : Nat → Nat} {p q : PQ} {f e k : Nat} (h : SP c p q f e) (h1 : f ≤ k) (h2 : k + 1 < e) (hc : c (q.1 (k + 1)) < c (q.1 k)) : SP c p (xch q.1 k (k + 1), xch q.2 k (k + 1)) f e := by
  refine ⟨fun x hx => ?_, fun t => ?_⟩
  · have e1 : x ≠ k + 1 := by omega
    have e2 : x ≠ k := by omega
    show xch q.1 k (k + 1) x = p.1 x ∧ xch q.2 k (k + 1) x = p.2 x
    rw [xch_at, xch_at, if_neg e1, if_neg e2, if_neg e1, if_neg e2]
    exact h.1 x hx
  · rw [← h.2 t, show e - f = (k - f) + (2 + (e - (k + 2))) by omega, sg_add, sg_add, sg_add (f := f), sg_add (f := f + (k - f)), show f + (k - f) = k by omega]
    have a1 : sg (xch q.1 k (k + 1)) (xch q.2 k (k + 1)) f (k - f) = sg q.1 q.2 f (k - f) := sg_cong (fun x h3 h4 => by
      rw [xch_at, xch_at, if_neg (by omega), if_neg (by omega), if_neg (by omega), if_neg (by omega)]; exact ⟨rfl, rfl⟩)
    have a3 : sg (xch q.1 k (k + 1)) (xch q.2 k (k + 1)) (k + 2) (e - (k + 2)) = sg q.1 q.2 (k + 2) (e - (k + 2)) := sg_cong (fun x h3 h4 => by
      rw [xch_at, xch_at, if_neg (by omega), if_neg (by omega), if_neg (by omega), if_neg (by omega)]; exact ⟨rfl, rfl⟩)
    have a2 : sg (xch q.1 k (k + 1)) (xch q.2 k (k + 1)) k 2 = [(q.1 (k + 1), q.2 (k + 1)), (q.1 k, q.2 k)] := by
      rw [sg_2, xch_at, xch_at, xch_at, xch_at, if_neg (show k ≠ k + 1 by omega), if_neg (show k ≠ k + 1 by omega), if_pos rfl, if_pos rfl, if_pos rfl, if_pos rfl]
    show kf c t (sg (xch q.1 k (k + 1)) (xch q.2 k (k + 1)) f (k - f) ++ (sg (xch q.1 k (k + 1)) (xch q.2 k (k + 1)) k 2 ++ sg (xch q.1 k (k + 1)) (xch q.2 k (k + 1)) (k + 2) (e - (k + 2)))) = _
    rw [a1, a2, a3, sg_2 (V := q.1), kf_app, kf_app, kf_app, kf_app, kf_pair hc]
theorem SP.cong {c d : Nat → Nat} {p q : PQ} {f e : Nat} (h : SP c p q f e) (hp : ∀ x, f ≤ x → x < e → c (p.1 x) = d (p.1 x)) (hq : ∀ x, f ≤ x → x < e → c (q.1 x) = d (q.1 x)) : SP d p q f e := by
  refine ⟨h.1, fun t => ?_⟩
  rw [← kf_cong (c := c) (d := d) (t := t) (l := sg q.1 q.2 f (e - f)) (fun z hz => by obtain ⟨x, h1, h2, rfl⟩ := sg_mem hz; exact hq x h1 (by omega)), ← kf_cong (c := c) (d := d) (t := t) (l := sg p.1 p.2 f (e - f)) (fun z hz => by obtain ⟨x, h1, h2, rfl⟩ := sg_mem hz; exact hp x h1 (by omega))]
  exact h.2 t
theorem srt.cong {c d V : Nat → Nat} {f e : Nat} (h : srt c V f e) (hq : ∀ x, f ≤ x → x < e → c (V x) = d (V x)) : srt d V f e := fun x y h1 h2 h3 => by
  rw [← hq x h1 (by omega), ← hq y (by omega) h3]
  exact h x y h1 h2 h3
/-- sorted twice, from the same: the same -/
theorem SP.eq {c : Nat → Nat} {p p2 q q2 : PQ} {f e N : Nat} (h1 : SP c p p2 f e) (s1 : srt c p2.1 f e) (h2 : SP c q q2 f e) (s2 : srt c q2.1 f e) (hfe : f ≤ e) (hN : e ≤ N) (hpq : ∀ x, x < N → p.1 x = q.1 x ∧ p.2 x = q.2 x) : ∀ x, x < N → p2.1 x = q2.1 x ∧ p2.2 x = q2.2 x := by
  intro x hx
  by_cases hi : f ≤ x ∧ x < e
  · have he : f + (e - f) = e := by omega
    refine sg_inj (f := f) (m := e - f) (uniqL (c := c) _ _ (fun t => ?_) (srt_pw (by rw [he]; exact s1)) (srt_pw (by rw [he]; exact s2))) hi.1 (by omega)
    rw [h1.2 t, h2.2 t, sg_cong (fun y h3 h4 => hpq y (by omega))]
  · have a := h1.1 x (by omega)
    have b := h2.1 x (by omega)
    rw [a.1, a.2, b.1, b.2]
    exact hpq x hx
/-! one thing put among those ahead of it -/
/-- [f, nx] in sequence but for place a, which is ahead of, or alike, those behind it -/
def srtB (c V : Nat → Nat) (f nx a : Nat) : Prop := (∀ x y, f ≤ x → x < y → y ≤ nx → x ≠ a → y ≠ a → c (V x) ≤ c (V y)) ∧ ∀ y, a < y → y ≤ nx → c (V a) ≤ c (V y)
theorem srtB.of {c V : Nat → Nat} {f nx : Nat} (h : srt c V f nx) : srtB c V f nx nx := ⟨fun x y h1 h2 h3 h4 h5 => h x y h1 h2 (by omega), fun y h1 h2 => by omega⟩
theorem srtB.swap {c V : Nat → Nat} {f nx a : Nat} (h : srtB c V f nx a) (h1 : f + 1 ≤ a) (h2 : a ≤ nx) (hc : c (V a) < c (V (a - 1))) : srtB c (xch V a (a - 1)) f nx (a - 1) := by
  have g : ∀ x, x ≠ a → x ≠ a - 1 → xch V a (a - 1) x = V x := fun x e1 e2 => by rw [xch_at, if_neg e2, if_neg e1]
  have g1 : xch V a (a - 1) (a - 1) = V a := by rw [xch_at, if_pos rfl]
  have g2 : xch V a (a - 1) a = V (a - 1) := by rw [xch_at, if_neg (by omega), if_pos rfl]
  refine ⟨fun x y h3 h4 h5 h6 h7 => ?_, fun y h3 h4 => ?_⟩
  · by_cases e1 : x = a
    · rw [e1, g2, g y (by omega) h7]; exact h.1 (a - 1) y (by omega) (by omega) h5 (by omega) (by omega)
    · by_cases e2 : y = a
      · rw [e2, g2, g x e1 h6]; exact h.1 x (a - 1) h3 (by omega) (by omega) e1 (by omega)
      · rw [g x e1 h6, g y e2 h7]; exact h.1 x y h3 h4 h5 e1 e2
  · rw [g1]
    by_cases e2 : y = a
    · rw [e2, g2]; exact Nat.le_of_lt hc
    · rw [g y e2 (by omega)]; exact h.2 y (by omega) h4
theorem srtB.done {c V : Nat → Nat} {f nx a : Nat} (h : srtB c V f nx a) (h1 : a ≤ f ∨ c (V (a - 1)) ≤ c (V a)) (h2 : f ≤ a) : srt c V f (nx + 1) := fun x y h3 h4 h5 => by
  by_cases e1 : x = a
  · rw [e1]; exact h.2 y (by omega) (by omega)
  · by_cases e2 : y = a
    · rcases h1 with h1 | h1
      · omega
      · by_cases e3 : x = a - 1
        · rw [e2, e3]; exact h1
        · rw [e2]; exact Nat.le_trans (h.1 x (a - 1) h3 (by omega) (by omega) e1 (by omega)) h1
    · exact h.1 x y h3 h4 (by omega) e1 e2
/-! two runs merged -/
/-- of the runs [lo, mi) and [mi, hi) of row p those ahead of a and of b stand in g, ahead of place q -/
def MG (c : Nat → Nat) (p g0 g : PQ) (lo mi hi a b q : Nat) : Prop := (∀ x, x < lo → g.1 x = g0.1 x ∧ g.2 x = g0.2 x) ∧ (∀ t, kf c t (sg g.1 g.2 lo (q - lo) ++ (sg p.1 p.2 a (mi - a) ++ sg p.1 p.2 b (hi - b))) = kf c t (sg p.1 p.2 lo (hi - lo))) ∧ srt c g.1 lo q ∧ ∀ x, lo ≤ x → x < q → (∀ y, a ≤ y → y < mi → c (g.1 x) ≤ c (p.1 y)) ∧ ∀ y, b ≤ y → y < hi → c (g.1 x) ≤ c (p.1 y)
theorem MG.start {c : Nat → Nat} {p g : PQ} {lo mi hi : Nat} (h1 : lo ≤ mi) (h2 : mi ≤ hi) : MG c p g g lo mi hi lo mi lo := by
  refine ⟨fun _ _ => ⟨rfl, rfl⟩, fun t => ?_, fun x y h3 h4 h5 => by omega, fun x h3 h4 => by omega⟩
  rw [show lo - lo = 0 by omega, sg_0, List.nil_append, show hi - lo = (mi - lo) + (hi - mi) by omega, sg_add, show lo + (mi - lo) = mi by omega]
theorem sg_up {V K : Nat → Nat} {lo q v u : Nat} (h : lo ≤ q) : sg (va_up V q v) (va_up K q u) lo (q + 1 - lo) = sg V K lo (q - lo) ++ [(v, u)] := by
  rw [show q + 1 - lo = (q - lo) + 1 by omega, sg_s, show lo + (q - lo) = q by omega, va_up_self, va_up_self]
  rw [sg_cong (fun x h1 h2 => ⟨va_up_ne _ _ (by omega), va_up_ne _ _ (by omega)⟩)]
theorem sg_hd {V K : Nat → Nat} {a m : Nat} (h : a < m) : sg V K a (m - a) = (V a, K a) :: sg V K (a + 1) (m - (a + 1)) := by
  rw [show m - a = 1 + (m - (a + 1)) by omega, sg_add, sg_1]
  rfl
theorem MG.left {c : Nat → Nat} {p g0 g : PQ} {lo mi hi a b q : Nat} (h : MG c p g0 g lo mi hi a b q) (hq : lo ≤ q) (ha : a < mi) (s1 : srt c p.1 lo mi) (s2 : srt c p.1 mi hi) (hla : lo ≤ a) (hmb : mi ≤ b) (hc : hi ≤ b ∨ c (p.1 a) ≤ c (p.1 b)) : MG c p g0 (va_up g.1 q (p.1 a), va_up g.2 q (p.2 a)) lo mi hi (a + 1) b (q + 1) := by
  obtain ⟨h1, h2, h3, h4⟩ := h
  refine ⟨fun x hx => ?_, fun t => ?_, fun x y e1 e2 e3 => ?_, fun x e1 e2 => ?_⟩
  · show va_up g.1 q (p.1 a) x = g0.1 x ∧ va_up g.2 q (p.2 a) x = g0.2 x
    rw [va_up_ne _ _ (by omega), va_up_ne _ _ (by omega)]
    exact h1 x hx
  · show kf c t (sg (va_up g.1 q (p.1 a)) (va_up g.2 q (p.2 a)) lo (q + 1 - lo) ++ _) = _
    rw [sg_up hq, ← h2 t, sg_hd ha, List.append_assoc]
    rfl
  · show c (va_up g.1 q (p.1 a) x) ≤ c (va_up g.1 q (p.1 a) y)
    rw [va_up_ne _ _ (show x ≠ q by omega)]
    by_cases e : y = q
    · rw [e, va_up_self]; exact (h4 x e1 (by omega)).1 a (Nat.le_refl _) ha
    · rw [va_up_ne _ _ e]; exact h3 x y e1 e2 (by omega)
  · show (∀ y, a + 1 ≤ y → y < mi → c (va_up g.1 q (p.1 a) x) ≤ c (p.1 y)) ∧ ∀ y, b ≤ y → y < hi → c (va_up g.1 q (p.1 a) x) ≤ c (p.1 y)
    by_cases e : x = q
    · rw [e, va_up_self]
      refine ⟨fun y f1 f2 => s1 a y hla (by omega) f2, fun y f1 f2 => ?_⟩
      rcases hc with hc | hc
      · omega
      · by_cases e9 : y = b
        · rw [e9]; exact hc
        · exact Nat.le_trans hc (s2 b y hmb (by omega) f2)
    · rw [va_up_ne _ _ e]
      exact ⟨fun y f1 f2 => (h4 x e1 (by omega)).1 y (by omega) f2, (h4 x e1 (by omega)).2⟩
theorem MG.right {c : Nat → Nat} {p g0 g : PQ} {lo mi hi a b q : Nat} (h : MG c p g0 g lo mi hi a b q) (hq : lo ≤ q) (hb : b < hi) (s1 : srt c p.1 lo mi) (s2 : srt c p.1 mi hi) (hla : lo ≤ a) (hmb : mi ≤ b) (hc : mi ≤ a ∨ c (p.1 b) < c (p.1 a)) : MG c p g0 (va_up g.1 q (p.1 b), va_up g.2 q (p.2 b)) lo mi hi a (b + 1) (q + 1) := by
  obtain ⟨h1, h2, h3, h4⟩ := h
  have hlt : ∀ y, a ≤ y → y < mi → c (p.1 b) < c (p.1 y) := fun y f1 f2 => by
    rcases hc with hc | hc
    · omega
    · by_cases e9 : y = a
      · rw [e9]; exact hc
      · exact Nat.lt_of_lt_of_le hc (s1 a y hla (by omega) f2)
  refine ⟨fun x hx => ?_, fun t => ?_, fun x y e1 e2 e3 => ?_, fun x e1 e2 => ?_⟩
  · show va_up g.1 q (p.1 b) x = g0.1 x ∧ va_up g.2 q (p.2 b) x = g0.2 x
    rw [va_up_ne _ _ (by omega), va_up_ne _ _ (by omega)]
    exact h1 x hx
  · show kf c t (sg (va_up g.1 q (p.1 b)) (va_up g.2 q (p.2 b)) lo (q + 1 - lo) ++ _) = _
    rw [sg_up hq, ← h2 t, sg_hd hb]
    have e5 : kf c t ([(p.1 b, p.2 b)] ++ sg p.1 p.2 a (mi - a)) = kf c t (sg p.1 p.2 a (mi - a) ++ [(p.1 b, p.2 b)]) := by
      rw [kf_app, kf_app]
      by_cases ht : c (p.1 b) = t
      · rw [kf_none (l := sg p.1 p.2 a (mi - a)) (fun z hz => by
          obtain ⟨y, f1, f2, rfl⟩ := sg_mem hz
          have := hlt y f1 (by omega)
          show c (p.1 y) ≠ t
          omega), List.append_nil, List.nil_append]
      · rw [show kf c t [(p.1 b, p.2 b)] = [] from kf_f ht, List.append_nil, List.nil_append]
    rw [List.append_assoc, kf_app, kf_app (a := sg g.1 g.2 lo (q - lo)), ← List.append_assoc, kf_app, e5, ← kf_app, List.append_assoc]
    rfl
  · show c (va_up g.1 q (p.1 b) x) ≤ c (va_up g.1 q (p.1 b) y)
    rw [va_up_ne _ _ (show x ≠ q by omega)]
    by_cases e : y = q
    · rw [e, va_up_self]; exact (h4 x e1 (by omega)).2 b (Nat.le_refl _) hb
    · rw [va_up_ne _ _ e]; exact h3 x y e1 e2 (by omega)
  · show (∀ y, a ≤ y → y < mi → c (va_up g.1 q (p.1 b) x) ≤ c (p.1 y)) ∧ ∀ y, b + 1 ≤ y → y < hi → c (va_up g.1 q (p.1 b) x) ≤ c (p.1 y)
    by_cases e : x = q
    · rw [e, va_up_self]
      exact ⟨fun y f1 f2 => Nat.le_of_lt (hlt y f1 f2), fun y f1 f2 => s2 b y hmb (by omega) f2⟩
    · rw [va_up_ne _ _ e]
      exact ⟨(h4 x e1 (by omega)).1, fun y f1 f2 => (h4 x e1 (by omega)).2 y (by omega) f2⟩
/-- merged: the run [lo, hi) in sequence, what stood ahead of it as it was -/
theorem MG.done {c : Nat → Nat} {p g0 g : PQ} {lo mi hi a b q : Nat} (h : MG c p g0 g lo mi hi a b q) (ha : mi ≤ a) (hb : hi ≤ b) (hq : q = hi) : (∀ x, x < lo → g.1 x = g0.1 x ∧ g.2 x = g0.2 x) ∧ (∀ t, kf c t (sg g.1 g.2 lo (hi - lo)) = kf c t (sg p.1 p.2 lo (hi - lo))) ∧ srt c g.1 lo hi := by
  subst hq
  obtain ⟨h1, h2, h3, -⟩ := h
  refine ⟨h1, fun t => ?_, h3⟩
  have h5 := h2 t
  rw [show mi - a = 0 by omega, show q - b = 0 by omega, sg_0, sg_0, List.append_nil, List.append_nil] at h5
  exact h5
/-! rounds of merging: runs of w -/
def blk (c V : Nat → Nat) (n w : Nat) : Prop := ∀ x y, x < y → y < n → x / w = y / w → c (V x) ≤ c (V y)
theorem blk_1 (c V : Nat → Nat) (n : Nat) : blk c V n 1 := fun x y h1 _ h3 => by rw [Nat.div_one, Nat.div_one] at h3; omega
theorem blk_all {c V : Nat → Nat} {n w : Nat} (h : blk c V n w) (hw : n ≤ w) : srt c V 0 n := fun x y _ h2 h3 => h x y h2 h3 (by rw [Nat.div_eq_of_lt (by omega), Nat.div_eq_of_lt (by omega)])
theorem div_in {x w j : Nat} (h1 : w * j ≤ x) (h2 : x < w * j + w) : x / w = j := Nat.div_eq_of_lt_le (by rw [Nat.mul_comm]; exact h1) (by rw [Nat.add_mul, Nat.one_mul, Nat.mul_comm]; exact h2)
theorem blk_run {c V : Nat → Nat} {n w j lo hi : Nat} (h : blk c V n w) (hlo : lo = w * j) (hhi : hi ≤ lo + w) (hn : hi ≤ n) : srt c V lo hi := fun x y h1 h2 h3 => h x y h2 (by omega) (by rw [div_in (j := j) (by omega) (by omega), div_in (j := j) (by omega) (by omega)])
/-- the gathered things up to lo -/
def GT (c : Nat → Nat) (p g : PQ) (w lo : Nat) : Prop := (∀ t, kf c t (sg g.1 g.2 0 lo) = kf c t (sg p.1 p.2 0 lo)) ∧ blk c g.1 lo (2 * w)
theorem GT.start (c : Nat → Nat) (p g : PQ) (w : Nat) : GT c p g w 0 := ⟨fun _ => rfl, fun x y _ h _ => absurd h (Nat.not_lt_zero _)⟩
theorem GT.more {c : Nat → Nat} {p g g2 : PQ} {w lo hi j : Nat} (h : GT c p g w lo) (hj : lo = 2 * w * j) (hhi : hi ≤ lo + 2 * w) (hlh : lo ≤ hi) (m1 : ∀ x, x < lo → g2.1 x = g.1 x ∧ g2.2 x = g.2 x) (m2 : ∀ t, kf c t (sg g2.1 g2.2 lo (hi - lo)) = kf c t (sg p.1 p.2 lo (hi - lo))) (m3 : srt c g2.1 lo hi) : GT c p g2 w hi := by
  refine ⟨fun t => ?_, fun x y h1 h2 h3 => ?_⟩
  · rw [show hi = lo + (hi - lo) by omega, sg_add, sg_add (V := p.1), kf_app, kf_app, Nat.zero_add, m2 t, sg_cong (fun x _ hx => m1 x (by omega)), h.1 t]
  · by_cases e1 : y < lo
    · rw [(m1 x (by omega)).1, (m1 y e1).1]; exact h.2 x y h1 e1 h3
    · by_cases e2 : lo ≤ x
      · exact m3 x y e2 h1 h2
      · have d2 : y / (2 * w) = j := div_in (by omega) (by omega)
        have hw : 0 < 2 * w := by omega
        have d1 : x / (2 * w) < j := (Nat.div_lt_iff_lt_mul hw).mpr (by rw [Nat.mul_comm]; omega)
        omega
/-! gathered rank by rank -/
def gtr (r : Nat → Nat) (l : List (Nat × Nat)) : Nat → List (Nat × Nat)
  | 0 => []
  | k + 1 => gtr r l k ++ kf r k l
theorem gtr_kf {r : Nat → Nat} {l : List (Nat × Nat)} {t : Nat} : ∀ {k : Nat}, kf r t (gtr r l k) = if t < k then kf r t l else []
  | 0 => by rw [if_neg (Nat.not_lt_zero _)]; rfl
  | k + 1 => by
    rw [gtr, kf_app, gtr_kf]
    by_cases e : t = k
    · subst e
      rw [if_neg (Nat.lt_irrefl _), if_pos (Nat.lt_succ_self _), List.nil_append]
      unfold kf
      rw [List.filter_filter]
      simp
    · have e2 : kf r t (kf r k l) = [] := kf_none (fun z hz => by rw [(kf_mem.mp hz).2]; exact fun q => e q.symm)
      rw [e2, List.append_nil]
      by_cases h : t < k
      · rw [if_pos h, if_pos (by omega)]
      · rw [if_neg h, if_neg (by omega)]
theorem gtr_pw {r : Nat → Nat} {l : List (Nat × Nat)} : ∀ {k : Nat}, List.Pairwise (fun a b : Nat × Nat => r a.1 ≤ r b.1) (gtr r l k) ∧ ∀ a, a ∈ gtr r l k → r a.1 < k
  | 0 => ⟨List.Pairwise.nil, fun _ h => absurd h List.not_mem_nil⟩
  | k + 1 => by
    obtain ⟨h1, h2⟩ := gtr_pw (r := r) (l := l) (k := k)
    refine ⟨?_, fun a ha => ?_⟩
    · rw [gtr, List.pairwise_append]
      refine ⟨h1, ?_, fun a ha b hb => ?_⟩
      · exact List.Pairwise.imp_of_mem (R := fun _ _ => True) (fun {a b} ha hb _ => by rw [(kf_mem.mp ha).2, (kf_mem.mp hb).2]; exact Nat.le_refl _) (List.pairwise_of_forall (fun _ _ => trivial))
      · rw [(kf_mem.mp hb).2]; exact Nat.le_of_lt (h2 a ha)
    · rw [gtr] at ha
      rcases List.mem_append.mp ha with ha | ha
      · have := h2 a ha; omega
      · rw [(kf_mem.mp ha).2]; exact Nat.lt_succ_self _
/-- pairwise in a list of a stretch: in sequence -/
theorem srt_of {c V K : Nat → Nat} {f m : Nat} (h : List.Pairwise (fun a b : Nat × Nat => c a.1 ≤ c b.1) (sg V K f m)) : srt c V f (f + m) := fun x y h1 h2 h3 => by
  have h4 := List.pairwise_iff_getElem.mp h (x - f) (y - f) (by rw [sg, List.length_map, List.length_range]; omega) (by rw [sg, List.length_map, List.length_range]; omega) (by omega)
  have e : ∀ z (hz : z - f < (sg V K f m).length), f ≤ z → (sg V K f m)[z - f].1 = V z := fun z hz hf => by
    have h9 : z - f < m := by rw [sg, List.length_map, List.length_range] at hz; exact hz
    have h8 := sg_get (V := V) (K := K) (f := f) h9
    rw [List.getElem?_eq_getElem hz] at h8
    rw [Option.some.inj h8, show f + (z - f) = z by omega]
  rw [e x _ h1, e y _ (by omega)] at h4
  exact h4
/-- by ranks is by codes -/
theorem key_iff {c r : Nat → Nat} {p q : PQ} {e : Nat} (hcr : ∀ v u, v < 16 → u < 16 → (c v < c u ↔ r v < r u)) (hp : ∀ x, x < e → p.1 x < 16) (hq : ∀ x, x < e → q.1 x < 16) (ho : ∀ x, e ≤ x → q.1 x = p.1 x ∧ q.2 x = p.2 x) (hk : ∀ t, kf r t (sg q.1 q.2 0 e) = kf r t (sg p.1 p.2 0 e)) (hs : srt r q.1 0 e) : SP c p q 0 e ∧ srt c q.1 0 e := by
  refine ⟨⟨fun x hx => ho x (by omega), fun t => ?_⟩, fun x y h1 h2 h3 => ?_⟩
  · rw [Nat.sub_zero]
    by_cases ht : ∃ v, v < 16 ∧ c v = t
    · obtain ⟨v, hv, rfl⟩ := ht
      have one : ∀ g : PQ, (∀ x, x < e → g.1 x < 16) → kf c (c v) (sg g.1 g.2 0 e) = kf r (r v) (sg g.1 g.2 0 e) := fun g hg => by
        have gen : ∀ l : List (Nat × Nat), (∀ z, z ∈ l → z.1 < 16) → kf c (c v) l = kf r (r v) l := fun l => by
          induction l with
          | nil => intro _; rfl
          | cons z l ih =>
            intro hz
            have i1 := ih (fun y hy => hz y (List.mem_cons_of_mem _ hy))
            have z16 := hz z List.mem_cons_self
            have a1 := hcr z.1 v z16 hv
            have a2 := hcr v z.1 hv z16
            by_cases e1 : c z.1 = c v
            · have e2 : r z.1 = r v := by
                have b1 : ¬ r z.1 < r v := fun w => by have := a1.mpr w; omega
                have b2 : ¬ r v < r z.1 := fun w => by have := a2.mpr w; omega
                omega
              rw [kf_t e1, kf_t e2, i1]
            · have e2 : r z.1 ≠ r v := fun w => by
                have b1 : ¬ c z.1 < c v := fun w2 => by have := a1.mp w2; omega
                have b2 : ¬ c v < c z.1 := fun w2 => by have := a2.mp w2; omega
                omega
              rw [kf_f e1, kf_f e2, i1]
        exact gen _ (fun z hz => by obtain ⟨x, _, h2, rfl⟩ := sg_mem hz; exact hg x (by omega))
      rw [one q hq, one p hp, hk]
    · have no : ∀ g : PQ, (∀ x, x < e → g.1 x < 16) → kf c t (sg g.1 g.2 0 e) = [] := fun g hg => kf_none (fun z hz w => by
        obtain ⟨x, _, h2, rfl⟩ := sg_mem hz
        exact ht ⟨g.1 x, hg x (by omega), w⟩)
      rw [no q hq, no p hp]
  · have a := hs x y h1 h2 h3
    have b := hcr (q.1 y) (q.1 x) (hq y h3) (hq x (by omega))
    by_cases w : c (q.1 y) < c (q.1 x)
    · have := b.mp w; omega
    · omega

