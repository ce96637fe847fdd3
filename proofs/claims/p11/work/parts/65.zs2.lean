/-! the reference's rounds: a stable sorting -/
theorem SP_swp {c : Nat → Nat} {p0 p : PQ} {f e k : Nat} (h : SP c p0 p f e) (h1 : f ≤ k) (h2 : k + 1 < e) : SP c p0 (swp c p k) f e := by
  unfold swp
  split
  · rename_i hc
    exact h.swap h1 h2 hc
  · exact h
theorem SP_pass {c : Nat → Nat} {p0 p : PQ} {f e : Nat} (h : SP c p0 p f e) : ∀ a, f + a < e → SP c p0 (passN c f p a) f e
  | 0, _ => h
  | a + 1, ha => SP_swp (SP_pass h a (by omega)) (by omega) (by omega)
theorem SP_rnd {c : Nat → Nat} {p0 : PQ} {f e w : Nat} (hw : f + w < e ∨ w = 0) : ∀ r, SP c p0 (rndN c f w p0 r) f e
  | 0 => SP.refl c p0 f e
  | r + 1 => by
    have ih := SP_rnd (c := c) (p0 := p0) (e := e) hw r
    rcases hw with hw | hw
    · exact SP_pass ih w hw
    · subst hw
      exact ih
def Tl (c V : Nat → Nat) (f e r : Nat) : Prop := ∀ x y, f ≤ x → x < y → y < e → e ≤ y + r → c (V x) ≤ c (V y)
def Mx (c V : Nat → Nat) (f k : Nat) : Prop := ∀ x, f ≤ x → x ≤ k → c (V x) ≤ c (V k)
theorem Tl_swp {c : Nat → Nat} {p : PR} {f e r k : Nat} (h : Tl c p.1 f e r) (h1 : f ≤ k) (h2 : k + 1 < e) : Tl c (swp c p k).1 f e r := by
  by_cases hc : c (p.1 (k + 1)) < c (p.1 k)
  · rw [swp_t hc]
    by_cases hr : e ≤ k + 1 + r
    · have := h k (k + 1) h1 (by omega) h2 hr
      omega
    · intro x y a1 a2 a3 a4
      show c (xch p.1 k (k + 1) x) ≤ c (xch p.1 k (k + 1) y)
      have hy : xch p.1 k (k + 1) y = p.1 y := by rw [xch_at, if_neg (by omega), if_neg (by omega)]
      rw [hy, xch_at]
      split
      · exact h k y h1 (by omega) a3 a4
      · split
        · exact h (k + 1) y (by omega) (by omega) a3 a4
        · exact h x y a1 a2 a3 a4
  · rw [swp_f hc]
    exact h
theorem Mx_swp {c : Nat → Nat} {p : PR} {f k : Nat} (h : Mx c p.1 f k) : Mx c (swp c p k).1 f (k + 1) := by
  by_cases hc : c (p.1 (k + 1)) < c (p.1 k)
  · rw [swp_t hc]
    intro x a1 a2
    show c (xch p.1 k (k + 1) x) ≤ c (xch p.1 k (k + 1) (k + 1))
    have e : xch p.1 k (k + 1) (k + 1) = p.1 k := by rw [xch_at, if_pos rfl]
    rw [e, xch_at]
    split
    · exact Nat.le_refl _
    · split
      · exact Nat.le_of_lt hc
      · exact h x a1 (by omega)
  · rw [swp_f hc]
    intro x a1 a2
    by_cases e : x = k + 1
    · rw [e]; exact Nat.le_refl _
    · exact Nat.le_trans (h x a1 (by omega)) (by omega)
theorem pass_T {c : Nat → Nat} {p : PR} {f e r : Nat} (h : Tl c p.1 f e r) : ∀ a, f + a < e → Tl c (passN c f p a).1 f e r ∧ Mx c (passN c f p a).1 f (f + a) ∧ (e ≤ f + a + 1 + r → Tl c (passN c f p a).1 f e (r + 1))
  | 0, ha => ⟨h, fun x a1 a2 => by rw [show x = f + 0 by omega]; exact Nat.le_refl _, fun hr x y a1 a2 a3 a4 => h x y a1 a2 a3 (by omega)⟩
  | a + 1, ha => by
    obtain ⟨i1, i2, i3⟩ := pass_T h a (by omega)
    have j1 : Tl c (passN c f p (a + 1)).1 f e r := Tl_swp i1 (by omega) (by omega)
    have j2 : Mx c (passN c f p (a + 1)).1 f (f + (a + 1)) := Mx_swp i2
    refine ⟨j1, j2, fun hr x y a1 a2 a3 a4 => ?_⟩
    by_cases hy : e ≤ y + r
    · exact j1 x y a1 a2 a3 hy
    · by_cases h9 : e ≤ f + a + 1 + r
      · have j3 : Tl c (passN c f p (a + 1)).1 f e (r + 1) := Tl_swp (i3 h9) (by omega) (by omega)
        exact j3 x y a1 a2 a3 a4
      · rw [show y = f + (a + 1) by omega]
        exact j2 x a1 (by omega)
theorem rnd_T {c : Nat → Nat} {p : PR} {f e w : Nat} (hw : f + w + 1 = e) : ∀ r, Tl c (rndN c f w p r).1 f e r
  | 0 => fun x y _ _ h3 h4 => by omega
  | r + 1 => fun x y a1 a2 a3 a4 => by
    by_cases h9 : e ≤ f + w + 1 + r
    · exact (pass_T (rnd_T hw r) w (by omega)).2.2 h9 x y a1 a2 a3 a4
    · omega
theorem rnd_srt {c : Nat → Nat} {p : PR} {f e : Nat} : srt c (rndN c f (e - f - 1) p (e - f)).1 f e := fun x y h1 h2 h3 => rnd_T (w := e - f - 1) (by omega) (e - f) x y h1 h2 h3 (by omega)
theorem rnd_SP {c : Nat → Nat} {p : PR} {f e : Nat} : SP c p (rndN c f (e - f - 1) p (e - f)) f e := SP_rnd (by omega) _
/-! counts in a stretch -/
theorem cntB_split (p : Nat → Bool) (a : Nat) : ∀ b, cntB p (a + b) = cntB p a + cntB (fun k => p (a + k)) b
  | 0 => rfl
  | b + 1 => by
    show cntB p (a + b) + (if p (a + b) then 1 else 0) = cntB p a + (cntB (fun k => p (a + k)) b + (if p (a + b) then 1 else 0))
    rw [cntB_split p a b]
    omega
theorem cnt_seg {p : Nat → Bool} {q q2 n : Nat} (h : ∀ k, k < n → k < q ∨ q2 ≤ k → p k = false) (h1 : q ≤ q2) (h2 : q2 ≤ n) : cntB p n = cntB (fun a => p (q + a)) (q2 - q) := by
  rw [show n = q + ((q2 - q) + (n - q2)) by omega, cntB_split, cntB_split, cntB_none (n := q) (fun k hk => h k (by omega) (Or.inl hk)), cntB_none (n := n - q2) (fun k hk => h _ (by omega) (Or.inr (by omega)))]
  omega
/-! round and round -/
theorem rot_at {f : Nat → Nat} {n : Nat} : ∀ {sh x : Nat}, sh ≤ n → x < n → rotI f n sh x = f ((x + n - sh) % n)
  | 0, x, _, hx => by rw [Nat.sub_zero, Nat.add_mod_right, Nat.mod_eq_of_lt hx]; rfl
  | sh + 1, x, hs, hx => by
    show car (rotI f n sh) n 0 x = _
    unfold car
    rw [if_neg (Nat.not_lt_zero _)]
    by_cases e : x = 0
    · rw [if_pos e, rot_at (by omega) (by omega)]
      subst e
      rw [show n - 1 + n - sh = (0 + n - (sh + 1)) + n by omega, Nat.add_mod_right]
    · rw [if_neg e, if_pos hx, rot_at (by omega) (by omega), show x - 1 + n - sh = x + n - (sh + 1) by omega]

