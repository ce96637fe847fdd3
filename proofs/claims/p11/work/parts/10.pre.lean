/-! small rows behind the code: worlds written twice, a falling counter, comparisons by codes -/
theorem xR_xR (S : XS) (i : Nat) (r r' : RowS) : xR (xR S i r) i r' = xR S i r' := by
  unfold xR
  rw [bx_uu]
theorem xO_xO (S : XS) (i : Nat) (o o' : OrdS) : xO (xO S i o) i o' = xO S i o' := by
  unfold xO
  dsimp only
  rw [bx_uu]
theorem xR_self (S : XS) (i : Nat) : xR S i (S.1 i) = S := by
  unfold xR
  have h : va_up S.1 i (S.1 i) = S.1 := by
    funext j
    unfold va_up
    split
    · rename_i h; rw [h]
    · rfl
  rw [h]
theorem xO_self (S : XS) (i : Nat) : xO S i (S.2.1 i) = S := by
  unfold xO
  have h : va_up S.2.1 i (S.2.1 i) = S.2.1 := by
    funext j
    unfold va_up
    split
    · rename_i h; rw [h]
    · rfl
  rw [h]
theorem xR_ord (S : XS) (i : Nat) (r : RowS) : (xR S i r).2 = S.2 := rfl
theorem xO_row (S : XS) (i : Nat) (o : OrdS) : (xO S i o).1 = S.1 := rfl
theorem kn_dec {a : Nat} (h : 1 ≤ a) : nI a + Int32.ofInt (-1) = nI (a - 1) := by
  obtain ⟨b, rfl⟩ : ∃ b, a = b + 1 := ⟨a - 1, by omega⟩
  exact pk_m1 b
/-- how two numbers compare, as compareTo tells it -/
def cmpI (a b : Nat) : Int32 := if a < b then -1 else if b < a then 1 else 0
theorem cmpI_lt {a b : Nat} (h : a < b) : cmpI a b = -1 := if_pos h
theorem cmpI_gt {a b : Nat} (h : b < a) : cmpI a b = 1 := by rw [cmpI, if_neg (by omega), if_pos h]
theorem cmpI_eq {a b : Nat} (h : a = b) : cmpI a b = 0 := by rw [cmpI, if_neg (by omega), if_neg (by omega)]
theorem cmpI_neg (a b : Nat) : -cmpI a b = cmpI b a := by
  rcases Nat.lt_trichotomy a b with h | h | h
  · rw [cmpI_lt h, cmpI_gt h]; decide
  · rw [cmpI_eq h, cmpI_eq h.symm]; decide
  · rw [cmpI_gt h, cmpI_lt h]
theorem cmpI_0 {a b : Nat} : cmpI a b = 0 ↔ a = b := by
  rcases Nat.lt_trichotomy a b with h | h | h
  · rw [cmpI_lt h]; exact ⟨fun q => absurd q (by decide), fun q => by omega⟩
  · rw [cmpI_eq h]; exact ⟨fun _ => h, fun _ => rfl⟩
  · rw [cmpI_gt h]; exact ⟨fun q => absurd q (by decide), fun q => by omega⟩
theorem cmpI_l {a b : Nat} : cmpI a b < 0 ↔ a < b := by
  rcases Nat.lt_trichotomy a b with h | h | h
  · rw [cmpI_lt h]; exact ⟨fun _ => h, fun _ => by decide⟩
  · rw [cmpI_eq h]; exact ⟨fun q => absurd q (by decide), fun q => by omega⟩
  · rw [cmpI_gt h]; exact ⟨fun q => absurd q (by decide), fun q => by omega⟩
theorem cmpI_ge {a b : Nat} : 0 ≤ cmpI a b ↔ b ≤ a := by
  rcases Nat.lt_trichotomy a b with h | h | h
  · rw [cmpI_lt h]; exact ⟨fun q => absurd q (by decide), fun q => by omega⟩
  · rw [cmpI_eq h]; exact ⟨fun _ => by omega, fun _ => by decide⟩
  · rw [cmpI_gt h]; exact ⟨fun _ => by omega, fun _ => by decide⟩
theorem cmpI_g {a b : Nat} : 0 < cmpI a b ↔ b < a := by
  rcases Nat.lt_trichotomy a b with h | h | h
  · rw [cmpI_lt h]; exact ⟨fun q => absurd q (by decide), fun q => by omega⟩
  · rw [cmpI_eq h]; exact ⟨fun q => absurd q (by decide), fun q => by omega⟩
  · rw [cmpI_gt h]; exact ⟨fun _ => h, fun _ => by decide⟩
theorem cmpI_le {a b : Nat} : cmpI a b ≤ 0 ↔ a ≤ b := by
  rcases Nat.lt_trichotomy a b with h | h | h
  · rw [cmpI_lt h]; exact ⟨fun _ => by omega, fun _ => by decide⟩
  · rw [cmpI_eq h]; exact ⟨fun _ => by omega, fun _ => by decide⟩
  · rw [cmpI_gt h]; exact ⟨fun q => absurd q (by decide), fun q => by omega⟩
theorem WX.preSor {dC : Nat → ClassId} {dI : Nat → Nat → Nat} {ad : Nat → Nat} {S : XS} {A : Nat → Prop} {s : State} {H : Heap} {locs : List Loc} (h : WX dC dI ad S A s H locs) {w : Nat} (hw : w < 2) {As : List Value} : PreV s H RX3 (ad (54 + w)) (va_Pc (Value.ref (ad (54 + w)) :: As) (PX dC dI ad S)) As :=
  ⟨PX.blind, va_recv h.2.1 h.1 (ci := 5) (q0 := 54 + w) rfl (wX_sorter hw), fun _ hU hW => ⟨rfl, h.P hU hW⟩⟩
theorem cmp_lN {a b : Nat} (ha : a < 2 ^ 62) (hb : b < 2 ^ 62) : lg_cmp (lN a) (lN b) = cmpI a b := by
  have ha' : a < 2 ^ 63 := by omega
  have hb' : b < 2 ^ 63 := by omega
  unfold lg_cmp
  rcases Nat.lt_trichotomy a b with h | h | h
  · rw [cmpI_lt h, if_neg (show ¬ lN b < lN a by rw [pk_lLT hb' ha']; omega), if_neg (by rw [pk_lEQ ha' hb']; omega)]
  · rw [cmpI_eq h, if_neg (show ¬ lN b < lN a by rw [pk_lLT hb' ha']; omega), if_pos (by rw [pk_lEQ ha' hb']; omega)]
  · rw [cmpI_gt h, if_pos (show lN b < lN a by rw [pk_lLT hb' ha']; omega)]
section KC
variable {p : Program} {l : Launch} {e : Env} {R : Room} {s : State} {m : MethodId} {args : Array Value} {below : List Frame} {meth : Method} {c : Code} {H : Heap} {locs : List Loc} {cells slots : Nat} {Q : State → Prop}
variable {cc : ByteArray} {pc : Nat} {ls : Array Slot} {rest : List Value} {off : Int} {tgt : Nat} {a b : Nat} {z : Bool}
theorem kc_if_lt (hx : p.tables.exec = Jvm.exec) (hb : c.code = cc) (hdg : decode cc pc = .ok (.ifCond .lt off, 3)) (ht : (pc : Int) + off = (tgt : Int)) (kt : a < b → W p l e R s m args below meth c H locs cells slots Q (F0 m tgt ls rest)) (kf : b ≤ a → W p l e R s m args below meth c H locs cells slots Q (F0 m (pc + 3) ls rest)) : W p l e R s m args below meth c H locs cells slots Q (F0 m pc ls (.int (cmpI a b) :: rest)) :=
  lv_if_lt hx hb hdg ht (fun h => kt (cmpI_l.mp h)) (fun h => kf (by rw [cmpI_l] at h; omega))
theorem kc_if_ge (hx : p.tables.exec = Jvm.exec) (hb : c.code = cc) (hdg : decode cc pc = .ok (.ifCond .ge off, 3)) (ht : (pc : Int) + off = (tgt : Int)) (kt : b ≤ a → W p l e R s m args below meth c H locs cells slots Q (F0 m tgt ls rest)) (kf : a < b → W p l e R s m args below meth c H locs cells slots Q (F0 m (pc + 3) ls rest)) : W p l e R s m args below meth c H locs cells slots Q (F0 m pc ls (.int (cmpI a b) :: rest)) :=
  lv_if_ge hx hb hdg ht (fun h => kt (cmpI_ge.mp h)) (fun h => kf (by rw [cmpI_ge] at h; omega))
theorem kc_if_gt (hx : p.tables.exec = Jvm.exec) (hb : c.code = cc) (hdg : decode cc pc = .ok (.ifCond .gt off, 3)) (ht : (pc : Int) + off = (tgt : Int)) (kt : b < a → W p l e R s m args below meth c H locs cells slots Q (F0 m tgt ls rest)) (kf : a ≤ b → W p l e R s m args below meth c H locs cells slots Q (F0 m (pc + 3) ls rest)) : W p l e R s m args below meth c H locs cells slots Q (F0 m pc ls (.int (cmpI a b) :: rest)) :=
  lv_if_gt hx hb hdg ht (fun h => kt (cmpI_g.mp h)) (fun h => kf (by rw [cmpI_g] at h; omega))
theorem kc_if_le (hx : p.tables.exec = Jvm.exec) (hb : c.code = cc) (hdg : decode cc pc = .ok (.ifCond .le off, 3)) (ht : (pc : Int) + off = (tgt : Int)) (kt : a ≤ b → W p l e R s m args below meth c H locs cells slots Q (F0 m tgt ls rest)) (kf : b < a → W p l e R s m args below meth c H locs cells slots Q (F0 m (pc + 3) ls rest)) : W p l e R s m args below meth c H locs cells slots Q (F0 m pc ls (.int (cmpI a b) :: rest)) :=
  lv_if_le hx hb hdg ht (fun h => kt (cmpI_le.mp h)) (fun h => kf (by rw [cmpI_le] at h; omega))
theorem kc_if_eq (hx : p.tables.exec = Jvm.exec) (hb : c.code = cc) (hdg : decode cc pc = .ok (.ifCond .eq off, 3)) (ht : (pc : Int) + off = (tgt : Int)) (kt : a = b → W p l e R s m args below meth c H locs cells slots Q (F0 m tgt ls rest)) (kf : a ≠ b → W p l e R s m args below meth c H locs cells slots Q (F0 m (pc + 3) ls rest)) : W p l e R s m args below meth c H locs cells slots Q (F0 m pc ls (.int (cmpI a b) :: rest)) :=
  lv_if_eq hx hb hdg ht (fun h => kt (cmpI_0.mp h)) (fun h => kf (fun q => h (cmpI_0.mpr q)))
theorem kc_if_ne (hx : p.tables.exec = Jvm.exec) (hb : c.code = cc) (hdg : decode cc pc = .ok (.ifCond .ne off, 3)) (ht : (pc : Int) + off = (tgt : Int)) (kt : a ≠ b → W p l e R s m args below meth c H locs cells slots Q (F0 m tgt ls rest)) (kf : a = b → W p l e R s m args below meth c H locs cells slots Q (F0 m (pc + 3) ls rest)) : W p l e R s m args below meth c H locs cells slots Q (F0 m pc ls (.int (cmpI a b) :: rest)) :=
  lv_if_ne hx hb hdg ht (fun h => kt (fun q => h (cmpI_0.mpr q))) (fun h => kf (cmpI_0.mp h))
/-- lcmp of codes -/
theorem kc_lcmp (hx : p.tables.exec = Jvm.exec) (hb : c.code = cc) (ha : a < 2 ^ 62) (hb2 : b < 2 ^ 62) (hdg : decode cc pc = .ok (.lcmp, 1)) (kk : W p l e R s m args below meth c H locs cells slots Q (F0 m (pc + 1) ls (.int (cmpI a b) :: rest))) : W p l e R s m args below meth c H locs cells slots Q (F0 m pc ls (.long (lN b) :: .long (lN a) :: rest)) := by
  refine W.lcmp hx hb hdg ?_
  rw [cmp_lN ha hb2]
  exact kk
theorem kn_ladd (hx : p.tables.exec = Jvm.exec) (hb : c.code = cc) (hdg : decode cc pc = .ok (.ladd, 1)) (kk : W p l e R s m args below meth c H locs cells slots Q (F0 m (pc + 1) ls (.long (lN (a + b)) :: rest))) : W p l e R s m args below meth c H locs cells slots Q (F0 m pc ls (.long (lN b) :: .long (lN a) :: rest)) :=
  lv_ladd hx hb hdg (by rw [lN_add]; exact kk)
theorem kn_lmul (hx : p.tables.exec = Jvm.exec) (hb : c.code = cc) (hdg : decode cc pc = .ok (.lmul, 1)) (kk : W p l e R s m args below meth c H locs cells slots Q (F0 m (pc + 1) ls (.long (lN (a * b)) :: rest))) : W p l e R s m args below meth c H locs cells slots Q (F0 m pc ls (.long (lN b) :: .long (lN a) :: rest)) :=
  lv_lmul hx hb hdg (by rw [lN_mul]; exact kk)
theorem kn_idiv (hx : p.tables.exec = Jvm.exec) (hb : c.code = cc) (ha : a < 2 ^ 31) (h0 : 0 < b) (hb2 : b < 2 ^ 31) (hdg : decode cc pc = .ok (.idiv, 1)) (kk : W p l e R s m args below meth c H locs cells slots Q (F0 m (pc + 1) ls (.int (nI (a / b)) :: rest))) : W p l e R s m args below meth c H locs cells slots Q (F0 m pc ls (.int (nI b) :: .int (nI a) :: rest)) :=
  lv_idiv hx hb hdg (nI_ne0 h0 hb2) (by rw [pk_div ha h0 hb2]; exact kk)
theorem kn_irem (hx : p.tables.exec = Jvm.exec) (hb : c.code = cc) (ha : a < 2 ^ 31) (h0 : 0 < b) (hb2 : b < 2 ^ 31) (hdg : decode cc pc = .ok (.irem, 1)) (kk : W p l e R s m args below meth c H locs cells slots Q (F0 m (pc + 1) ls (.int (nI (a % b)) :: rest))) : W p l e R s m args below meth c H locs cells slots Q (F0 m pc ls (.int (nI b) :: .int (nI a) :: rest)) :=
  lv_irem hx hb hdg (nI_ne0 h0 hb2) (by rw [pk_rem ha h0 hb2]; exact kk)
end KC
/-! counting and finding -/
def cntB (p : Nat → Bool) : Nat → Nat
  | 0 => 0
  | n + 1 => cntB p n + (if p n then 1 else 0)
theorem cntB_t {p : Nat → Bool} {n : Nat} (h : p n = true) : cntB p (n + 1) = cntB p n + 1 := by rw [cntB, h]; rfl
theorem cntB_f {p : Nat → Bool} {n : Nat} (h : p n = false) : cntB p (n + 1) = cntB p n := by rw [cntB, h]; rfl
theorem cntB_le (p : Nat → Bool) : ∀ n, cntB p n ≤ n
  | 0 => Nat.le_refl 0
  | n + 1 => by
    have h := cntB_le p n
    rw [cntB]
    split <;> omega
theorem cntB_cong {p q : Nat → Bool} : ∀ {n : Nat}, (∀ k, k < n → p k = q k) → cntB p n = cntB q n
  | 0, _ => rfl
  | n + 1, h => by rw [cntB, cntB, cntB_cong (fun k hk => h k (by omega)), h n (by omega)]
def bestB (p : Nat → Bool) (lt : Nat → Nat → Bool) : Nat → Option Nat
  | 0 => none
  | n + 1 => if p n then (match bestB p lt n with | none => some n | some b => if lt n b then some n else some b) else bestB p lt n
theorem bestB_lt {p : Nat → Bool} {lt : Nat → Nat → Bool} : ∀ {n b : Nat}, bestB p lt n = some b → b < n ∧ p b = true
  | 0, b, h => by cases h
  | n + 1, b, h => by
    rw [bestB] at h
    by_cases hp : p n = true
    · rw [if_pos hp] at h
      cases hb : bestB p lt n with
      | none => rw [hb] at h; cases h; exact ⟨Nat.lt_succ_self _, hp⟩
      | some b' =>
        rw [hb] at h
        dsimp only at h
        split at h
        · cases h; exact ⟨Nat.lt_succ_self _, hp⟩
        · cases h
          have := bestB_lt hb
          exact ⟨by omega, this.2⟩
    · rw [if_neg hp] at h
      have := bestB_lt h
      exact ⟨by omega, this.2⟩
theorem bestB_no {p : Nat → Bool} {lt : Nat → Nat → Bool} {n : Nat} (h : p n = false) : bestB p lt (n + 1) = bestB p lt n := by rw [bestB, h]; rfl
theorem bestB_first {p : Nat → Bool} {lt : Nat → Nat → Bool} {n : Nat} (h : p n = true) (hb : bestB p lt n = none) : bestB p lt (n + 1) = some n := by rw [bestB, h, hb]; rfl
theorem bestB_new {p : Nat → Bool} {lt : Nat → Nat → Bool} {n b : Nat} (h : p n = true) (hb : bestB p lt n = some b) (hl : lt n b = true) : bestB p lt (n + 1) = some n := by rw [bestB, h, hb]; simp [hl]
theorem bestB_old {p : Nat → Bool} {lt : Nat → Nat → Bool} {n b : Nat} (h : p n = true) (hb : bestB p lt n = some b) (hl : lt n b = false) : bestB p lt (n + 1) = some b := by rw [bestB, h, hb]; simp [hl]
theorem bestB_some {lt : Nat → Nat → Bool} {n : Nat} (h : 0 < n) : ∃ b, bestB (fun _ => true) lt n = some b := by
  obtain ⟨k, rfl⟩ : ∃ k, n = k + 1 := ⟨n - 1, by omega⟩
  rw [bestB]
  cases hb : bestB (fun _ => true) lt k with
  | none => exact ⟨k, rfl⟩
  | some b =>
    by_cases hl : lt k b = true
    · exact ⟨k, by simp [hl]⟩
    · exact ⟨b, by simp [hl]⟩
def oI (o : Option Nat) : Int32 := match o with
  | none => -1
  | some k => nI k
theorem kd_t {P : Prop} [Decidable P] (h : P) : bI true = bI (decide P) := congrArg bI (decide_eq_true h).symm
theorem kd_f {P : Prop} [Decidable P] (h : ¬ P) : bI false = bI (decide P) := congrArg bI (decide_eq_false h).symm
/-! values by keys, codes, classes, ranks -/
def numK (k v : Nat) : Nat := match k with
  | 0 => v
  | 1 => v / 4
  | 2 => v % 4
  | 3 => v % 2
  | 4 => v % 3
  | 5 => if v < 8 then 7 - v else v - 8
  | 6 => v / 8 + v / 4 % 2 + v / 2 % 2 + v % 2
  | _ => 0
theorem numK_lt {k v : Nat} (hv : v < 16) : numK k v < 16 := by
  unfold numK
  split <;> (try split) <;> omega
def digK (k : Nat) (d : Bool) (v : Nat) : Nat := if d then 15 - numK k v else numK k v
theorem digK_lt {k : Nat} {d : Bool} {v : Nat} (hv : v < 16) : digK k d v < 16 := by
  have := numK_lt (k := k) hv
  unfold digK
  split <;> omega
def codeOf (K : Nat → Nat) (D : Nat → Bool) : Nat → Nat → Nat
  | 0, _ => 0
  | n + 1, v => codeOf K D n v * 16 + digK (K n) (D n) v
theorem codeOf_lt (K : Nat → Nat) (D : Nat → Bool) {v : Nat} (hv : v < 16) : ∀ n, codeOf K D n v < 16 ^ n
  | 0 => Nat.lt_succ_self 0
  | n + 1 => by
    have h := codeOf_lt K D hv n
    have h2 := digK_lt (k := K n) (d := D n) hv
    rw [codeOf, Nat.pow_succ]
    omega
theorem codeOf_cong {K K' : Nat → Nat} {D D' : Nat → Bool} {v : Nat} : ∀ {n : Nat}, (∀ k, k < n → K k = K' k ∧ D k = D' k) → codeOf K D n v = codeOf K' D' n v
  | 0, _ => rfl
  | n + 1, h => by rw [codeOf, codeOf, codeOf_cong (fun k hk => h k (by omega)), (h n (by omega)).1, (h n (by omega)).2]
def headB (c : Nat → Nat) (h : Nat) : Bool := decide (∀ k, k < h → c k ≠ c h)
def classC (c : Nat → Nat) : Nat := cntB (headB c) 16
def rankC (c : Nat → Nat) (v : Nat) : Nat := cntB (fun h => headB c h && decide (c h < c v)) 16
/-- a row in bounds -/
def rowOK (r : RowS) : Prop := r.2.2 ≤ 16 ∧ ∀ k, k < 16 → r.1 k < 16 ∧ r.2.1 k < 1000000
/-- an order's steps in bounds -/
def stepOK (o : OrdS) : Prop := o.2.2.2.2.1 ≤ 10 ∧ ∀ k, k < 10 → o.1 k < 8
/-- an order in bounds and settled -/
def ordOK (o : OrdS) : Prop := stepOK o ∧ (∀ v, v < 16 → o.2.2.1 v = codeOf o.1 o.2.1 o.2.2.2.2.1 v) ∧ (∀ v, v < 16 → o.2.2.2.1 v = rankC (codeOf o.1 o.2.1 o.2.2.2.2.1) v) ∧ o.2.2.2.2.2 = classC (codeOf o.1 o.2.1 o.2.2.2.2.1)
theorem pow16_le {n : Nat} (h : n ≤ 10) : 16 ^ n ≤ 2 ^ 40 := by
  have : (16 : Nat) ^ n ≤ 16 ^ 10 := Nat.pow_le_pow_right (by decide) h
  exact Nat.le_trans this (by decide)
theorem ordOK.code {o : OrdS} (h : ordOK o) {v : Nat} (hv : v < 16) : o.2.2.1 v < 2 ^ 40 := by
  rw [h.2.1 v hv]
  exact Nat.lt_of_lt_of_le (codeOf_lt _ _ hv _) (pow16_le h.1.1)
theorem rankC_le (c : Nat → Nat) (v : Nat) : rankC c v ≤ 16 := cntB_le _ 16
theorem classC_le (c : Nat → Nat) : classC c ≤ 16 := cntB_le _ 16
theorem WX.eqS {dC : Nat → ClassId} {dI : Nat → Nat → Nat} {ad : Nat → Nat} {S S' : XS} {A : Nat → Prop} {s : State} {H : Heap} {locs : List Loc} (e : S = S') (h : WX dC dI ad S A s H locs) : WX dC dI ad S' A s H locs := by
  subst e
  exact h
