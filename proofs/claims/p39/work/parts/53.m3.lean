/-! the reference: rows sorted, searched -/
def difN (f g : Nat → Nat) (q n : Nat) : Nat := cntB (fun a => decide (f (q + a) ≠ g (q + a))) n
abbrev srtM (M : MS) (i j q q2 : Nat) : PR := rndN (cM M j) q (q2 - q - 1) ((M.1 i).1, (M.1 i).2.1) (q2 - q)
theorem upd_s {f g : Nat → Nat} {q y : Nat} (h : ∀ x, q ≤ x → x < y → f x = g x) : ∀ x, q ≤ x → x < y + 1 → va_up f y (g y) x = g x := fun x h1 h2 => by
  unfold va_up
  split
  · rename_i e; rw [e]
  · exact h x h1 (by omega)
theorem pass_f {c : Nat → Nat} {f x : Nat} {p : PR} (h1 : f ≤ x) (h : ¬ c ((passN c f p (x - f)).1 (x + 1)) < c ((passN c f p (x - f)).1 x)) : passN c f p (x + 1 - f) = passN c f p (x - f) := by
  rw [show x + 1 - f = (x - f) + 1 by omega]
  show swp c (passN c f p (x - f)) (f + (x - f)) = _
  rw [show f + (x - f) = x by omega, swp_f h]
theorem pass_t {c : Nat → Nat} {f x : Nat} {p : PR} (h1 : f ≤ x) (h : c ((passN c f p (x - f)).1 (x + 1)) < c ((passN c f p (x - f)).1 x)) : passN c f p (x + 1 - f) = (xch (passN c f p (x - f)).1 x (x + 1), xch (passN c f p (x - f)).2 x (x + 1)) := by
  rw [show x + 1 - f = (x - f) + 1 by omega]
  show swp c (passN c f p (x - f)) (f + (x - f)) = _
  rw [show f + (x - f) = x by omega, swp_t h]
theorem rnd_s {c : Nat → Nat} {f w y : Nat} {p : PR} (h1 : f ≤ y) : rndN c f w p (y + 1 - f) = passN c f (rndN c f w p (y - f)) w := by
  rw [show y + 1 - f = (y - f) + 1 by omega]
  rfl
theorem dif_t {f g : Nat → Nat} {q x cc : Nat} (hq : q ≤ x) (h : f x ≠ g x) (hc : cc = difN f g q (x - q)) : cc + 1 = difN f g q (x + 1 - q) := by
  rw [show x + 1 - q = (x - q) + 1 by omega, difN, cntB_t (decide_eq_true (by rw [show q + (x - q) = x by omega]; exact h)), hc]
  rfl
theorem dif_f {f g : Nat → Nat} {q x cc : Nat} (hq : q ≤ x) (h : f x = g x) (hc : cc = difN f g q (x - q)) : cc = difN f g q (x + 1 - q) := by
  rw [show x + 1 - q = (x - q) + 1 by omega, difN, cntB_f (decide_eq_false (by rw [show q + (x - q) = x by omega]; exact fun z => z h)), hc]
  rfl
/-- the extreme rank, as the reference finds it: what is best so far, none at first -/
def exB (z : Bool) (b x : Nat) : Bool := if z = true then decide (b < x) else decide (x < b)
def exM (r : Nat → Nat) (z : Bool) : Nat → Option Nat
  | 0 => none
  | k + 1 => match exM r z k with
    | none => some (r k)
    | some b => if exB z b (r k) = true then some (r k) else some b
theorem exM_n {r : Nat → Nat} {z : Bool} {k : Nat} (h : exM r z k = none) : exM r z (k + 1) = some (r k) := by rw [exM, h]
theorem exM_t {r : Nat → Nat} {z : Bool} {k b : Nat} (h : exM r z k = some b) (h2 : exB z b (r k) = true) : exM r z (k + 1) = some (r k) := by
  rw [exM, h]
  dsimp only
  rw [if_pos h2]
theorem exM_f {r : Nat → Nat} {z : Bool} {k b : Nat} (h : exM r z k = some b) (h2 : exB z b (r k) = false) : exM r z (k + 1) = some b := by
  rw [exM, h]
  dsimp only
  rw [h2]
  rfl
theorem exM_lt {r : Nat → Nat} {z : Bool} {m : Nat} : ∀ {n b : Nat}, (∀ k, k < n → r k < m) → exM r z n = some b → b < m
  | 0, b, _, h => by cases h
  | n + 1, b, hr, h => by
    cases e : exM r z n with
    | none => rw [exM_n e] at h; cases h; exact hr n (by omega)
    | some b' =>
      have := exM_lt (fun k hk => hr k (by omega)) e
      cases h9 : exB z b' (r n) with
      | true => rw [exM_t e h9] at h; cases h; exact hr n (by omega)
      | false => rw [exM_f e h9] at h; cases h; exact this
set_option maxHeartbeats 4000000 in
set_option maxRecDepth 100000 in
theorem m_X6_sorted (l : Launch) (dC : Nat → ClassId) (dI : Nat → Nat → Nat) (am : Nat → Nat) (M : MS) (i j q q2 : Nat) (hi : i < 3) (hj : j < 4) (hq : q ≤ q2) (hq2 : q2 ≤ (M.1 i).2.2) (hI : InvM M) : Met l yX6_sorted wsX6_sorted ({ frames := 2, cells := 1, slots := 12, locals := 47 } : Room) (va_Pc [.ref (am 0), .int (nI i), .int (nI j), .int (nI q), .int (nI q2)] (PM dC dI am M)) (va_Qi (fun r M' => r = nI (difN (rndN (cM M j) q (q2 - q - 1) ((M.1 i).1, (M.1 i).2.1) (q2 - q)).2 (M.1 i).2.1 q (q2 - q)) ∧ M' = mR M i ((rndN (cM M j) q (q2 - q - 1) ((M.1 i).1, (M.1 i).2.1) (q2 - q)).1, (rndN (cM M j) q (q2 - q - 1) ((M.1 i).1, (M.1 i).2.1) (q2 - q)).2, (M.1 i).2.2)) (PM dC dI am) (AM am)) 1 12 (AM am) := by
  refine Met.ofW (cc := cX6_sorted) (maxL := 8) (ret := (some .int)) pl_X6 rfl ?_
  intro p e s m args below meth c s₁ B hml hv
  obtain ⟨rfl, hPX⟩ := hv
  have hx := B.exec
  have hb := B.bytes
  have hr := B.returns
  have hts := atoms_spec (ws := wsX6_sorted) B.pre
  have hown : s.vm.findClass RX6 = some m.cls := findClass_of_methodNamed B.named
  have hlocks := B.notSynchronized
  have hin6 : ∀ w ∈ u_ws RX6 TX6 10, w ∈ wsX6_sorted := tu 1331 (by decide +kernel) rfl
  have hX := WM.ofY hPX
  have hl := lv_entry ([.ref (am 0), .int (nI i), .int (nI j), .int (nI q), .int (nI q2)]) (n := 8) (Nat.le_of_ble_eq_true rfl)
  rw [lg_entry_eq]
  generalize (lg_sl ([.ref (am 0), .int (nI i), .int (nI j), .int (nI q), .int (nI q2)]) ++ List.replicate (8 - (lg_sl ([.ref (am 0), .int (nI i), .int (nI j), .int (nI q), .int (nI q2)])).length) Slot.unset).toArray = ls at hl ⊢
  have hl : lv_has ls 8 [(0, .ref (am 0)), (1, .int (nI i)), (2, .int (nI j)), (3, .int (nI q)), (4, .int (nI q2))] := hl
  show W p l e ({ frames := 2, cells := 1, slots := 12, locals := 47 } : Room) s m ([.ref (am 0), .int (nI i), .int (nI j), .int (nI q), .int (nI q2)]).toArray below meth c s.heap [] 0 0 (MQ below (va_Qi (fun r M' => r = nI (difN (rndN (cM M j) q (q2 - q - 1) ((M.1 i).1, (M.1 i).2.1) (q2 - q)).2 (M.1 i).2.1 q (q2 - q)) ∧ M' = mR M i ((rndN (cM M j) q (q2 - q - 1) ((M.1 i).1, (M.1 i).2.1) (q2 - q)).1, (rndN (cM M j) q (q2 - q - 1) ((M.1 i).1, (M.1 i).2.1) (q2 - q)).2, (M.1 i).2.2)) (PM dC dI am) (AM am)) ([.ref (am 0), .int (nI i), .int (nI j), .int (nI q), .int (nI q2)]).toArray s 1 12 (AM am)) (F0 m 0 ls [])
  have hn := (hI.1 i (by omega)).1
  have hp0 : prOK ((M.1 i).1, (M.1 i).2.1) := fun k hk => (hI.1 i (by omega)).2 k hk
  refine lv_bipush (v := nI 12) hx hb dX6_sorted_0 (by decide) ?_
  refine km_newI hx hb (hts (.arrayClass .int) (tm 24 (by decide +kernel) rfl)) hX (fun q hq => Or.inr hq) (by omega) (Nat.le_of_ble_eq_true rfl) (Nat.le_of_ble_eq_true rfl) dX6_sorted_2 (fun q_1 H hX => ?_)
  replace hX : WM dC dI am M [(q_1, .inl (dC 20, 12, .inl (fun k => nI ((fun _ => 0) k))))] (AY am s.heap.size) s H _ := hX
  refine lv_astore (lv' := [(5, .ref q_1), (0, .ref (am 0)), (1, .int (nI i)), (2, .int (nI j)), (3, .int (nI q)), (4, .int (nI q2))]) hx hb dX6_sorted_4 hl (by decide) rfl (fun ls hl => ?_)
  refine lv_iload_n hx hb dX6_sorted_6 rfl (lv_at hl 4 rfl) ?_
  refine lv_istore (lv' := [(6, .int (nI q)), (5, .ref q_1), (0, .ref (am 0)), (1, .int (nI i)), (2, .int (nI j)), (3, .int (nI q)), (4, .int (nI q2))]) hx hb dX6_sorted_7 hl (by decide) rfl (fun ls hl => ?_)
  have loop9 : ∀ (fuel : Nat) (f1 : Nat → Nat) (y : Nat) (hy : q ≤ y ∧ y ≤ q2) (hF1 : ∀ x, q ≤ x → x < y → f1 x = (M.1 i).2.1 x) (H : Heap) (locs : List Loc), q2 - y < fuel → WM dC dI am M [(q_1, .inl (dC 20, 12, .inl (fun k => nI (f1 k))))] (AY am s.heap.size) s H locs → ∀ ls : Array Slot, lv_has ls 8 [(0, .ref (am 0)), (1, .int (nI i)), (2, .int (nI j)), (3, .int (nI q)), (4, .int (nI q2)), (5, .ref q_1), (6, .int (nI y))] → W p l e ({ frames := 2, cells := 1, slots := 12, locals := 47 } : Room) s m ([.ref (am 0), .int (nI i), .int (nI j), .int (nI q), .int (nI q2)]).toArray below meth c H locs (0 + 1) (0 + 12) (MQ below (va_Qi (fun r M' => r = nI (difN (rndN (cM M j) q (q2 - q - 1) ((M.1 i).1, (M.1 i).2.1) (q2 - q)).2 (M.1 i).2.1 q (q2 - q)) ∧ M' = mR M i ((rndN (cM M j) q (q2 - q - 1) ((M.1 i).1, (M.1 i).2.1) (q2 - q)).1, (rndN (cM M j) q (q2 - q - 1) ((M.1 i).1, (M.1 i).2.1) (q2 - q)).2, (M.1 i).2.2)) (PM dC dI am) (AM am)) ([.ref (am 0), .int (nI i), .int (nI j), .int (nI q), .int (nI q2)]).toArray s 1 12 (AM am)) (F0 m 9 ls []) := by
    intro fuel
    induction fuel with
    | zero => intro f1 y hy hF1 H locs hf; exact absurd hf (Nat.not_lt_zero _)
    | succ fuel ih9 =>
      intro f1 y hy hF1 H locs hf hX ls hl
      refine lv_iload hx hb dX6_sorted_9 (lv_at hl 6 rfl) ?_
      refine lv_iload hx hb dX6_sorted_11 (lv_at hl 4 rfl) ?_
      refine kn_icmp_ge (tgt := 36) hx hb (by omega) (by omega) dX6_sorted_13 (by decide) (fun k_2 => ?_) (fun k_2 => ?_)
      · skip
        refine lv_iload_n hx hb dX6_sorted_36 rfl (lv_at hl 3 rfl) ?_
        refine lv_istore (lv' := [(6, .int (nI q)), (0, .ref (am 0)), (1, .int (nI i)), (2, .int (nI j)), (3, .int (nI q)), (4, .int (nI q2)), (5, .ref q_1)]) hx hb dX6_sorted_37 hl (by decide) rfl (fun ls hl => ?_)
        have loop39 : ∀ (fuel : Nat) (y : Nat) (hy : q ≤ y ∧ y ≤ q2) (H : Heap) (locs : List Loc), q2 - y < fuel → WM dC dI am (mR M i ((rndN (cM M j) q (q2 - q - 1) ((M.1 i).1, (M.1 i).2.1) (y - q)).1, (rndN (cM M j) q (q2 - q - 1) ((M.1 i).1, (M.1 i).2.1) (y - q)).2, (M.1 i).2.2)) [(q_1, .inl (dC 20, 12, .inl (fun k => nI (f1 k))))] (AY am s.heap.size) s H locs → ∀ ls : Array Slot, lv_has ls 8 [(0, .ref (am 0)), (1, .int (nI i)), (2, .int (nI j)), (3, .int (nI q)), (4, .int (nI q2)), (5, .ref q_1), (6, .int (nI y))] → W p l e ({ frames := 2, cells := 1, slots := 12, locals := 47 } : Room) s m ([.ref (am 0), .int (nI i), .int (nI j), .int (nI q), .int (nI q2)]).toArray below meth c H locs (0 + 1) (0 + 12) (MQ below (va_Qi (fun r M' => r = nI (difN (rndN (cM M j) q (q2 - q - 1) ((M.1 i).1, (M.1 i).2.1) (q2 - q)).2 (M.1 i).2.1 q (q2 - q)) ∧ M' = mR M i ((rndN (cM M j) q (q2 - q - 1) ((M.1 i).1, (M.1 i).2.1) (q2 - q)).1, (rndN (cM M j) q (q2 - q - 1) ((M.1 i).1, (M.1 i).2.1) (q2 - q)).2, (M.1 i).2.2)) (PM dC dI am) (AM am)) ([.ref (am 0), .int (nI i), .int (nI j), .int (nI q), .int (nI q2)]).toArray s 1 12 (AM am)) (F0 m 39 ls []) := by
          intro fuel
          induction fuel with
          | zero => intro y hy H locs hf; exact absurd hf (Nat.not_lt_zero _)
          | succ fuel ih39 =>
            intro y hy H locs hf hX ls hl
            refine lv_iload hx hb dX6_sorted_39 (lv_at hl 6 rfl) ?_
            refine lv_iload hx hb dX6_sorted_41 (lv_at hl 4 rfl) ?_
            refine kn_icmp_ge (tgt := 109) hx hb (by omega) (by omega) dX6_sorted_43 (by decide) (fun k_3 => ?_) (fun k_3 => ?_)
            · skip
              refine lv_iconst (v := nI 0) hx hb dX6_sorted_109 (by decide) ?_
              refine lv_istore (lv' := [(6, .int (nI 0)), (0, .ref (am 0)), (1, .int (nI i)), (2, .int (nI j)), (3, .int (nI q)), (4, .int (nI q2)), (5, .ref q_1)]) hx hb dX6_sorted_110 hl (by decide) rfl (fun ls hl => ?_)
              refine lv_iload_n hx hb dX6_sorted_112 rfl (lv_at hl 4 rfl) ?_
              refine lv_istore (lv' := [(7, .int (nI q)), (6, .int (nI 0)), (0, .ref (am 0)), (1, .int (nI i)), (2, .int (nI j)), (3, .int (nI q)), (4, .int (nI q2)), (5, .ref q_1)]) hx hb dX6_sorted_113 hl (by decide) rfl (fun ls hl => ?_)
              have loop115 : ∀ (fuel : Nat) (cc x : Nat) (hx9 : q ≤ x ∧ x ≤ q2) (hcc : cc = difN (rndN (cM M j) q (q2 - q - 1) ((M.1 i).1, (M.1 i).2.1) (q2 - q)).2 (M.1 i).2.1 q (x - q)) (H : Heap) (locs : List Loc), q2 - x < fuel → WM dC dI am (mR M i ((rndN (cM M j) q (q2 - q - 1) ((M.1 i).1, (M.1 i).2.1) (q2 - q)).1, (rndN (cM M j) q (q2 - q - 1) ((M.1 i).1, (M.1 i).2.1) (q2 - q)).2, (M.1 i).2.2)) [(q_1, .inl (dC 20, 12, .inl (fun k => nI (f1 k))))] (AY am s.heap.size) s H locs → ∀ ls : Array Slot, lv_has ls 8 [(0, .ref (am 0)), (1, .int (nI i)), (2, .int (nI j)), (3, .int (nI q)), (4, .int (nI q2)), (5, .ref q_1), (6, .int (nI cc)), (7, .int (nI x))] → W p l e ({ frames := 2, cells := 1, slots := 12, locals := 47 } : Room) s m ([.ref (am 0), .int (nI i), .int (nI j), .int (nI q), .int (nI q2)]).toArray below meth c H locs (0 + 1) (0 + 12) (MQ below (va_Qi (fun r M' => r = nI (difN (rndN (cM M j) q (q2 - q - 1) ((M.1 i).1, (M.1 i).2.1) (q2 - q)).2 (M.1 i).2.1 q (q2 - q)) ∧ M' = mR M i ((rndN (cM M j) q (q2 - q - 1) ((M.1 i).1, (M.1 i).2.1) (q2 - q)).1, (rndN (cM M j) q (q2 - q - 1) ((M.1 i).1, (M.1 i).2.1) (q2 - q)).2, (M.1 i).2.2)) (PM dC dI am) (AM am)) ([.ref (am 0), .int (nI i), .int (nI j), .int (nI q), .int (nI q2)]).toArray s 1 12 (AM am)) (F0 m 115 ls []) := by
                intro fuel
                induction fuel with
                | zero => intro cc x hx9 hcc H locs hf; exact absurd hf (Nat.not_lt_zero _)
                | succ fuel ih115 =>
                  intro cc x hx9 hcc H locs hf hX ls hl
                  refine lv_iload hx hb dX6_sorted_115 (lv_at hl 7 rfl) ?_
                  refine lv_iload hx hb dX6_sorted_117 (lv_at hl 4 rfl) ?_
                  refine kn_icmp_ge (tgt := 155) hx hb (by omega) (by omega) dX6_sorted_119 (by decide) (fun k_4 => ?_) (fun k_4 => ?_)
                  · skip
                    refine lv_iload hx hb dX6_sorted_155 (lv_at hl 6 rfl) ?_
                    exact W.widen (k := 1) (n := 12) (by simp) (by simp) (W.filt (fun locs1 hl1 => W.iret (v := nI cc) hx hb hr (fun t9 ht9 hW9 => ⟨⟨_, (mR M i ((rndN (cM M j) q (q2 - q - 1) ((M.1 i).1, (M.1 i).2.1) (q2 - q)).1, (rndN (cM M j) q (q2 - q - 1) ((M.1 i).1, (M.1 i).2.1) (q2 - q)).2, (M.1 i).2.2)), rfl, ⟨by rw [hcc, show x = q2 by omega], rfl⟩, hX.P ht9 hW9⟩, (hX.2.2.2.F ht9).Y⟩) (free_Y hX.2.2.2 hl1) dX6_sorted_157))
                  · skip
                    have hok := prOK_rnd (c := cM M j) (f := q) (w := q2 - q - 1) hp0 (by omega) (q2 - q)
                    have hv1 := (hok x (by omega)).2
                    have hv2 : (M.1 i).2.1 x < 1000000 := (hp0 x (by omega)).2
                    have hf9 := hF1 x (by omega) (by omega)
                    refine lv_iload hx hb dX6_sorted_122 (lv_at hl 6 rfl) ?_
                    refine lv_aload_n hx hb dX6_sorted_124 rfl (lv_at hl 0 rfl) ?_
                    refine km_gmarks hx hb hts hin6 hown hX (hts (.fieldLink RX6 14 "OrderlatticeModel" "marks" "[[I") (tm 711 (by decide +kernel) rfl)) dX6_sorted_125 ?_
                    refine lv_iload_n hx hb dX6_sorted_128 rfl (lv_at hl 1 rfl) ?_
                    refine km_am hx hb hX (by omega) dX6_sorted_129 ?_
                    refine lv_iload hx hb dX6_sorted_130 (lv_at hl 7 rfl) ?_
                    refine km_lm (v := ((rndN (cM M j) q (q2 - q - 1) ((M.1 i).1, (M.1 i).2.1) (q2 - q)).2) x) hx hb hX (by omega) (by omega) (by rw [mR_row] <;> rfl) dX6_sorted_132 ?_
                    refine lv_aload hx hb dX6_sorted_133 (lv_at hl 5 rfl) ?_
                    refine lv_iload hx hb dX6_sorted_135 (lv_at hl 7 rfl) ?_
                    refine kl_li (j := 0) (f := f1) hx hb hX rfl (by omega) (by omega) dX6_sorted_137 ?_
                    rw [show f1 x = (M.1 i).2.1 x from hf9]
                    refine kn_icmp_eq (tgt := 145) hx hb (by omega) (by omega) dX6_sorted_138 (by decide) (fun k_5 => ?_) (fun k_5 => ?_)
                    · skip
                      have hc := k_5
                      refine lv_iconst (v := nI 0) hx hb dX6_sorted_145 (by decide) ?_
                      refine kn_iadd hx hb dX6_sorted_146 ?_
                      refine lv_istore (lv' := [(6, .int (nI (cc + 0))), (0, .ref (am 0)), (1, .int (nI i)), (2, .int (nI j)), (3, .int (nI q)), (4, .int (nI q2)), (5, .ref q_1), (7, .int (nI x))]) hx hb dX6_sorted_147 hl (by decide) rfl (fun ls hl => ?_)
                      refine lv_iinc (v := nI (x + 1)) (lv' := [(7, .int (nI (x + 1))), (6, .int (nI (cc + 0))), (0, .ref (am 0)), (1, .int (nI i)), (2, .int (nI j)), (3, .int (nI q)), (4, .int (nI q2)), (5, .ref q_1)]) hx hb dX6_sorted_149 hl (k := 7) rfl (nI_1 x) (by decide) rfl (fun ls hl => ?_)
                      refine lv_goto (tgt := 115) hx hb dX6_sorted_152 (by decide) ?_
                      exact ih115  (cc + 0) (x + 1) (by omega) (dif_f (by omega) hc hcc) _ _ (by omega) hX _ (lv_sub hl [2, 3, 4, 5, 6, 7, 1, 0] rfl)
                    · skip
                      have hc := k_5
                      refine lv_iconst (v := nI 1) hx hb dX6_sorted_141 (by decide) ?_
                      refine lv_goto (tgt := 146) hx hb dX6_sorted_142 (by decide) ?_
                      refine kn_iadd hx hb dX6_sorted_146 ?_
                      refine lv_istore (lv' := [(6, .int (nI (cc + 1))), (0, .ref (am 0)), (1, .int (nI i)), (2, .int (nI j)), (3, .int (nI q)), (4, .int (nI q2)), (5, .ref q_1), (7, .int (nI x))]) hx hb dX6_sorted_147 hl (by decide) rfl (fun ls hl => ?_)
                      refine lv_iinc (v := nI (x + 1)) (lv' := [(7, .int (nI (x + 1))), (6, .int (nI (cc + 1))), (0, .ref (am 0)), (1, .int (nI i)), (2, .int (nI j)), (3, .int (nI q)), (4, .int (nI q2)), (5, .ref q_1)]) hx hb dX6_sorted_149 hl (k := 7) rfl (nI_1 x) (by decide) rfl (fun ls hl => ?_)
                      refine lv_goto (tgt := 115) hx hb dX6_sorted_152 (by decide) ?_
                      exact ih115  (cc + 1) (x + 1) (by omega) (dif_t (by omega) hc hcc) _ _ (by omega) hX _ (lv_sub hl [2, 3, 4, 5, 6, 7, 1, 0] rfl)
              exact loop115 (q2 + 1) 0 q (by omega) (by rw [Nat.sub_self]; rfl) _ _ (by omega) (WM.eqS (by rw [show y = q2 by omega]) hX) _ (lv_sub hl [2, 3, 4, 5, 6, 7, 1, 0] rfl)
            · skip
              refine lv_iload_n hx hb dX6_sorted_46 rfl (lv_at hl 3 rfl) ?_
              refine lv_istore (lv' := [(7, .int (nI q)), (0, .ref (am 0)), (1, .int (nI i)), (2, .int (nI j)), (3, .int (nI q)), (4, .int (nI q2)), (5, .ref q_1), (6, .int (nI y))]) hx hb dX6_sorted_47 hl (by decide) rfl (fun ls hl => ?_)
              have loop49 : ∀ (fuel : Nat) (x : Nat) (hx9 : q ≤ x ∧ x + 1 ≤ q2) (H : Heap) (locs : List Loc), q2 - x < fuel → WM dC dI am (mR M i ((passN (cM M j) q (rndN (cM M j) q (q2 - q - 1) ((M.1 i).1, (M.1 i).2.1) (y - q)) (x - q)).1, (passN (cM M j) q (rndN (cM M j) q (q2 - q - 1) ((M.1 i).1, (M.1 i).2.1) (y - q)) (x - q)).2, (M.1 i).2.2)) [(q_1, .inl (dC 20, 12, .inl (fun k => nI (f1 k))))] (AY am s.heap.size) s H locs → ∀ ls : Array Slot, lv_has ls 8 [(0, .ref (am 0)), (1, .int (nI i)), (2, .int (nI j)), (3, .int (nI q)), (4, .int (nI q2)), (5, .ref q_1), (6, .int (nI y)), (7, .int (nI x))] → W p l e ({ frames := 2, cells := 1, slots := 12, locals := 47 } : Room) s m ([.ref (am 0), .int (nI i), .int (nI j), .int (nI q), .int (nI q2)]).toArray below meth c H locs (0 + 1) (0 + 12) (MQ below (va_Qi (fun r M' => r = nI (difN (rndN (cM M j) q (q2 - q - 1) ((M.1 i).1, (M.1 i).2.1) (q2 - q)).2 (M.1 i).2.1 q (q2 - q)) ∧ M' = mR M i ((rndN (cM M j) q (q2 - q - 1) ((M.1 i).1, (M.1 i).2.1) (q2 - q)).1, (rndN (cM M j) q (q2 - q - 1) ((M.1 i).1, (M.1 i).2.1) (q2 - q)).2, (M.1 i).2.2)) (PM dC dI am) (AM am)) ([.ref (am 0), .int (nI i), .int (nI j), .int (nI q), .int (nI q2)]).toArray s 1 12 (AM am)) (F0 m 49 ls []) := by
                intro fuel
                induction fuel with
                | zero => intro x hx9 H locs hf; exact absurd hf (Nat.not_lt_zero _)
                | succ fuel ih49 =>
                  intro x hx9 H locs hf hX ls hl
                  refine lv_iload hx hb dX6_sorted_49 (lv_at hl 7 rfl) ?_
                  refine lv_iconst (v := nI 1) hx hb dX6_sorted_51 (by decide) ?_
                  refine kn_iadd hx hb dX6_sorted_52 ?_
                  refine lv_iload hx hb dX6_sorted_53 (lv_at hl 4 rfl) ?_
                  refine kn_icmp_ge (tgt := 103) hx hb (by omega) (by omega) dX6_sorted_55 (by decide) (fun k_6 => ?_) (fun k_6 => ?_)
                  · skip
                    refine lv_iinc (v := nI (y + 1)) (lv' := [(6, .int (nI (y + 1))), (0, .ref (am 0)), (1, .int (nI i)), (2, .int (nI j)), (3, .int (nI q)), (4, .int (nI q2)), (5, .ref q_1), (7, .int (nI x))]) hx hb dX6_sorted_103 hl (k := 6) rfl (nI_1 y) (by decide) rfl (fun ls hl => ?_)
                    refine lv_goto (tgt := 39) hx hb dX6_sorted_106 (by decide) ?_
                    exact ih39  (y + 1) (by omega) _ _ (by omega) (WM.eqS (by rw [rnd_s (by omega), show q2 - q - 1 = x - q by omega]) hX) _ (lv_sub hl [1, 2, 3, 4, 5, 6, 0] rfl)
                  · skip
                    have hok := prOK_pass (c := cM M j) (f := q) (prOK_rnd (c := cM M j) (f := q) (w := q2 - q - 1) hp0 (by omega) (y - q)) (x - q) (by omega)
                    have hv1 := (hok (x + 1) (by omega)).1
                    have hv2 := (hok x (by omega)).1
                    refine lv_aload_n hx hb dX6_sorted_58 rfl (lv_at hl 0 rfl) ?_
                    refine lv_iload_n hx hb dX6_sorted_59 rfl (lv_at hl 2 rfl) ?_
                    refine lv_aload_n hx hb dX6_sorted_60 rfl (lv_at hl 0 rfl) ?_
                    refine km_gvalues hx hb hts hin6 hown hX (hts (.fieldLink RX6 11 "OrderlatticeModel" "values" "[[I") (tm 710 (by decide +kernel) rfl)) dX6_sorted_61 ?_
                    refine lv_iload_n hx hb dX6_sorted_64 rfl (lv_at hl 1 rfl) ?_
                    refine km_av hx hb hX (by omega) dX6_sorted_65 ?_
                    refine lv_iload hx hb dX6_sorted_66 (lv_at hl 7 rfl) ?_
                    refine lv_iconst (v := nI 1) hx hb dX6_sorted_68 (by decide) ?_
                    refine kn_iadd hx hb dX6_sorted_69 ?_
                    refine km_lv (v := ((passN (cM M j) q (rndN (cM M j) q (q2 - q - 1) ((M.1 i).1, (M.1 i).2.1) (y - q)) (x - q)).1) (x + 1)) hx hb hX (by omega) (by omega) (by rw [mR_row] <;> rfl) dX6_sorted_70 ?_
                    refine lv_aload_n hx hb dX6_sorted_71 rfl (lv_at hl 0 rfl) ?_
                    refine km_gvalues hx hb hts hin6 hown hX (hts (.fieldLink RX6 11 "OrderlatticeModel" "values" "[[I") (tm 710 (by decide +kernel) rfl)) dX6_sorted_72 ?_
                    refine lv_iload_n hx hb dX6_sorted_75 rfl (lv_at hl 1 rfl) ?_
                    refine km_av hx hb hX (by omega) dX6_sorted_76 ?_
                    refine lv_iload hx hb dX6_sorted_77 (lv_at hl 7 rfl) ?_
                    refine km_lv (v := ((passN (cM M j) q (rndN (cM M j) q (q2 - q - 1) ((M.1 i).1, (M.1 i).2.1) (y - q)) (x - q)).1) x) hx hb hX (by omega) (by omega) (by rw [mR_row] <;> rfl) dX6_sorted_79 ?_
                    refine kx_cr (v := cmpI (cM M j (((passN (cM M j) q (rndN (cM M j) q (q2 - q - 1) ((M.1 i).1, (M.1 i).2.1) (y - q)) (x - q)).1) (x + 1))) (cM M j (((passN (cM M j) q (rndN (cM M j) q (q2 - q - 1) ((M.1 i).1, (M.1 i).2.1) (y - q)) (x - q)).1) x))) (va_runV (As := [.int (nI j), .int (nI (((passN (cM M j) q (rndN (cM M j) q (q2 - q - 1) ((M.1 i).1, (M.1 i).2.1) (y - q)) (x - q)).1) (x + 1))), .int (nI (((passN (cM M j) q (rndN (cM M j) q (q2 - q - 1) ((M.1 i).1, (M.1 i).2.1) (y - q)) (x - q)).1) x))]) (rest := []) ⟨hx, hb, hml, hown, hts⟩ (m_X6_compareNow l dC dI am (mR M i ((passN (cM M j) q (rndN (cM M j) q (q2 - q - 1) ((M.1 i).1, (M.1 i).2.1) (y - q)) (x - q)).1, (passN (cM M j) q (rndN (cM M j) q (q2 - q - 1) ((M.1 i).1, (M.1 i).2.1) (y - q)) (x - q)).2, (M.1 i).2.2)) j (((passN (cM M j) q (rndN (cM M j) q (q2 - q - 1) ((M.1 i).1, (M.1 i).2.1) (y - q)) (x - q)).1) (x + 1)) (((passN (cM M j) q (rndN (cM M j) q (q2 - q - 1) ((M.1 i).1, (M.1 i).2.1) (y - q)) (x - q)).1) x) (by omega) (hI.2 j (by omega)) hv1 hv2) (cwV 3 hts gX6_sorted_X6_compareNow rfl rfl rfl hdX6_compareNow_3 ⟨Nat.le_of_ble_eq_true rfl, Nat.le_of_ble_eq_true rfl⟩) (hX.preObj) rfl rfl hl.1 rfl (lv_room (Nat.le_of_ble_eq_true rfl)) dX6_sorted_80 ⟨Nat.le_of_ble_eq_true rfl, Nat.le_of_ble_eq_true rfl⟩) (fun _ h => h) ?_
                    refine kc_if_ge (tgt := 97) hx hb dX6_sorted_83 (by decide) (fun k_7 => ?_) (fun k_7 => ?_)
                    · skip
                      have hs := k_7
                      refine lv_iinc (v := nI (x + 1)) (lv' := [(7, .int (nI (x + 1))), (0, .ref (am 0)), (1, .int (nI i)), (2, .int (nI j)), (3, .int (nI q)), (4, .int (nI q2)), (5, .ref q_1), (6, .int (nI y))]) hx hb dX6_sorted_97 hl (k := 7) rfl (nI_1 x) (by decide) rfl (fun ls hl => ?_)
                      refine lv_goto (tgt := 49) hx hb dX6_sorted_100 (by decide) ?_
                      exact ih49  (x + 1) (by omega) _ _ (by omega) (WM.eqS (by rw [pass_f (by omega) (by omega)]) hX) _ (lv_sub hl [1, 2, 3, 4, 5, 6, 7, 0] rfl)
                    · skip
                      have hs := k_7
                      refine lv_aload_n hx hb dX6_sorted_86 rfl (lv_at hl 0 rfl) ?_
                      refine lv_iload_n hx hb dX6_sorted_87 rfl (lv_at hl 1 rfl) ?_
                      refine lv_iload hx hb dX6_sorted_88 (lv_at hl 7 rfl) ?_
                      refine lv_iload hx hb dX6_sorted_90 (lv_at hl 7 rfl) ?_
                      refine lv_iconst (v := nI 1) hx hb dX6_sorted_92 (by decide) ?_
                      refine kn_iadd hx hb dX6_sorted_93 ?_
                      refine km_cv (va_runV (As := [.int (nI i), .int (nI x), .int (nI (x + 1))]) (rest := []) ⟨hx, hb, hml, hown, hts⟩ (m_X6_change l dC dI am (mR M i ((passN (cM M j) q (rndN (cM M j) q (q2 - q - 1) ((M.1 i).1, (M.1 i).2.1) (y - q)) (x - q)).1, (passN (cM M j) q (rndN (cM M j) q (q2 - q - 1) ((M.1 i).1, (M.1 i).2.1) (y - q)) (x - q)).2, (M.1 i).2.2)) i x (x + 1) (by omega) (by omega) (by omega)) (cwV 3 hts gX6_sorted_X6_change rfl rfl rfl hdX6_change_3 ⟨Nat.le_of_ble_eq_true rfl, Nat.le_of_ble_eq_true rfl⟩) (hX.preObj) rfl rfl hl.1 rfl (lv_room (Nat.le_of_ble_eq_true rfl)) dX6_sorted_94 ⟨Nat.le_of_ble_eq_true rfl, Nat.le_of_ble_eq_true rfl⟩) hX (fun _ h => Or.inl h) (fun S_ H locs hw hX => ?_)
                      rw [mR_row, mR_mR] at hw
                      subst hw
                      refine lv_iinc (v := nI (x + 1)) (lv' := [(7, .int (nI (x + 1))), (0, .ref (am 0)), (1, .int (nI i)), (2, .int (nI j)), (3, .int (nI q)), (4, .int (nI q2)), (5, .ref q_1), (6, .int (nI y))]) hx hb dX6_sorted_97 hl (k := 7) rfl (nI_1 x) (by decide) rfl (fun ls hl => ?_)
                      refine lv_goto (tgt := 49) hx hb dX6_sorted_100 (by decide) ?_
                      exact ih49  (x + 1) (by omega) _ _ (by omega) (WM.eqS (by rw [pass_t (by omega) hs]) hX) _ (lv_sub hl [1, 2, 3, 4, 5, 6, 7, 0] rfl)
              exact loop49 (q2 + 1) q (by omega) _ _ (by omega) (WM.eqS (by rw [Nat.sub_self]; rfl) hX) _ (lv_sub hl [1, 2, 3, 4, 5, 6, 7, 0] rfl)
        exact loop39 (q2 + 1) q (by omega) _ _ (by omega) (WM.eqS (by rw [Nat.sub_self]; exact (mR_self M i).symm) hX) _ (lv_sub hl [1, 2, 3, 4, 5, 6, 0] rfl)
      · skip
        refine lv_aload hx hb dX6_sorted_16 (lv_at hl 5 rfl) ?_
        refine lv_iload hx hb dX6_sorted_18 (lv_at hl 6 rfl) ?_
        have hm9 := ((hI.1 i (by omega)).2 y (by omega)).2
        refine lv_aload_n hx hb dX6_sorted_20 rfl (lv_at hl 0 rfl) ?_
        refine km_gmarks hx hb hts hin6 hown hX (hts (.fieldLink RX6 14 "OrderlatticeModel" "marks" "[[I") (tm 711 (by decide +kernel) rfl)) dX6_sorted_21 ?_
        refine lv_iload_n hx hb dX6_sorted_24 rfl (lv_at hl 1 rfl) ?_
        refine km_am hx hb hX (by omega) dX6_sorted_25 ?_
        refine lv_iload hx hb dX6_sorted_26 (lv_at hl 6 rfl) ?_
        refine km_lm (v := ((M.1 i).2.1) y) hx hb hX (by omega) (by omega) rfl dX6_sorted_28 ?_
        refine kl_si (j := 0) (f := f1) hx hb hX rfl (by omega) (by omega) dX6_sorted_29 (fun H locs hX => ?_)
        replace hX : WM dC dI am M [(q_1, .inl (dC 20, 12, .inl (fun k => nI ((va_up f1 y (((M.1 i).2.1) y)) k))))] (AY am s.heap.size) s H locs := hX
        refine lv_iinc (v := nI (y + 1)) (lv' := [(6, .int (nI (y + 1))), (0, .ref (am 0)), (1, .int (nI i)), (2, .int (nI j)), (3, .int (nI q)), (4, .int (nI q2)), (5, .ref q_1)]) hx hb dX6_sorted_30 hl (k := 6) rfl (nI_1 y) (by decide) rfl (fun ls hl => ?_)
        refine lv_goto (tgt := 9) hx hb dX6_sorted_33 (by decide) ?_
        exact ih9  (va_up f1 y (((M.1 i).2.1) y)) (y + 1) (by omega) (upd_s hF1) _ _ (by omega) hX _ (lv_sub hl [1, 2, 3, 4, 5, 6, 0] rfl)
  exact loop9 (q2 + 1) (fun _ => 0) q (by omega) (fun x h1 h2 => absurd h1 (by omega)) _ _ (by omega) (WM.eqS rfl hX) _ (lv_sub hl [2, 3, 4, 5, 6, 1, 0] rfl)
set_option maxHeartbeats 4000000 in
set_option maxRecDepth 100000 in
theorem m_X6_sort (l : Launch) (dC : Nat → ClassId) (dI : Nat → Nat → Nat) (am : Nat → Nat) (M : MS) (i : Nat) (j : Nat) (k : Nat) (hi : i < 3) (hj : j < 4) (hk : k ≤ 2) (hI : InvM M) : Met l yX6_sort wsX6_sort ({ frames := 3, cells := 1, slots := 12, locals := 74 } : Room) (va_Pc [.ref (am 0), .int (nI i), .int (nI j), .int (nI k)] (PM dC dI am M)) (va_Qi (fun r M' => r = nI (difN (srtM M i j 0 (M.1 i).2.2).2 (M.1 i).2.1 0 ((M.1 i).2.2 - 0)) ∧ M' = mR (thM M 0) i ((srtM M i j 0 (M.1 i).2.2).1, (srtM M i j 0 (M.1 i).2.2).2, (M.1 i).2.2)) (PM dC dI am) (AM am)) 1 12 (AM am) := by
  refine Met.ofW (cc := cX6_sort) (maxL := 4) (ret := (some .int)) pl_X6 rfl ?_
  intro p e s m args below meth c s₁ B hml hv
  obtain ⟨rfl, hPX⟩ := hv
  have hx := B.exec
  have hb := B.bytes
  have hr := B.returns
  have hts := atoms_spec (ws := wsX6_sort) B.pre
  have hown : s.vm.findClass RX6 = some m.cls := findClass_of_methodNamed B.named
  have hlocks := B.notSynchronized
  have hin6 : ∀ w ∈ u_ws RX6 TX6 10, w ∈ wsX6_sort := tu 1331 (by decide +kernel) rfl
  have hX := WM.of hPX
  have hl := lv_entry ([.ref (am 0), .int (nI i), .int (nI j), .int (nI k)]) (n := 4) (Nat.le_of_ble_eq_true rfl)
  rw [lg_entry_eq]
  generalize (lg_sl ([.ref (am 0), .int (nI i), .int (nI j), .int (nI k)]) ++ List.replicate (4 - (lg_sl ([.ref (am 0), .int (nI i), .int (nI j), .int (nI k)])).length) Slot.unset).toArray = ls at hl ⊢
  have hl : lv_has ls 4 [(0, .ref (am 0)), (1, .int (nI i)), (2, .int (nI j)), (3, .int (nI k))] := hl
  show W p l e ({ frames := 3, cells := 1, slots := 12, locals := 74 } : Room) s m ([.ref (am 0), .int (nI i), .int (nI j), .int (nI k)]).toArray below meth c s.heap [] 0 0 (MQ below (va_Qi (fun r M' => r = nI (difN (srtM M i j 0 (M.1 i).2.2).2 (M.1 i).2.1 0 ((M.1 i).2.2 - 0)) ∧ M' = mR (thM M 0) i ((srtM M i j 0 (M.1 i).2.2).1, (srtM M i j 0 (M.1 i).2.2).2, (M.1 i).2.2)) (PM dC dI am) (AM am)) ([.ref (am 0), .int (nI i), .int (nI j), .int (nI k)]).toArray s 1 12 (AM am)) (F0 m 0 ls [])
  have hn := (hI.1 i (by omega)).1
  refine lv_aload_n hx hb dX6_sort_0 rfl (lv_at hl 0 rfl) ?_
  refine lv_iload_n hx hb dX6_sort_1 rfl (lv_at hl 1 rfl) ?_
  refine kx_cr (v := bI false) (va_runS (As := [.int (nI i)]) (rest := [.ref (am 0)]) ⟨hx, hb, hml, hown, hts⟩ (m_X6_isNoRow l dC dI am M (nI i)) (va_cwS 1 hts gX6_sort_X6_isNoRow rfl rfl rfl hdX6_isNoRow_1.2 ⟨Nat.le_of_ble_eq_true rfl, Nat.le_of_ble_eq_true rfl⟩) hX.preS rfl rfl hl.1 rfl (lv_room (Nat.le_of_ble_eq_true rfl)) dX6_sort_2 ⟨Nat.le_of_ble_eq_true rfl, Nat.le_of_ble_eq_true rfl⟩) (fun _ h => h.trans (isNo_ok (by omega) (by omega))) ?_
  refine kb_if_ne (tgt := 15) hx hb dX6_sort_5 (by decide) (fun k_1 => absurd k_1 (by decide)) (fun k_1 => ?_)
  refine lv_iload_n hx hb dX6_sort_8 rfl (lv_at hl 2 rfl) ?_
  refine kx_cr (v := bI false) (va_runS (As := [.int (nI j)]) (rest := [.ref (am 0)]) ⟨hx, hb, hml, hown, hts⟩ (m_X6_isNoOrder l dC dI am M (nI j)) (va_cwS 1 hts gX6_sort_X6_isNoOrder rfl rfl rfl hdX6_isNoOrder_1.2 ⟨Nat.le_of_ble_eq_true rfl, Nat.le_of_ble_eq_true rfl⟩) hX.preS rfl rfl hl.1 rfl (lv_room (Nat.le_of_ble_eq_true rfl)) dX6_sort_9 ⟨Nat.le_of_ble_eq_true rfl, Nat.le_of_ble_eq_true rfl⟩) (fun _ h => h.trans (isNo_ok (by omega) (by omega))) ?_
  refine kb_if_eq (tgt := 19) hx hb dX6_sort_12 (by decide) (fun k_2 => ?_) (fun k_2 => absurd k_2 (by decide))
  refine lv_iconst (v := nI 0) hx hb dX6_sort_19 (by decide) ?_
  refine lv_iconst (v := nI 1) hx hb dX6_sort_20 (by decide) ?_
  refine km_ci (va_runV (As := [.int (nI 0), .int (nI 1)]) (rest := []) ⟨hx, hb, hml, hown, hts⟩ (m_X6_start l dC dI am M false 1 (by omega)) (cwV 2 hts gX6_sort_X6_start rfl rfl rfl hdX6_start_2 ⟨Nat.le_of_ble_eq_true rfl, Nat.le_of_ble_eq_true rfl⟩) (hX.preObj) rfl rfl hl.1 rfl (lv_room (Nat.le_of_ble_eq_true rfl)) dX6_sort_21 ⟨Nat.le_of_ble_eq_true rfl, Nat.le_of_ble_eq_true rfl⟩) hX (fun _ h => h) (fun r_ S_ H locs hw hX => ?_)
  obtain ⟨rfl, rfl⟩ := hw
  refine kb_if_ne (tgt := 40) hx hb dX6_sort_24 (by decide) (fun k_3 => absurd k_3 (by decide)) (fun k_3 => ?_)
  refine lv_aload_n hx hb dX6_sort_27 rfl (lv_at hl 0 rfl) ?_
  refine lv_iload_n hx hb dX6_sort_28 rfl (lv_at hl 3 rfl) ?_
  refine lv_iconst (v := nI 2) hx hb dX6_sort_29 (by decide) ?_
  refine kx_cr (v := bI false) (va_runS (As := [.int (nI k), .int (nI 2)]) (rest := [.ref (am 0)]) ⟨hx, hb, hml, hown, hts⟩ (m_X6_isNo l dC dI am (mN M (0, M.2.2.2.1, M.2.2.2.2.1, M.2.2.2.2.2)) (nI k) (nI 2)) (va_cwS 2 hts gX6_sort_X6_isNo rfl rfl rfl hdX6_isNo_2.2 ⟨Nat.le_of_ble_eq_true rfl, Nat.le_of_ble_eq_true rfl⟩) hX.preS rfl rfl hl.1 rfl (lv_room (Nat.le_of_ble_eq_true rfl)) dX6_sort_30 ⟨Nat.le_of_ble_eq_true rfl, Nat.le_of_ble_eq_true rfl⟩) (fun _ h => h.trans (isNo_ok (by omega) (by omega))) ?_
  refine lv_iconst (v := nI 2) hx hb dX6_sort_33 (by decide) ?_
  refine km_ci (va_runV (As := [.int (bI false), .int (nI 2)]) (rest := []) ⟨hx, hb, hml, hown, hts⟩ (m_X6_refuse l dC dI am (mN M (0, M.2.2.2.1, M.2.2.2.2.1, M.2.2.2.2.2)) false 2 (by omega) rfl) (cwV 2 hts gX6_sort_X6_refuse rfl rfl rfl hdX6_refuse_2 ⟨Nat.le_of_ble_eq_true rfl, Nat.le_of_ble_eq_true rfl⟩) (hX.preObj) rfl rfl hl.1 rfl (lv_room (Nat.le_of_ble_eq_true rfl)) dX6_sort_34 ⟨Nat.le_of_ble_eq_true rfl, Nat.le_of_ble_eq_true rfl⟩) hX (fun _ h => h) (fun r_ S_ H locs hw hX => ?_)
  obtain ⟨rfl, rfl⟩ := hw
  refine kb_if_eq (tgt := 42) hx hb dX6_sort_37 (by decide) (fun k_4 => ?_) (fun k_4 => absurd k_4 (by decide))
  refine lv_aload_n hx hb dX6_sort_42 rfl (lv_at hl 0 rfl) ?_
  refine lv_iload_n hx hb dX6_sort_43 rfl (lv_at hl 1 rfl) ?_
  refine lv_iload_n hx hb dX6_sort_44 rfl (lv_at hl 2 rfl) ?_
  refine lv_iconst (v := nI 0) hx hb dX6_sort_45 (by decide) ?_
  refine lv_aload_n hx hb dX6_sort_46 rfl (lv_at hl 0 rfl) ?_
  refine km_gsizes hx hb hts hin6 hown hX (hts (.fieldLink RX6 17 "OrderlatticeModel" "sizes" "[I") (tm 681 (by decide +kernel) rfl)) dX6_sort_47 ?_
  refine lv_iload_n hx hb dX6_sort_50 rfl (lv_at hl 1 rfl) ?_
  refine km_lz (v := (M.1 i).2.2) hx hb hX (by omega) rfl dX6_sort_51 ?_
  refine km_ciM (va_runV (As := [.int (nI i), .int (nI j), .int (nI 0), .int (nI ((M.1 i).2.2))]) (rest := []) ⟨hx, hb, hml, hown, hts⟩ (m_X6_sorted l dC dI am (mN M (0, M.2.2.2.1, M.2.2.2.2.1, M.2.2.2.2.2)) i j 0 ((M.1 i).2.2) (by omega) (by omega) (by omega) (show (M.1 i).2.2 ≤ (M.1 i).2.2 by omega) hI) (cwV 4 hts gX6_sort_X6_sorted rfl rfl rfl hdX6_sorted_4 ⟨Nat.le_of_ble_eq_true rfl, Nat.le_of_ble_eq_true rfl⟩) (hX.preObj) rfl rfl hl.1 rfl (lv_room (Nat.le_of_ble_eq_true rfl)) dX6_sort_52 ⟨Nat.le_of_ble_eq_true rfl, Nat.le_of_ble_eq_true rfl⟩) hX (fun _ h => h) (fun r_ S_ H locs hw hX => ?_)
  obtain ⟨rfl, rfl⟩ := hw
  exact W.widen (k := 1) (n := 12) (by simp) (by simp) (W.iret (v := nI (difN (rndN (cM M j) 0 ((M.1 i).2.2 - 0 - 1) ((M.1 i).1, (M.1 i).2.1) ((M.1 i).2.2 - 0)).2 (M.1 i).2.1 0 ((M.1 i).2.2 - 0))) hx hb hr (fun t9 ht9 hW9 => ⟨⟨_, (mR (mN M (0, M.2.2.2.1, M.2.2.2.2.1, M.2.2.2.2.2)) i ((rndN (cM M j) 0 ((M.1 i).2.2 - 0 - 1) ((M.1 i).1, (M.1 i).2.1) ((M.1 i).2.2 - 0)).1, (rndN (cM M j) 0 ((M.1 i).2.2 - 0 - 1) ((M.1 i).1, (M.1 i).2.1) ((M.1 i).2.2 - 0)).2, (M.1 i).2.2)), rfl, ⟨rfl, rfl⟩, hX.P ht9 hW9⟩, hX.2.2.2.F ht9⟩) hX.2.2.2.2.2 dX6_sort_55)
set_option maxHeartbeats 4000000 in
set_option maxRecDepth 100000 in
theorem m_X6_sortPart (l : Launch) (dC : Nat → ClassId) (dI : Nat → Nat → Nat) (am : Nat → Nat) (M : MS) (i : Nat) (j : Nat) (q : Nat) (q2 : Nat) (hi : i < 3) (hj : j < 4) (hq : q ≤ (M.1 i).2.2) (hq2 : q2 ≤ (M.1 i).2.2) (hqq : q ≤ q2) (hI : InvM M) : Met l yX6_sortPart wsX6_sortPart ({ frames := 3, cells := 1, slots := 12, locals := 74 } : Room) (va_Pc [.ref (am 0), .int (nI i), .int (nI j), .int (nI q), .int (nI q2)] (PM dC dI am M)) (va_Qi (fun r M' => r = nI (difN (srtM M i j q q2).2 (M.1 i).2.1 q (q2 - q)) ∧ M' = mR (thM M 0) i ((srtM M i j q q2).1, (srtM M i j q q2).2, (M.1 i).2.2)) (PM dC dI am) (AM am)) 1 12 (AM am) := by
  refine Met.ofW (cc := cX6_sortPart) (maxL := 5) (ret := (some .int)) pl_X6 rfl ?_
  intro p e s m args below meth c s₁ B hml hv
  obtain ⟨rfl, hPX⟩ := hv
  have hx := B.exec
  have hb := B.bytes
  have hr := B.returns
  have hts := atoms_spec (ws := wsX6_sortPart) B.pre
  have hown : s.vm.findClass RX6 = some m.cls := findClass_of_methodNamed B.named
  have hlocks := B.notSynchronized
  have hin6 : ∀ w ∈ u_ws RX6 TX6 10, w ∈ wsX6_sortPart := tu 1331 (by decide +kernel) rfl
  have hX := WM.of hPX
  have hl := lv_entry ([.ref (am 0), .int (nI i), .int (nI j), .int (nI q), .int (nI q2)]) (n := 5) (Nat.le_of_ble_eq_true rfl)
  rw [lg_entry_eq]
  generalize (lg_sl ([.ref (am 0), .int (nI i), .int (nI j), .int (nI q), .int (nI q2)]) ++ List.replicate (5 - (lg_sl ([.ref (am 0), .int (nI i), .int (nI j), .int (nI q), .int (nI q2)])).length) Slot.unset).toArray = ls at hl ⊢
  have hl : lv_has ls 5 [(0, .ref (am 0)), (1, .int (nI i)), (2, .int (nI j)), (3, .int (nI q)), (4, .int (nI q2))] := hl
  show W p l e ({ frames := 3, cells := 1, slots := 12, locals := 74 } : Room) s m ([.ref (am 0), .int (nI i), .int (nI j), .int (nI q), .int (nI q2)]).toArray below meth c s.heap [] 0 0 (MQ below (va_Qi (fun r M' => r = nI (difN (srtM M i j q q2).2 (M.1 i).2.1 q (q2 - q)) ∧ M' = mR (thM M 0) i ((srtM M i j q q2).1, (srtM M i j q q2).2, (M.1 i).2.2)) (PM dC dI am) (AM am)) ([.ref (am 0), .int (nI i), .int (nI j), .int (nI q), .int (nI q2)]).toArray s 1 12 (AM am)) (F0 m 0 ls [])
  have hn := (hI.1 i (by omega)).1
  refine lv_aload_n hx hb dX6_sortPart_0 rfl (lv_at hl 0 rfl) ?_
  refine lv_iload_n hx hb dX6_sortPart_1 rfl (lv_at hl 1 rfl) ?_
  refine kx_cr (v := bI false) (va_runS (As := [.int (nI i)]) (rest := [.ref (am 0)]) ⟨hx, hb, hml, hown, hts⟩ (m_X6_isNoRow l dC dI am M (nI i)) (va_cwS 1 hts gX6_sortPart_X6_isNoRow rfl rfl rfl hdX6_isNoRow_1.2 ⟨Nat.le_of_ble_eq_true rfl, Nat.le_of_ble_eq_true rfl⟩) hX.preS rfl rfl hl.1 rfl (lv_room (Nat.le_of_ble_eq_true rfl)) dX6_sortPart_2 ⟨Nat.le_of_ble_eq_true rfl, Nat.le_of_ble_eq_true rfl⟩) (fun _ h => h.trans (isNo_ok (by omega) (by omega))) ?_
  refine kb_if_ne (tgt := 15) hx hb dX6_sortPart_5 (by decide) (fun k_1 => absurd k_1 (by decide)) (fun k_1 => ?_)
  refine lv_iload_n hx hb dX6_sortPart_8 rfl (lv_at hl 2 rfl) ?_
  refine kx_cr (v := bI false) (va_runS (As := [.int (nI j)]) (rest := [.ref (am 0)]) ⟨hx, hb, hml, hown, hts⟩ (m_X6_isNoOrder l dC dI am M (nI j)) (va_cwS 1 hts gX6_sortPart_X6_isNoOrder rfl rfl rfl hdX6_isNoOrder_1.2 ⟨Nat.le_of_ble_eq_true rfl, Nat.le_of_ble_eq_true rfl⟩) hX.preS rfl rfl hl.1 rfl (lv_room (Nat.le_of_ble_eq_true rfl)) dX6_sortPart_9 ⟨Nat.le_of_ble_eq_true rfl, Nat.le_of_ble_eq_true rfl⟩) (fun _ h => h.trans (isNo_ok (by omega) (by omega))) ?_
  refine kb_if_eq (tgt := 19) hx hb dX6_sortPart_12 (by decide) (fun k_2 => ?_) (fun k_2 => absurd k_2 (by decide))
  refine lv_iconst (v := nI 0) hx hb dX6_sortPart_19 (by decide) ?_
  refine lv_iconst (v := nI 1) hx hb dX6_sortPart_20 (by decide) ?_
  refine km_ci (va_runV (As := [.int (nI 0), .int (nI 1)]) (rest := []) ⟨hx, hb, hml, hown, hts⟩ (m_X6_start l dC dI am M false 1 (by omega)) (cwV 2 hts gX6_sortPart_X6_start rfl rfl rfl hdX6_start_2 ⟨Nat.le_of_ble_eq_true rfl, Nat.le_of_ble_eq_true rfl⟩) (hX.preObj) rfl rfl hl.1 rfl (lv_room (Nat.le_of_ble_eq_true rfl)) dX6_sortPart_21 ⟨Nat.le_of_ble_eq_true rfl, Nat.le_of_ble_eq_true rfl⟩) hX (fun _ h => h) (fun r_ S_ H locs hw hX => ?_)
  obtain ⟨rfl, rfl⟩ := hw
  refine kb_if_ne (tgt := 86) hx hb dX6_sortPart_24 (by decide) (fun k_3 => absurd k_3 (by decide)) (fun k_3 => ?_)
  refine lv_aload_n hx hb dX6_sortPart_27 rfl (lv_at hl 0 rfl) ?_
  refine lv_iload_n hx hb dX6_sortPart_28 rfl (lv_at hl 3 rfl) ?_
  refine lv_aload_n hx hb dX6_sortPart_29 rfl (lv_at hl 0 rfl) ?_
  refine km_gsizes hx hb hts hin6 hown hX (hts (.fieldLink RX6 17 "OrderlatticeModel" "sizes" "[I") (tm 681 (by decide +kernel) rfl)) dX6_sortPart_30 ?_
  refine lv_iload_n hx hb dX6_sortPart_33 rfl (lv_at hl 1 rfl) ?_
  refine km_lz (v := (M.1 i).2.2) hx hb hX (by omega) rfl dX6_sortPart_34 ?_
  refine kx_cr (v := bI false) (va_runS (As := [.int (nI q), .int (nI ((M.1 i).2.2))]) (rest := [.ref (am 0)]) ⟨hx, hb, hml, hown, hts⟩ (m_X6_isNo l dC dI am (mN M (0, M.2.2.2.1, M.2.2.2.2.1, M.2.2.2.2.2)) (nI q) (nI ((M.1 i).2.2))) (va_cwS 2 hts gX6_sortPart_X6_isNo rfl rfl rfl hdX6_isNo_2.2 ⟨Nat.le_of_ble_eq_true rfl, Nat.le_of_ble_eq_true rfl⟩) hX.preS rfl rfl hl.1 rfl (lv_room (Nat.le_of_ble_eq_true rfl)) dX6_sortPart_35 ⟨Nat.le_of_ble_eq_true rfl, Nat.le_of_ble_eq_true rfl⟩) (fun _ h => h.trans (isNo_ok (by omega) (by omega))) ?_
  refine kb_if_ne (tgt := 55) hx hb dX6_sortPart_38 (by decide) (fun k_4 => absurd k_4 (by decide)) (fun k_4 => ?_)
  refine lv_iload hx hb dX6_sortPart_41 (lv_at hl 4 rfl) ?_
  refine lv_aload_n hx hb dX6_sortPart_43 rfl (lv_at hl 0 rfl) ?_
  refine km_gsizes hx hb hts hin6 hown hX (hts (.fieldLink RX6 17 "OrderlatticeModel" "sizes" "[I") (tm 681 (by decide +kernel) rfl)) dX6_sortPart_44 ?_
  refine lv_iload_n hx hb dX6_sortPart_47 rfl (lv_at hl 1 rfl) ?_
  refine km_lz (v := (M.1 i).2.2) hx hb hX (by omega) rfl dX6_sortPart_48 ?_
  refine kx_cr (v := bI false) (va_runS (As := [.int (nI q2), .int (nI ((M.1 i).2.2))]) (rest := [.ref (am 0)]) ⟨hx, hb, hml, hown, hts⟩ (m_X6_isNo l dC dI am (mN M (0, M.2.2.2.1, M.2.2.2.2.1, M.2.2.2.2.2)) (nI q2) (nI ((M.1 i).2.2))) (va_cwS 2 hts gX6_sortPart_X6_isNo rfl rfl rfl hdX6_isNo_2.2 ⟨Nat.le_of_ble_eq_true rfl, Nat.le_of_ble_eq_true rfl⟩) hX.preS rfl rfl hl.1 rfl (lv_room (Nat.le_of_ble_eq_true rfl)) dX6_sortPart_49 ⟨Nat.le_of_ble_eq_true rfl, Nat.le_of_ble_eq_true rfl⟩) (fun _ h => h.trans (isNo_ok (by omega) (by omega))) ?_
  refine kb_if_eq (tgt := 59) hx hb dX6_sortPart_52 (by decide) (fun k_5 => ?_) (fun k_5 => absurd k_5 (by decide))
  refine lv_iconst (v := nI 0) hx hb dX6_sortPart_59 (by decide) ?_
  refine lv_iconst (v := nI 1) hx hb dX6_sortPart_60 (by decide) ?_
  refine km_ci (va_runV (As := [.int (nI 0), .int (nI 1)]) (rest := []) ⟨hx, hb, hml, hown, hts⟩ (m_X6_refuse l dC dI am (mN M (0, M.2.2.2.1, M.2.2.2.2.1, M.2.2.2.2.2)) false 1 (by omega) rfl) (cwV 2 hts gX6_sortPart_X6_refuse rfl rfl rfl hdX6_refuse_2 ⟨Nat.le_of_ble_eq_true rfl, Nat.le_of_ble_eq_true rfl⟩) (hX.preObj) rfl rfl hl.1 rfl (lv_room (Nat.le_of_ble_eq_true rfl)) dX6_sortPart_61 ⟨Nat.le_of_ble_eq_true rfl, Nat.le_of_ble_eq_true rfl⟩) hX (fun _ h => h) (fun r_ S_ H locs hw hX => ?_)
  obtain ⟨rfl, rfl⟩ := hw
  refine kb_if_ne (tgt := 86) hx hb dX6_sortPart_64 (by decide) (fun k_6 => absurd k_6 (by decide)) (fun k_6 => ?_)
  refine lv_aload_n hx hb dX6_sortPart_67 rfl (lv_at hl 0 rfl) ?_
  refine lv_iload_n hx hb dX6_sortPart_68 rfl (lv_at hl 3 rfl) ?_
  refine lv_iload hx hb dX6_sortPart_69 (lv_at hl 4 rfl) ?_
  refine kn_icmp_le (tgt := 78) hx hb (by omega) (by omega) dX6_sortPart_71 (by decide) (fun k_7 => ?_) (fun k_7 => absurd k_7 (by omega))
  refine lv_iconst (v := nI 0) hx hb dX6_sortPart_78 (by decide) ?_
  refine lv_iconst (v := nI 2) hx hb dX6_sortPart_79 (by decide) ?_
  refine km_ci (va_runV (As := [.int (nI 0), .int (nI 2)]) (rest := []) ⟨hx, hb, hml, hown, hts⟩ (m_X6_refuse l dC dI am (mN M (0, M.2.2.2.1, M.2.2.2.2.1, M.2.2.2.2.2)) false 2 (by omega) rfl) (cwV 2 hts gX6_sortPart_X6_refuse rfl rfl rfl hdX6_refuse_2 ⟨Nat.le_of_ble_eq_true rfl, Nat.le_of_ble_eq_true rfl⟩) (hX.preObj) rfl rfl hl.1 rfl (lv_room (Nat.le_of_ble_eq_true rfl)) dX6_sortPart_80 ⟨Nat.le_of_ble_eq_true rfl, Nat.le_of_ble_eq_true rfl⟩) hX (fun _ h => h) (fun r_ S_ H locs hw hX => ?_)
  obtain ⟨rfl, rfl⟩ := hw
  refine kb_if_eq (tgt := 88) hx hb dX6_sortPart_83 (by decide) (fun k_8 => ?_) (fun k_8 => absurd k_8 (by decide))
  refine lv_aload_n hx hb dX6_sortPart_88 rfl (lv_at hl 0 rfl) ?_
  refine lv_iload_n hx hb dX6_sortPart_89 rfl (lv_at hl 1 rfl) ?_
  refine lv_iload_n hx hb dX6_sortPart_90 rfl (lv_at hl 2 rfl) ?_
  refine lv_iload_n hx hb dX6_sortPart_91 rfl (lv_at hl 3 rfl) ?_
  refine lv_iload hx hb dX6_sortPart_92 (lv_at hl 4 rfl) ?_
  refine km_ciM (va_runV (As := [.int (nI i), .int (nI j), .int (nI q), .int (nI q2)]) (rest := []) ⟨hx, hb, hml, hown, hts⟩ (m_X6_sorted l dC dI am (mN M (0, M.2.2.2.1, M.2.2.2.2.1, M.2.2.2.2.2)) i j q q2 (by omega) (by omega) (by omega) (show q2 ≤ (M.1 i).2.2 by omega) hI) (cwV 4 hts gX6_sortPart_X6_sorted rfl rfl rfl hdX6_sorted_4 ⟨Nat.le_of_ble_eq_true rfl, Nat.le_of_ble_eq_true rfl⟩) (hX.preObj) rfl rfl hl.1 rfl (lv_room (Nat.le_of_ble_eq_true rfl)) dX6_sortPart_94 ⟨Nat.le_of_ble_eq_true rfl, Nat.le_of_ble_eq_true rfl⟩) hX (fun _ h => h) (fun r_ S_ H locs hw hX => ?_)
  obtain ⟨rfl, rfl⟩ := hw
  exact W.widen (k := 1) (n := 12) (by simp) (by simp) (W.iret (v := nI (difN (rndN (cM M j) q (q2 - q - 1) ((M.1 i).1, (M.1 i).2.1) (q2 - q)).2 (M.1 i).2.1 q (q2 - q))) hx hb hr (fun t9 ht9 hW9 => ⟨⟨_, (mR (mN M (0, M.2.2.2.1, M.2.2.2.2.1, M.2.2.2.2.2)) i ((rndN (cM M j) q (q2 - q - 1) ((M.1 i).1, (M.1 i).2.1) (q2 - q)).1, (rndN (cM M j) q (q2 - q - 1) ((M.1 i).1, (M.1 i).2.1) (q2 - q)).2, (M.1 i).2.2)), rfl, ⟨rfl, rfl⟩, hX.P ht9 hW9⟩, hX.2.2.2.F ht9⟩) hX.2.2.2.2.2 dX6_sortPart_97)
set_option maxHeartbeats 4000000 in
set_option maxRecDepth 100000 in
theorem m_X6_isInSequence (l : Launch) (dC : Nat → ClassId) (dI : Nat → Nat → Nat) (am : Nat → Nat) (M : MS) (i j : Nat) (hi : i < 3) (hj : j < 4) (hI : InvM M) : Met l yX6_isInSequence wsX6_isInSequence ({ frames := 2, cells := 0, slots := 0, locals := 47 } : Room) (va_Pc [.ref (am 0), .int (nI i), .int (nI j)] (PM dC dI am M)) (vp_Si (fun r => r = bI (seqB (cM M j) (M.1 i).1 (M.1 i).2.2))) 0 0 (fun _ => False) := by
  refine Met.ofW (cc := cX6_isInSequence) (maxL := 4) (ret := (some .boolean)) pl_X6 rfl ?_
  intro p e s m args below meth c s₁ B hml hv
  obtain ⟨rfl, hPX⟩ := hv
  have hx := B.exec
  have hb := B.bytes
  have hr := B.returns
  have hts := atoms_spec (ws := wsX6_isInSequence) B.pre
  have hown : s.vm.findClass RX6 = some m.cls := findClass_of_methodNamed B.named
  have hlocks := B.notSynchronized
  have hin6 : ∀ w ∈ u_ws RX6 TX6 10, w ∈ wsX6_isInSequence := tu 1331 (by decide +kernel) rfl
  have hX := WM.of hPX
  have hl := lv_entry ([.ref (am 0), .int (nI i), .int (nI j)]) (n := 4) (Nat.le_of_ble_eq_true rfl)
  rw [lg_entry_eq]
  generalize (lg_sl ([.ref (am 0), .int (nI i), .int (nI j)]) ++ List.replicate (4 - (lg_sl ([.ref (am 0), .int (nI i), .int (nI j)])).length) Slot.unset).toArray = ls at hl ⊢
  have hl : lv_has ls 4 [(0, .ref (am 0)), (1, .int (nI i)), (2, .int (nI j))] := hl
  show W p l e ({ frames := 2, cells := 0, slots := 0, locals := 47 } : Room) s m ([.ref (am 0), .int (nI i), .int (nI j)]).toArray below meth c s.heap [] 0 0 (MQ below (vp_Si (fun r => r = bI (seqB (cM M j) (M.1 i).1 (M.1 i).2.2))) ([.ref (am 0), .int (nI i), .int (nI j)]).toArray s 0 0 (fun _ => False)) (F0 m 0 ls [])
  have hn := (hI.1 i (by omega)).1
  refine lv_iconst (v := nI 0) hx hb dX6_isInSequence_0 (by decide) ?_
  refine lv_istore_n (lv' := [(3, .int (nI 0)), (0, .ref (am 0)), (1, .int (nI i)), (2, .int (nI j))]) hx hb dX6_isInSequence_1 rfl hl (by decide) rfl (fun ls hl => ?_)
  have loop2 : ∀ (fuel : Nat) (k : Nat) (hk : k ≤ (M.1 i).2.2) (hq : ∀ q, q < k → (cM M j) ((M.1 i).1 q) ≤ (cM M j) ((M.1 i).1 (q + 1))), 17 - k < fuel → ∀ ls : Array Slot, lv_has ls 4 [(0, .ref (am 0)), (1, .int (nI i)), (2, .int (nI j)), (3, .int (nI k))] → W p l e ({ frames := 2, cells := 0, slots := 0, locals := 47 } : Room) s m ([.ref (am 0), .int (nI i), .int (nI j)]).toArray below meth c s.heap [] 0 0 (MQ below (vp_Si (fun r => r = bI (seqB (cM M j) (M.1 i).1 (M.1 i).2.2))) ([.ref (am 0), .int (nI i), .int (nI j)]).toArray s 0 0 (fun _ => False)) (F0 m 2 ls []) := by
    intro fuel
    induction fuel with
    | zero => intro k hk hq hf; exact absurd hf (Nat.not_lt_zero _)
    | succ fuel ih2 =>
      intro k hk hq hf ls hl
      refine lv_iload_n hx hb dX6_isInSequence_2 rfl (lv_at hl 3 rfl) ?_
      refine lv_iconst (v := nI 1) hx hb dX6_isInSequence_3 (by decide) ?_
      refine kn_iadd hx hb dX6_isInSequence_4 ?_
      refine lv_aload_n hx hb dX6_isInSequence_5 rfl (lv_at hl 0 rfl) ?_
      refine km_gsizes hx hb hts hin6 hown hX (hts (.fieldLink RX6 17 "OrderlatticeModel" "sizes" "[I") (tm 681 (by decide +kernel) rfl)) dX6_isInSequence_6 ?_
      refine lv_iload_n hx hb dX6_isInSequence_9 rfl (lv_at hl 1 rfl) ?_
      refine km_lz (v := (M.1 i).2.2) hx hb hX (by omega) rfl dX6_isInSequence_10 ?_
      refine kn_icmp_ge (tgt := 48) hx hb (by omega) (by omega) dX6_isInSequence_11 (by decide) (fun k_1 => ?_) (fun k_1 => ?_)
      · skip
        refine lv_iconst (v := nI 1) hx hb dX6_isInSequence_48 (by decide) ?_
        exact W.zret (v := bI true) hx hb hr (bI_narrow _) (fun t9 ht9 hW9 => ⟨_, rfl, (kd_t (fun q h => hq q (by omega))), ht9⟩) (fun _ h => nomatch h) dX6_isInSequence_49
      · skip
        refine lv_aload_n hx hb dX6_isInSequence_14 rfl (lv_at hl 0 rfl) ?_
        refine lv_iload_n hx hb dX6_isInSequence_15 rfl (lv_at hl 2 rfl) ?_
        refine lv_aload_n hx hb dX6_isInSequence_16 rfl (lv_at hl 0 rfl) ?_
        refine km_gvalues hx hb hts hin6 hown hX (hts (.fieldLink RX6 11 "OrderlatticeModel" "values" "[[I") (tm 710 (by decide +kernel) rfl)) dX6_isInSequence_17 ?_
        refine lv_iload_n hx hb dX6_isInSequence_20 rfl (lv_at hl 1 rfl) ?_
        refine km_av hx hb hX (by omega) dX6_isInSequence_21 ?_
        refine lv_iload_n hx hb dX6_isInSequence_22 rfl (lv_at hl 3 rfl) ?_
        refine lv_iconst (v := nI 1) hx hb dX6_isInSequence_23 (by decide) ?_
        refine kn_iadd hx hb dX6_isInSequence_24 ?_
        refine km_lv (v := ((M.1 i).1) (k + 1)) hx hb hX (by omega) (by omega) rfl dX6_isInSequence_25 ?_
        refine lv_aload_n hx hb dX6_isInSequence_26 rfl (lv_at hl 0 rfl) ?_
        refine km_gvalues hx hb hts hin6 hown hX (hts (.fieldLink RX6 11 "OrderlatticeModel" "values" "[[I") (tm 710 (by decide +kernel) rfl)) dX6_isInSequence_27 ?_
        refine lv_iload_n hx hb dX6_isInSequence_30 rfl (lv_at hl 1 rfl) ?_
        refine km_av hx hb hX (by omega) dX6_isInSequence_31 ?_
        refine lv_iload_n hx hb dX6_isInSequence_32 rfl (lv_at hl 3 rfl) ?_
        refine km_lv (v := ((M.1 i).1) k) hx hb hX (by omega) (by omega) rfl dX6_isInSequence_33 ?_
        refine kx_cr (v := cmpI (cM M j (((M.1 i).1) (k + 1))) (cM M j (((M.1 i).1) k))) (va_runV (As := [.int (nI j), .int (nI (((M.1 i).1) (k + 1))), .int (nI (((M.1 i).1) k))]) (rest := []) ⟨hx, hb, hml, hown, hts⟩ (m_X6_compareNow l dC dI am M j (((M.1 i).1) (k + 1)) (((M.1 i).1) k) (by omega) (hI.2 j (by omega)) ((hI.1 i (by omega)).2 _ (by omega)).1 ((hI.1 i (by omega)).2 _ (by omega)).1) (cwV 3 hts gX6_isInSequence_X6_compareNow rfl rfl rfl hdX6_compareNow_3 ⟨Nat.le_of_ble_eq_true rfl, Nat.le_of_ble_eq_true rfl⟩) (hX.preObj) rfl rfl hl.1 rfl (lv_room (Nat.le_of_ble_eq_true rfl)) dX6_isInSequence_34 ⟨Nat.le_of_ble_eq_true rfl, Nat.le_of_ble_eq_true rfl⟩) (fun _ h => h) ?_
        refine kc_if_ge (tgt := 42) hx hb dX6_isInSequence_37 (by decide) (fun k_2 => ?_) (fun k_2 => ?_)
        · skip
          have hc := k_2
          refine lv_iinc (v := nI (k + 1)) (lv' := [(3, .int (nI (k + 1))), (0, .ref (am 0)), (1, .int (nI i)), (2, .int (nI j))]) hx hb dX6_isInSequence_42 hl (k := 3) rfl (nI_1 k) (by decide) rfl (fun ls hl => ?_)
          refine lv_goto (tgt := 2) hx hb dX6_isInSequence_45 (by decide) ?_
          exact ih2  (k + 1) (by omega) (lt_s hq hc) (by omega) _ (lv_sub hl [1, 2, 3, 0] rfl)
        · skip
          have hc := k_2
          refine lv_iconst (v := nI 0) hx hb dX6_isInSequence_40 (by decide) ?_
          exact W.zret (v := bI false) hx hb hr (bI_narrow _) (fun t9 ht9 hW9 => ⟨_, rfl, (kd_f (fun z => absurd (z k (by omega)) (by omega))), ht9⟩) (fun _ h => nomatch h) dX6_isInSequence_41
  exact loop2 (17 + 1) 0 (by omega) (fun q h => absurd h (Nat.not_lt_zero q)) (by omega) _ (lv_sub hl [1, 2, 3, 0] rfl)
set_option maxHeartbeats 4000000 in
set_option maxRecDepth 100000 in
theorem m_X6_isFirstOf (l : Launch) (dC : Nat → ClassId) (dI : Nat → Nat → Nat) (am : Nat → Nat) (M : MS) (i j x : Nat) (hi : i < 3) (hj : j < 4) (hI : InvM M) (hx9 : x < 12) : Met l yX6_isFirstOf wsX6_isFirstOf ({ frames := 2, cells := 0, slots := 0, locals := 47 } : Room) (va_Pc [.ref (am 0), .int (nI i), .int (nI j), .int (nI x)] (PM dC dI am M)) (vp_Si (fun r => r = bI (firstB (cM M j) (M.1 i).1 x))) 0 0 (fun _ => False) := by
  refine Met.ofW (cc := cX6_isFirstOf) (maxL := 5) (ret := (some .boolean)) pl_X6 rfl ?_
  intro p e s m args below meth c s₁ B hml hv
  obtain ⟨rfl, hPX⟩ := hv
  have hx := B.exec
  have hb := B.bytes
  have hr := B.returns
  have hts := atoms_spec (ws := wsX6_isFirstOf) B.pre
  have hown : s.vm.findClass RX6 = some m.cls := findClass_of_methodNamed B.named
  have hlocks := B.notSynchronized
  have hin6 : ∀ w ∈ u_ws RX6 TX6 10, w ∈ wsX6_isFirstOf := tu 1331 (by decide +kernel) rfl
  have hX := WM.of hPX
  have hl := lv_entry ([.ref (am 0), .int (nI i), .int (nI j), .int (nI x)]) (n := 5) (Nat.le_of_ble_eq_true rfl)
  rw [lg_entry_eq]
  generalize (lg_sl ([.ref (am 0), .int (nI i), .int (nI j), .int (nI x)]) ++ List.replicate (5 - (lg_sl ([.ref (am 0), .int (nI i), .int (nI j), .int (nI x)])).length) Slot.unset).toArray = ls at hl ⊢
  have hl : lv_has ls 5 [(0, .ref (am 0)), (1, .int (nI i)), (2, .int (nI j)), (3, .int (nI x))] := hl
  show W p l e ({ frames := 2, cells := 0, slots := 0, locals := 47 } : Room) s m ([.ref (am 0), .int (nI i), .int (nI j), .int (nI x)]).toArray below meth c s.heap [] 0 0 (MQ below (vp_Si (fun r => r = bI (firstB (cM M j) (M.1 i).1 x))) ([.ref (am 0), .int (nI i), .int (nI j), .int (nI x)]).toArray s 0 0 (fun _ => False)) (F0 m 0 ls [])
  have hn := (hI.1 i (by omega)).1
  refine lv_iconst (v := nI 0) hx hb dX6_isFirstOf_0 (by decide) ?_
  refine lv_istore (lv' := [(4, .int (nI 0)), (0, .ref (am 0)), (1, .int (nI i)), (2, .int (nI j)), (3, .int (nI x))]) hx hb dX6_isFirstOf_1 hl (by decide) rfl (fun ls hl => ?_)
  have loop3 : ∀ (fuel : Nat) (k : Nat) (hk : k ≤ x) (hq : ∀ q, q < k → (cM M j) ((M.1 i).1 q) ≠ (cM M j) ((M.1 i).1 x)), x - k < fuel → ∀ ls : Array Slot, lv_has ls 5 [(0, .ref (am 0)), (1, .int (nI i)), (2, .int (nI j)), (3, .int (nI x)), (4, .int (nI k))] → W p l e ({ frames := 2, cells := 0, slots := 0, locals := 47 } : Room) s m ([.ref (am 0), .int (nI i), .int (nI j), .int (nI x)]).toArray below meth c s.heap [] 0 0 (MQ below (vp_Si (fun r => r = bI (firstB (cM M j) (M.1 i).1 x))) ([.ref (am 0), .int (nI i), .int (nI j), .int (nI x)]).toArray s 0 0 (fun _ => False)) (F0 m 3 ls []) := by
    intro fuel
    induction fuel with
    | zero => intro k hk hq hf; exact absurd hf (Nat.not_lt_zero _)
    | succ fuel ih3 =>
      intro k hk hq hf ls hl
      refine lv_iload hx hb dX6_isFirstOf_3 (lv_at hl 4 rfl) ?_
      refine lv_iload_n hx hb dX6_isFirstOf_5 rfl (lv_at hl 3 rfl) ?_
      refine kn_icmp_ge (tgt := 42) hx hb (by omega) (by omega) dX6_isFirstOf_6 (by decide) (fun k_1 => ?_) (fun k_1 => ?_)
      · skip
        refine lv_iconst (v := nI 1) hx hb dX6_isFirstOf_42 (by decide) ?_
        exact W.zret (v := bI true) hx hb hr (bI_narrow _) (fun t9 ht9 hW9 => ⟨_, rfl, (kd_t (fun q h => hq q (by omega))), ht9⟩) (fun _ h => nomatch h) dX6_isFirstOf_43
      · skip
        refine lv_aload_n hx hb dX6_isFirstOf_9 rfl (lv_at hl 0 rfl) ?_
        refine lv_iload_n hx hb dX6_isFirstOf_10 rfl (lv_at hl 2 rfl) ?_
        refine lv_aload_n hx hb dX6_isFirstOf_11 rfl (lv_at hl 0 rfl) ?_
        refine km_gvalues hx hb hts hin6 hown hX (hts (.fieldLink RX6 11 "OrderlatticeModel" "values" "[[I") (tm 710 (by decide +kernel) rfl)) dX6_isFirstOf_12 ?_
        refine lv_iload_n hx hb dX6_isFirstOf_15 rfl (lv_at hl 1 rfl) ?_
        refine km_av hx hb hX (by omega) dX6_isFirstOf_16 ?_
        refine lv_iload hx hb dX6_isFirstOf_17 (lv_at hl 4 rfl) ?_
        refine km_lv (v := ((M.1 i).1) k) hx hb hX (by omega) (by omega) rfl dX6_isFirstOf_19 ?_
        refine lv_aload_n hx hb dX6_isFirstOf_20 rfl (lv_at hl 0 rfl) ?_
        refine km_gvalues hx hb hts hin6 hown hX (hts (.fieldLink RX6 11 "OrderlatticeModel" "values" "[[I") (tm 710 (by decide +kernel) rfl)) dX6_isFirstOf_21 ?_
        refine lv_iload_n hx hb dX6_isFirstOf_24 rfl (lv_at hl 1 rfl) ?_
        refine km_av hx hb hX (by omega) dX6_isFirstOf_25 ?_
        refine lv_iload_n hx hb dX6_isFirstOf_26 rfl (lv_at hl 3 rfl) ?_
        refine km_lv (v := ((M.1 i).1) x) hx hb hX (by omega) (by omega) rfl dX6_isFirstOf_27 ?_
        refine kx_cr (v := cmpI (cM M j (((M.1 i).1) k)) (cM M j (((M.1 i).1) x))) (va_runV (As := [.int (nI j), .int (nI (((M.1 i).1) k)), .int (nI (((M.1 i).1) x))]) (rest := []) ⟨hx, hb, hml, hown, hts⟩ (m_X6_compareNow l dC dI am M j (((M.1 i).1) k) (((M.1 i).1) x) (by omega) (hI.2 j (by omega)) ((hI.1 i (by omega)).2 _ (by omega)).1 ((hI.1 i (by omega)).2 _ (by omega)).1) (cwV 3 hts gX6_isFirstOf_X6_compareNow rfl rfl rfl hdX6_compareNow_3 ⟨Nat.le_of_ble_eq_true rfl, Nat.le_of_ble_eq_true rfl⟩) (hX.preObj) rfl rfl hl.1 rfl (lv_room (Nat.le_of_ble_eq_true rfl)) dX6_isFirstOf_28 ⟨Nat.le_of_ble_eq_true rfl, Nat.le_of_ble_eq_true rfl⟩) (fun _ h => h) ?_
        refine kc_if_ne (tgt := 36) hx hb dX6_isFirstOf_31 (by decide) (fun k_2 => ?_) (fun k_2 => ?_)
        · skip
          have hc := k_2
          refine lv_iinc (v := nI (k + 1)) (lv' := [(4, .int (nI (k + 1))), (0, .ref (am 0)), (1, .int (nI i)), (2, .int (nI j)), (3, .int (nI x))]) hx hb dX6_isFirstOf_36 hl (k := 4) rfl (nI_1 k) (by decide) rfl (fun ls hl => ?_)
          refine lv_goto (tgt := 3) hx hb dX6_isFirstOf_39 (by decide) ?_
          exact ih3  (k + 1) (by omega) (lt_s hq hc) (by omega) _ (lv_sub hl [1, 2, 3, 4, 0] rfl)
        · skip
          have hc := k_2
          refine lv_iconst (v := nI 0) hx hb dX6_isFirstOf_34 (by decide) ?_
          exact W.zret (v := bI false) hx hb hr (bI_narrow _) (fun t9 ht9 hW9 => ⟨_, rfl, (kd_f (fun z => z k (by omega) hc)), ht9⟩) (fun _ h => nomatch h) dX6_isFirstOf_35
  exact loop3 (x - 0 + 1) 0 (by omega) (fun q h => absurd h (Nat.not_lt_zero q)) (by omega) _ (lv_sub hl [1, 2, 3, 4, 0] rfl)
set_option maxHeartbeats 4000000 in
set_option maxRecDepth 100000 in
theorem m_X6_kindsNow (l : Launch) (dC : Nat → ClassId) (dI : Nat → Nat → Nat) (am : Nat → Nat) (M : MS) (i j : Nat) (hi : i < 3) (hj : j < 4) (hI : InvM M) : Met l yX6_kindsNow wsX6_kindsNow ({ frames := 3, cells := 0, slots := 0, locals := 71 } : Room) (va_Pc [.ref (am 0), .int (nI i), .int (nI j)] (PM dC dI am M)) (vp_Si (fun r => r = nI (cntB (firstB (cM M j) (M.1 i).1) (M.1 i).2.2))) 0 0 (fun _ => False) := by
  refine Met.ofW (cc := cX6_kindsNow) (maxL := 5) (ret := (some .int)) pl_X6 rfl ?_
  intro p e s m args below meth c s₁ B hml hv
  obtain ⟨rfl, hPX⟩ := hv
  have hx := B.exec
  have hb := B.bytes
  have hr := B.returns
  have hts := atoms_spec (ws := wsX6_kindsNow) B.pre
  have hown : s.vm.findClass RX6 = some m.cls := findClass_of_methodNamed B.named
  have hlocks := B.notSynchronized
  have hin6 : ∀ w ∈ u_ws RX6 TX6 10, w ∈ wsX6_kindsNow := tu 1331 (by decide +kernel) rfl
  have hX := WM.of hPX
  have hl := lv_entry ([.ref (am 0), .int (nI i), .int (nI j)]) (n := 5) (Nat.le_of_ble_eq_true rfl)
  rw [lg_entry_eq]
  generalize (lg_sl ([.ref (am 0), .int (nI i), .int (nI j)]) ++ List.replicate (5 - (lg_sl ([.ref (am 0), .int (nI i), .int (nI j)])).length) Slot.unset).toArray = ls at hl ⊢
  have hl : lv_has ls 5 [(0, .ref (am 0)), (1, .int (nI i)), (2, .int (nI j))] := hl
  show W p l e ({ frames := 3, cells := 0, slots := 0, locals := 71 } : Room) s m ([.ref (am 0), .int (nI i), .int (nI j)]).toArray below meth c s.heap [] 0 0 (MQ below (vp_Si (fun r => r = nI (cntB (firstB (cM M j) (M.1 i).1) (M.1 i).2.2))) ([.ref (am 0), .int (nI i), .int (nI j)]).toArray s 0 0 (fun _ => False)) (F0 m 0 ls [])
  have hn := (hI.1 i (by omega)).1
  refine lv_iconst (v := nI 0) hx hb dX6_kindsNow_0 (by decide) ?_
  refine lv_istore_n (lv' := [(3, .int (nI 0)), (0, .ref (am 0)), (1, .int (nI i)), (2, .int (nI j))]) hx hb dX6_kindsNow_1 rfl hl (by decide) rfl (fun ls hl => ?_)
  refine lv_iconst (v := nI 0) hx hb dX6_kindsNow_2 (by decide) ?_
  refine lv_istore (lv' := [(4, .int (nI 0)), (3, .int (nI 0)), (0, .ref (am 0)), (1, .int (nI i)), (2, .int (nI j))]) hx hb dX6_kindsNow_3 hl (by decide) rfl (fun ls hl => ?_)
  have loop5 : ∀ (fuel : Nat) (q k : Nat) (hk : k ≤ (M.1 i).2.2) (hq : q = cntB (firstB (cM M j) (M.1 i).1) k), (M.1 i).2.2 - k < fuel → ∀ ls : Array Slot, lv_has ls 5 [(0, .ref (am 0)), (1, .int (nI i)), (2, .int (nI j)), (3, .int (nI q)), (4, .int (nI k))] → W p l e ({ frames := 3, cells := 0, slots := 0, locals := 71 } : Room) s m ([.ref (am 0), .int (nI i), .int (nI j)]).toArray below meth c s.heap [] 0 0 (MQ below (vp_Si (fun r => r = nI (cntB (firstB (cM M j) (M.1 i).1) (M.1 i).2.2))) ([.ref (am 0), .int (nI i), .int (nI j)]).toArray s 0 0 (fun _ => False)) (F0 m 5 ls []) := by
    intro fuel
    induction fuel with
    | zero => intro q k hk hq hf; exact absurd hf (Nat.not_lt_zero _)
    | succ fuel ih5 =>
      intro q k hk hq hf ls hl
      refine lv_iload hx hb dX6_kindsNow_5 (lv_at hl 4 rfl) ?_
      refine lv_aload_n hx hb dX6_kindsNow_7 rfl (lv_at hl 0 rfl) ?_
      refine km_gsizes hx hb hts hin6 hown hX (hts (.fieldLink RX6 17 "OrderlatticeModel" "sizes" "[I") (tm 681 (by decide +kernel) rfl)) dX6_kindsNow_8 ?_
      refine lv_iload_n hx hb dX6_kindsNow_11 rfl (lv_at hl 1 rfl) ?_
      refine km_lz (v := (M.1 i).2.2) hx hb hX (by omega) rfl dX6_kindsNow_12 ?_
      refine kn_icmp_ge (tgt := 41) hx hb (by omega) (by omega) dX6_kindsNow_13 (by decide) (fun k_1 => ?_) (fun k_1 => ?_)
      · skip
        refine lv_iload_n hx hb dX6_kindsNow_41 rfl (lv_at hl 3 rfl) ?_
        exact W.iret (v := nI q) hx hb hr (fun t9 ht9 hW9 => ⟨_, rfl, (by rw [hq, show k = (M.1 i).2.2 by omega]), ht9⟩) (fun _ h => nomatch h) dX6_kindsNow_42
      · skip
        refine lv_iload_n hx hb dX6_kindsNow_16 rfl (lv_at hl 3 rfl) ?_
        refine lv_aload_n hx hb dX6_kindsNow_17 rfl (lv_at hl 0 rfl) ?_
        refine lv_iload_n hx hb dX6_kindsNow_18 rfl (lv_at hl 1 rfl) ?_
        refine lv_iload_n hx hb dX6_kindsNow_19 rfl (lv_at hl 2 rfl) ?_
        refine lv_iload hx hb dX6_kindsNow_20 (lv_at hl 4 rfl) ?_
        refine kx_cr (v := bI (firstB (cM M j) (M.1 i).1 k)) (va_runV (As := [.int (nI i), .int (nI j), .int (nI k)]) (rest := [.int (nI q)]) ⟨hx, hb, hml, hown, hts⟩ (m_X6_isFirstOf l dC dI am M i j k (by omega) (by omega) hI (by omega)) (cwV 3 hts gX6_kindsNow_X6_isFirstOf rfl rfl rfl hdX6_isFirstOf_3 ⟨Nat.le_of_ble_eq_true rfl, Nat.le_of_ble_eq_true rfl⟩) (hX.preObj) rfl rfl hl.1 rfl (lv_room (Nat.le_of_ble_eq_true rfl)) dX6_kindsNow_22 ⟨Nat.le_of_ble_eq_true rfl, Nat.le_of_ble_eq_true rfl⟩) (fun _ h => h) ?_
        refine kb_if_eq (tgt := 32) hx hb dX6_kindsNow_25 (by decide) (fun k_2 => ?_) (fun k_2 => ?_)
        · skip
          have hc := k_2
          refine lv_iconst (v := nI 0) hx hb dX6_kindsNow_32 (by decide) ?_
          refine kn_iadd hx hb dX6_kindsNow_33 ?_
          refine lv_istore_n (lv' := [(3, .int (nI (q + 0))), (0, .ref (am 0)), (1, .int (nI i)), (2, .int (nI j)), (4, .int (nI k))]) hx hb dX6_kindsNow_34 rfl hl (by decide) rfl (fun ls hl => ?_)
          refine lv_iinc (v := nI (k + 1)) (lv' := [(4, .int (nI (k + 1))), (3, .int (nI (q + 0))), (0, .ref (am 0)), (1, .int (nI i)), (2, .int (nI j))]) hx hb dX6_kindsNow_35 hl (k := 4) rfl (nI_1 k) (by decide) rfl (fun ls hl => ?_)
          refine lv_goto (tgt := 5) hx hb dX6_kindsNow_38 (by decide) ?_
          exact ih5  (q + 0) (k + 1) (by omega) (by rw [cntB_f hc, hq]; rfl) (by omega) _ (lv_sub hl [2, 3, 4, 1, 0] rfl)
        · skip
          have hc := k_2
          refine lv_iconst (v := nI 1) hx hb dX6_kindsNow_28 (by decide) ?_
          refine lv_goto (tgt := 33) hx hb dX6_kindsNow_29 (by decide) ?_
          refine kn_iadd hx hb dX6_kindsNow_33 ?_
          refine lv_istore_n (lv' := [(3, .int (nI (q + 1))), (0, .ref (am 0)), (1, .int (nI i)), (2, .int (nI j)), (4, .int (nI k))]) hx hb dX6_kindsNow_34 rfl hl (by decide) rfl (fun ls hl => ?_)
          refine lv_iinc (v := nI (k + 1)) (lv' := [(4, .int (nI (k + 1))), (3, .int (nI (q + 1))), (0, .ref (am 0)), (1, .int (nI i)), (2, .int (nI j))]) hx hb dX6_kindsNow_35 hl (k := 4) rfl (nI_1 k) (by decide) rfl (fun ls hl => ?_)
          refine lv_goto (tgt := 5) hx hb dX6_kindsNow_38 (by decide) ?_
          exact ih5  (q + 1) (k + 1) (by omega) (by rw [cntB_t hc, hq]) (by omega) _ (lv_sub hl [2, 3, 4, 1, 0] rfl)
  exact loop5 ((M.1 i).2.2 - 0 + 1) 0 0 (by omega) rfl (by omega) _ (lv_sub hl [2, 3, 4, 1, 0] rfl)
set_option maxHeartbeats 4000000 in
set_option maxRecDepth 100000 in
theorem m_X6_isSorted (l : Launch) (dC : Nat → ClassId) (dI : Nat → Nat → Nat) (am : Nat → Nat) (M : MS) (i : Nat) (j : Nat) (hi : i < 3) (hj : j < 4) (hI : InvM M) : Met l yX6_isSorted wsX6_isSorted ({ frames := 3, cells := 0, slots := 0, locals := 70 } : Room) (va_Pc [.ref (am 0), .int (nI i), .int (nI j)] (PM dC dI am M)) (va_Qi (fun r M' => r = bI (seqB (cM M j) (M.1 i).1 (M.1 i).2.2) ∧ M' = thM M 0) (PM dC dI am) (AM am)) 0 0 (AM am) := by
  refine Met.ofW (cc := cX6_isSorted) (maxL := 3) (ret := (some .boolean)) pl_X6 rfl ?_
  intro p e s m args below meth c s₁ B hml hv
  obtain ⟨rfl, hPX⟩ := hv
  have hx := B.exec
  have hb := B.bytes
  have hr := B.returns
  have hts := atoms_spec (ws := wsX6_isSorted) B.pre
  have hown : s.vm.findClass RX6 = some m.cls := findClass_of_methodNamed B.named
  have hlocks := B.notSynchronized
  have hX := WM.of hPX
  have hl := lv_entry ([.ref (am 0), .int (nI i), .int (nI j)]) (n := 3) (Nat.le_of_ble_eq_true rfl)
  rw [lg_entry_eq]
  generalize (lg_sl ([.ref (am 0), .int (nI i), .int (nI j)]) ++ List.replicate (3 - (lg_sl ([.ref (am 0), .int (nI i), .int (nI j)])).length) Slot.unset).toArray = ls at hl ⊢
  have hl : lv_has ls 3 [(0, .ref (am 0)), (1, .int (nI i)), (2, .int (nI j))] := hl
  show W p l e ({ frames := 3, cells := 0, slots := 0, locals := 70 } : Room) s m ([.ref (am 0), .int (nI i), .int (nI j)]).toArray below meth c s.heap [] 0 0 (MQ below (va_Qi (fun r M' => r = bI (seqB (cM M j) (M.1 i).1 (M.1 i).2.2) ∧ M' = thM M 0) (PM dC dI am) (AM am)) ([.ref (am 0), .int (nI i), .int (nI j)]).toArray s 0 0 (AM am)) (F0 m 0 ls [])
  have hn := (hI.1 i (by omega)).1
  refine lv_aload_n hx hb dX6_isSorted_0 rfl (lv_at hl 0 rfl) ?_
  refine lv_iload_n hx hb dX6_isSorted_1 rfl (lv_at hl 1 rfl) ?_
  refine kx_cr (v := bI false) (va_runS (As := [.int (nI i)]) (rest := [.ref (am 0)]) ⟨hx, hb, hml, hown, hts⟩ (m_X6_isNoRow l dC dI am M (nI i)) (va_cwS 1 hts gX6_isSorted_X6_isNoRow rfl rfl rfl hdX6_isNoRow_1.2 ⟨Nat.le_of_ble_eq_true rfl, Nat.le_of_ble_eq_true rfl⟩) hX.preS rfl rfl hl.1 rfl (lv_room (Nat.le_of_ble_eq_true rfl)) dX6_isSorted_2 ⟨Nat.le_of_ble_eq_true rfl, Nat.le_of_ble_eq_true rfl⟩) (fun _ h => h.trans (isNo_ok (by omega) (by omega))) ?_
  refine kb_if_ne (tgt := 15) hx hb dX6_isSorted_5 (by decide) (fun k_1 => absurd k_1 (by decide)) (fun k_1 => ?_)
  refine lv_iload_n hx hb dX6_isSorted_8 rfl (lv_at hl 2 rfl) ?_
  refine kx_cr (v := bI false) (va_runS (As := [.int (nI j)]) (rest := [.ref (am 0)]) ⟨hx, hb, hml, hown, hts⟩ (m_X6_isNoOrder l dC dI am M (nI j)) (va_cwS 1 hts gX6_isSorted_X6_isNoOrder rfl rfl rfl hdX6_isNoOrder_1.2 ⟨Nat.le_of_ble_eq_true rfl, Nat.le_of_ble_eq_true rfl⟩) hX.preS rfl rfl hl.1 rfl (lv_room (Nat.le_of_ble_eq_true rfl)) dX6_isSorted_9 ⟨Nat.le_of_ble_eq_true rfl, Nat.le_of_ble_eq_true rfl⟩) (fun _ h => h.trans (isNo_ok (by omega) (by omega))) ?_
  refine kb_if_eq (tgt := 19) hx hb dX6_isSorted_12 (by decide) (fun k_2 => ?_) (fun k_2 => absurd k_2 (by decide))
  refine lv_iconst (v := nI 0) hx hb dX6_isSorted_19 (by decide) ?_
  refine lv_iconst (v := nI 1) hx hb dX6_isSorted_20 (by decide) ?_
  refine km_ci (va_runV (As := [.int (nI 0), .int (nI 1)]) (rest := []) ⟨hx, hb, hml, hown, hts⟩ (m_X6_start l dC dI am M false 1 (by omega)) (cwV 2 hts gX6_isSorted_X6_start rfl rfl rfl hdX6_start_2 ⟨Nat.le_of_ble_eq_true rfl, Nat.le_of_ble_eq_true rfl⟩) (hX.preObj) rfl rfl hl.1 rfl (lv_room (Nat.le_of_ble_eq_true rfl)) dX6_isSorted_21 ⟨Nat.le_of_ble_eq_true rfl, Nat.le_of_ble_eq_true rfl⟩) hX (fun _ h => h) (fun r_ S_ H locs hw hX => ?_)
  obtain ⟨rfl, rfl⟩ := hw
  refine kb_if_ne (tgt := 40) hx hb dX6_isSorted_24 (by decide) (fun k_3 => absurd k_3 (by decide)) (fun k_3 => ?_)
  refine lv_aload_n hx hb dX6_isSorted_27 rfl (lv_at hl 0 rfl) ?_
  refine lv_iload_n hx hb dX6_isSorted_28 rfl (lv_at hl 1 rfl) ?_
  refine lv_iload_n hx hb dX6_isSorted_29 rfl (lv_at hl 2 rfl) ?_
  refine kx_cr (v := bI (seqB (cM M j) (M.1 i).1 (M.1 i).2.2)) (va_runV (As := [.int (nI i), .int (nI j)]) (rest := []) ⟨hx, hb, hml, hown, hts⟩ (m_X6_isInSequence l dC dI am (mN M (0, M.2.2.2.1, M.2.2.2.2.1, M.2.2.2.2.2)) i j (by omega) (by omega) hI) (cwV 2 hts gX6_isSorted_X6_isInSequence rfl rfl rfl hdX6_isInSequence_2 ⟨Nat.le_of_ble_eq_true rfl, Nat.le_of_ble_eq_true rfl⟩) (hX.preObj) rfl rfl hl.1 rfl (lv_room (Nat.le_of_ble_eq_true rfl)) dX6_isSorted_30 ⟨Nat.le_of_ble_eq_true rfl, Nat.le_of_ble_eq_true rfl⟩) (fun _ h => h) ?_
  refine kb_if_eq (tgt := 40) hx hb dX6_isSorted_33 (by decide) (fun k_4 => ?_) (fun k_4 => ?_)
  · skip
    have hc := k_4
    refine lv_iconst (v := nI 0) hx hb dX6_isSorted_40 (by decide) ?_
    exact W.zret (v := bI false) hx hb hr (bI_narrow _) (fun t9 ht9 hW9 => ⟨⟨_, (mN M (0, M.2.2.2.1, M.2.2.2.2.1, M.2.2.2.2.2)), rfl, ⟨by rw [hc], rfl⟩, hX.P ht9 hW9⟩, hX.2.2.2.F ht9⟩) hX.2.2.2.2.2 dX6_isSorted_41
  · skip
    have hc := k_4
    refine lv_iconst (v := nI 1) hx hb dX6_isSorted_36 (by decide) ?_
    refine lv_goto (tgt := 41) hx hb dX6_isSorted_37 (by decide) ?_
    exact W.zret (v := bI true) hx hb hr (bI_narrow _) (fun t9 ht9 hW9 => ⟨⟨_, (mN M (0, M.2.2.2.1, M.2.2.2.2.1, M.2.2.2.2.2)), rfl, ⟨by rw [hc], rfl⟩, hX.P ht9 hW9⟩, hX.2.2.2.F ht9⟩) hX.2.2.2.2.2 dX6_isSorted_41
set_option maxHeartbeats 4000000 in
set_option maxRecDepth 100000 in
theorem m_X6_size (l : Launch) (dC : Nat → ClassId) (dI : Nat → Nat → Nat) (am : Nat → Nat) (M : MS) (i : Nat) (hi : i < 3) (hI : InvM M) : Met l yX6_size wsX6_size ({ frames := 2, cells := 0, slots := 0, locals := 44 } : Room) (va_Pc [.ref (am 0), .int (nI i)] (PM dC dI am M)) (va_Qi (fun r M' => r = nI (M.1 i).2.2 ∧ M' = thM M 0) (PM dC dI am) (AM am)) 0 0 (AM am) := by
  refine Met.ofW (cc := cX6_size) (maxL := 2) (ret := (some .int)) pl_X6 rfl ?_
  intro p e s m args below meth c s₁ B hml hv
  obtain ⟨rfl, hPX⟩ := hv
  have hx := B.exec
  have hb := B.bytes
  have hr := B.returns
  have hts := atoms_spec (ws := wsX6_size) B.pre
  have hown : s.vm.findClass RX6 = some m.cls := findClass_of_methodNamed B.named
  have hlocks := B.notSynchronized
  have hin6 : ∀ w ∈ u_ws RX6 TX6 10, w ∈ wsX6_size := tu 1331 (by decide +kernel) rfl
  have hX := WM.of hPX
  have hl := lv_entry ([.ref (am 0), .int (nI i)]) (n := 2) (Nat.le_of_ble_eq_true rfl)
  rw [lg_entry_eq]
  generalize (lg_sl ([.ref (am 0), .int (nI i)]) ++ List.replicate (2 - (lg_sl ([.ref (am 0), .int (nI i)])).length) Slot.unset).toArray = ls at hl ⊢
  have hl : lv_has ls 2 [(0, .ref (am 0)), (1, .int (nI i))] := hl
  show W p l e ({ frames := 2, cells := 0, slots := 0, locals := 44 } : Room) s m ([.ref (am 0), .int (nI i)]).toArray below meth c s.heap [] 0 0 (MQ below (va_Qi (fun r M' => r = nI (M.1 i).2.2 ∧ M' = thM M 0) (PM dC dI am) (AM am)) ([.ref (am 0), .int (nI i)]).toArray s 0 0 (AM am)) (F0 m 0 ls [])
  have hn := (hI.1 i (by omega)).1
  refine lv_aload_n hx hb dX6_size_0 rfl (lv_at hl 0 rfl) ?_
  refine lv_iload_n hx hb dX6_size_1 rfl (lv_at hl 1 rfl) ?_
  refine kx_cr (v := bI false) (va_runS (As := [.int (nI i)]) (rest := [.ref (am 0)]) ⟨hx, hb, hml, hown, hts⟩ (m_X6_isNoRow l dC dI am M (nI i)) (va_cwS 1 hts gX6_size_X6_isNoRow rfl rfl rfl hdX6_isNoRow_1.2 ⟨Nat.le_of_ble_eq_true rfl, Nat.le_of_ble_eq_true rfl⟩) hX.preS rfl rfl hl.1 rfl (lv_room (Nat.le_of_ble_eq_true rfl)) dX6_size_2 ⟨Nat.le_of_ble_eq_true rfl, Nat.le_of_ble_eq_true rfl⟩) (fun _ h => h.trans (isNo_ok (by omega) (by omega))) ?_
  refine lv_iconst (v := nI 1) hx hb dX6_size_5 (by decide) ?_
  refine km_ci (va_runV (As := [.int (bI false), .int (nI 1)]) (rest := []) ⟨hx, hb, hml, hown, hts⟩ (m_X6_start l dC dI am M false 1 (by omega)) (cwV 2 hts gX6_size_X6_start rfl rfl rfl hdX6_start_2 ⟨Nat.le_of_ble_eq_true rfl, Nat.le_of_ble_eq_true rfl⟩) (hX.preObj) rfl rfl hl.1 rfl (lv_room (Nat.le_of_ble_eq_true rfl)) dX6_size_6 ⟨Nat.le_of_ble_eq_true rfl, Nat.le_of_ble_eq_true rfl⟩) hX (fun _ h => h) (fun r_ S_ H locs hw hX => ?_)
  obtain ⟨rfl, rfl⟩ := hw
  refine kb_if_eq (tgt := 16) hx hb dX6_size_9 (by decide) (fun k_1 => ?_) (fun k_1 => absurd k_1 (by decide))
  refine lv_aload_n hx hb dX6_size_16 rfl (lv_at hl 0 rfl) ?_
  refine km_gsizes hx hb hts hin6 hown hX (hts (.fieldLink RX6 17 "OrderlatticeModel" "sizes" "[I") (tm 681 (by decide +kernel) rfl)) dX6_size_17 ?_
  refine lv_iload_n hx hb dX6_size_20 rfl (lv_at hl 1 rfl) ?_
  refine km_lz (v := (M.1 i).2.2) hx hb hX (by omega) rfl dX6_size_21 ?_
  exact W.iret (v := nI ((M.1 i).2.2)) hx hb hr (fun t9 ht9 hW9 => ⟨⟨_, (mN M (0, M.2.2.2.1, M.2.2.2.2.1, M.2.2.2.2.2)), rfl, ⟨rfl, rfl⟩, hX.P ht9 hW9⟩, hX.2.2.2.F ht9⟩) hX.2.2.2.2.2 dX6_size_22
set_option maxHeartbeats 4000000 in
set_option maxRecDepth 100000 in
theorem m_X6_valueAt (l : Launch) (dC : Nat → ClassId) (dI : Nat → Nat → Nat) (am : Nat → Nat) (M : MS) (i : Nat) (q : Nat) (hi : i < 3) (hq : q < (M.1 i).2.2) (hI : InvM M) : Met l yX6_valueAt wsX6_valueAt ({ frames := 2, cells := 0, slots := 0, locals := 44 } : Room) (va_Pc [.ref (am 0), .int (nI i), .int (nI q)] (PM dC dI am M)) (va_Qi (fun r M' => r = nI ((M.1 i).1 q) ∧ M' = thM M 0) (PM dC dI am) (AM am)) 0 0 (AM am) := by
  refine Met.ofW (cc := cX6_valueAt) (maxL := 3) (ret := (some .int)) pl_X6 rfl ?_
  intro p e s m args below meth c s₁ B hml hv
  obtain ⟨rfl, hPX⟩ := hv
  have hx := B.exec
  have hb := B.bytes
  have hr := B.returns
  have hts := atoms_spec (ws := wsX6_valueAt) B.pre
  have hown : s.vm.findClass RX6 = some m.cls := findClass_of_methodNamed B.named
  have hlocks := B.notSynchronized
  have hin6 : ∀ w ∈ u_ws RX6 TX6 10, w ∈ wsX6_valueAt := tu 1331 (by decide +kernel) rfl
  have hX := WM.of hPX
  have hl := lv_entry ([.ref (am 0), .int (nI i), .int (nI q)]) (n := 3) (Nat.le_of_ble_eq_true rfl)
  rw [lg_entry_eq]
  generalize (lg_sl ([.ref (am 0), .int (nI i), .int (nI q)]) ++ List.replicate (3 - (lg_sl ([.ref (am 0), .int (nI i), .int (nI q)])).length) Slot.unset).toArray = ls at hl ⊢
  have hl : lv_has ls 3 [(0, .ref (am 0)), (1, .int (nI i)), (2, .int (nI q))] := hl
  show W p l e ({ frames := 2, cells := 0, slots := 0, locals := 44 } : Room) s m ([.ref (am 0), .int (nI i), .int (nI q)]).toArray below meth c s.heap [] 0 0 (MQ below (va_Qi (fun r M' => r = nI ((M.1 i).1 q) ∧ M' = thM M 0) (PM dC dI am) (AM am)) ([.ref (am 0), .int (nI i), .int (nI q)]).toArray s 0 0 (AM am)) (F0 m 0 ls [])
  have hn := (hI.1 i (by omega)).1
  refine lv_aload_n hx hb dX6_valueAt_0 rfl (lv_at hl 0 rfl) ?_
  refine lv_iload_n hx hb dX6_valueAt_1 rfl (lv_at hl 1 rfl) ?_
  refine kx_cr (v := bI false) (va_runS (As := [.int (nI i)]) (rest := [.ref (am 0)]) ⟨hx, hb, hml, hown, hts⟩ (m_X6_isNoRow l dC dI am M (nI i)) (va_cwS 1 hts gX6_valueAt_X6_isNoRow rfl rfl rfl hdX6_isNoRow_1.2 ⟨Nat.le_of_ble_eq_true rfl, Nat.le_of_ble_eq_true rfl⟩) hX.preS rfl rfl hl.1 rfl (lv_room (Nat.le_of_ble_eq_true rfl)) dX6_valueAt_2 ⟨Nat.le_of_ble_eq_true rfl, Nat.le_of_ble_eq_true rfl⟩) (fun _ h => h.trans (isNo_ok (by omega) (by omega))) ?_
  refine lv_iconst (v := nI 1) hx hb dX6_valueAt_5 (by decide) ?_
  refine km_ci (va_runV (As := [.int (bI false), .int (nI 1)]) (rest := []) ⟨hx, hb, hml, hown, hts⟩ (m_X6_start l dC dI am M false 1 (by omega)) (cwV 2 hts gX6_valueAt_X6_start rfl rfl rfl hdX6_start_2 ⟨Nat.le_of_ble_eq_true rfl, Nat.le_of_ble_eq_true rfl⟩) (hX.preObj) rfl rfl hl.1 rfl (lv_room (Nat.le_of_ble_eq_true rfl)) dX6_valueAt_6 ⟨Nat.le_of_ble_eq_true rfl, Nat.le_of_ble_eq_true rfl⟩) hX (fun _ h => h) (fun r_ S_ H locs hw hX => ?_)
  obtain ⟨rfl, rfl⟩ := hw
  refine kb_if_ne (tgt := 32) hx hb dX6_valueAt_9 (by decide) (fun k_1 => absurd k_1 (by decide)) (fun k_1 => ?_)
  refine lv_aload_n hx hb dX6_valueAt_12 rfl (lv_at hl 0 rfl) ?_
  refine lv_iload_n hx hb dX6_valueAt_13 rfl (lv_at hl 2 rfl) ?_
  refine lv_aload_n hx hb dX6_valueAt_14 rfl (lv_at hl 0 rfl) ?_
  refine km_gsizes hx hb hts hin6 hown hX (hts (.fieldLink RX6 17 "OrderlatticeModel" "sizes" "[I") (tm 681 (by decide +kernel) rfl)) dX6_valueAt_15 ?_
  refine lv_iload_n hx hb dX6_valueAt_18 rfl (lv_at hl 1 rfl) ?_
  refine km_lz (v := (M.1 i).2.2) hx hb hX (by omega) rfl dX6_valueAt_19 ?_
  refine lv_iconst (v := nI 1) hx hb dX6_valueAt_20 (by decide) ?_
  refine kn_isub hx hb (by omega) dX6_valueAt_21 ?_
  refine kx_cr (v := bI false) (va_runS (As := [.int (nI q), .int (nI (((M.1 i).2.2) - 1))]) (rest := [.ref (am 0)]) ⟨hx, hb, hml, hown, hts⟩ (m_X6_isNo l dC dI am (mN M (0, M.2.2.2.1, M.2.2.2.2.1, M.2.2.2.2.2)) (nI q) (nI (((M.1 i).2.2) - 1))) (va_cwS 2 hts gX6_valueAt_X6_isNo rfl rfl rfl hdX6_isNo_2.2 ⟨Nat.le_of_ble_eq_true rfl, Nat.le_of_ble_eq_true rfl⟩) hX.preS rfl rfl hl.1 rfl (lv_room (Nat.le_of_ble_eq_true rfl)) dX6_valueAt_22 ⟨Nat.le_of_ble_eq_true rfl, Nat.le_of_ble_eq_true rfl⟩) (fun _ h => h.trans (isNo_ok (by omega) (by omega))) ?_
  refine lv_iconst (v := nI 1) hx hb dX6_valueAt_25 (by decide) ?_
  refine km_ci (va_runV (As := [.int (bI false), .int (nI 1)]) (rest := []) ⟨hx, hb, hml, hown, hts⟩ (m_X6_refuse l dC dI am (mN M (0, M.2.2.2.1, M.2.2.2.2.1, M.2.2.2.2.2)) false 1 (by omega) rfl) (cwV 2 hts gX6_valueAt_X6_refuse rfl rfl rfl hdX6_refuse_2 ⟨Nat.le_of_ble_eq_true rfl, Nat.le_of_ble_eq_true rfl⟩) (hX.preObj) rfl rfl hl.1 rfl (lv_room (Nat.le_of_ble_eq_true rfl)) dX6_valueAt_26 ⟨Nat.le_of_ble_eq_true rfl, Nat.le_of_ble_eq_true rfl⟩) hX (fun _ h => h) (fun r_ S_ H locs hw hX => ?_)
  obtain ⟨rfl, rfl⟩ := hw
  refine kb_if_eq (tgt := 36) hx hb dX6_valueAt_29 (by decide) (fun k_2 => ?_) (fun k_2 => absurd k_2 (by decide))
  refine lv_aload_n hx hb dX6_valueAt_36 rfl (lv_at hl 0 rfl) ?_
  refine km_gvalues hx hb hts hin6 hown hX (hts (.fieldLink RX6 11 "OrderlatticeModel" "values" "[[I") (tm 710 (by decide +kernel) rfl)) dX6_valueAt_37 ?_
  refine lv_iload_n hx hb dX6_valueAt_40 rfl (lv_at hl 1 rfl) ?_
  refine km_av hx hb hX (by omega) dX6_valueAt_41 ?_
  refine lv_iload_n hx hb dX6_valueAt_42 rfl (lv_at hl 2 rfl) ?_
  refine km_lv (v := ((M.1 i).1) q) hx hb hX (by omega) (by omega) rfl dX6_valueAt_43 ?_
  exact W.iret (v := nI (((M.1 i).1) q)) hx hb hr (fun t9 ht9 hW9 => ⟨⟨_, (mN M (0, M.2.2.2.1, M.2.2.2.2.1, M.2.2.2.2.2)), rfl, ⟨rfl, rfl⟩, hX.P ht9 hW9⟩, hX.2.2.2.F ht9⟩) hX.2.2.2.2.2 dX6_valueAt_44
set_option maxHeartbeats 4000000 in
set_option maxRecDepth 100000 in
theorem m_X6_markAt (l : Launch) (dC : Nat → ClassId) (dI : Nat → Nat → Nat) (am : Nat → Nat) (M : MS) (i : Nat) (q : Nat) (hi : i < 3) (hq : q < (M.1 i).2.2) (hI : InvM M) : Met l yX6_markAt wsX6_markAt ({ frames := 2, cells := 0, slots := 0, locals := 44 } : Room) (va_Pc [.ref (am 0), .int (nI i), .int (nI q)] (PM dC dI am M)) (va_Qi (fun r M' => r = nI ((M.1 i).2.1 q) ∧ M' = thM M 0) (PM dC dI am) (AM am)) 0 0 (AM am) := by
  refine Met.ofW (cc := cX6_markAt) (maxL := 3) (ret := (some .int)) pl_X6 rfl ?_
  intro p e s m args below meth c s₁ B hml hv
  obtain ⟨rfl, hPX⟩ := hv
  have hx := B.exec
  have hb := B.bytes
  have hr := B.returns
  have hts := atoms_spec (ws := wsX6_markAt) B.pre
  have hown : s.vm.findClass RX6 = some m.cls := findClass_of_methodNamed B.named
  have hlocks := B.notSynchronized
  have hin6 : ∀ w ∈ u_ws RX6 TX6 10, w ∈ wsX6_markAt := tu 1331 (by decide +kernel) rfl
  have hX := WM.of hPX
  have hl := lv_entry ([.ref (am 0), .int (nI i), .int (nI q)]) (n := 3) (Nat.le_of_ble_eq_true rfl)
  rw [lg_entry_eq]
  generalize (lg_sl ([.ref (am 0), .int (nI i), .int (nI q)]) ++ List.replicate (3 - (lg_sl ([.ref (am 0), .int (nI i), .int (nI q)])).length) Slot.unset).toArray = ls at hl ⊢
  have hl : lv_has ls 3 [(0, .ref (am 0)), (1, .int (nI i)), (2, .int (nI q))] := hl
  show W p l e ({ frames := 2, cells := 0, slots := 0, locals := 44 } : Room) s m ([.ref (am 0), .int (nI i), .int (nI q)]).toArray below meth c s.heap [] 0 0 (MQ below (va_Qi (fun r M' => r = nI ((M.1 i).2.1 q) ∧ M' = thM M 0) (PM dC dI am) (AM am)) ([.ref (am 0), .int (nI i), .int (nI q)]).toArray s 0 0 (AM am)) (F0 m 0 ls [])
  have hn := (hI.1 i (by omega)).1
  refine lv_aload_n hx hb dX6_markAt_0 rfl (lv_at hl 0 rfl) ?_
  refine lv_iload_n hx hb dX6_markAt_1 rfl (lv_at hl 1 rfl) ?_
  refine kx_cr (v := bI false) (va_runS (As := [.int (nI i)]) (rest := [.ref (am 0)]) ⟨hx, hb, hml, hown, hts⟩ (m_X6_isNoRow l dC dI am M (nI i)) (va_cwS 1 hts gX6_markAt_X6_isNoRow rfl rfl rfl hdX6_isNoRow_1.2 ⟨Nat.le_of_ble_eq_true rfl, Nat.le_of_ble_eq_true rfl⟩) hX.preS rfl rfl hl.1 rfl (lv_room (Nat.le_of_ble_eq_true rfl)) dX6_markAt_2 ⟨Nat.le_of_ble_eq_true rfl, Nat.le_of_ble_eq_true rfl⟩) (fun _ h => h.trans (isNo_ok (by omega) (by omega))) ?_
  refine lv_iconst (v := nI 1) hx hb dX6_markAt_5 (by decide) ?_
  refine km_ci (va_runV (As := [.int (bI false), .int (nI 1)]) (rest := []) ⟨hx, hb, hml, hown, hts⟩ (m_X6_start l dC dI am M false 1 (by omega)) (cwV 2 hts gX6_markAt_X6_start rfl rfl rfl hdX6_start_2 ⟨Nat.le_of_ble_eq_true rfl, Nat.le_of_ble_eq_true rfl⟩) (hX.preObj) rfl rfl hl.1 rfl (lv_room (Nat.le_of_ble_eq_true rfl)) dX6_markAt_6 ⟨Nat.le_of_ble_eq_true rfl, Nat.le_of_ble_eq_true rfl⟩) hX (fun _ h => h) (fun r_ S_ H locs hw hX => ?_)
  obtain ⟨rfl, rfl⟩ := hw
  refine kb_if_ne (tgt := 32) hx hb dX6_markAt_9 (by decide) (fun k_1 => absurd k_1 (by decide)) (fun k_1 => ?_)
  refine lv_aload_n hx hb dX6_markAt_12 rfl (lv_at hl 0 rfl) ?_
  refine lv_iload_n hx hb dX6_markAt_13 rfl (lv_at hl 2 rfl) ?_
  refine lv_aload_n hx hb dX6_markAt_14 rfl (lv_at hl 0 rfl) ?_
  refine km_gsizes hx hb hts hin6 hown hX (hts (.fieldLink RX6 17 "OrderlatticeModel" "sizes" "[I") (tm 681 (by decide +kernel) rfl)) dX6_markAt_15 ?_
  refine lv_iload_n hx hb dX6_markAt_18 rfl (lv_at hl 1 rfl) ?_
  refine km_lz (v := (M.1 i).2.2) hx hb hX (by omega) rfl dX6_markAt_19 ?_
  refine lv_iconst (v := nI 1) hx hb dX6_markAt_20 (by decide) ?_
  refine kn_isub hx hb (by omega) dX6_markAt_21 ?_
  refine kx_cr (v := bI false) (va_runS (As := [.int (nI q), .int (nI (((M.1 i).2.2) - 1))]) (rest := [.ref (am 0)]) ⟨hx, hb, hml, hown, hts⟩ (m_X6_isNo l dC dI am (mN M (0, M.2.2.2.1, M.2.2.2.2.1, M.2.2.2.2.2)) (nI q) (nI (((M.1 i).2.2) - 1))) (va_cwS 2 hts gX6_markAt_X6_isNo rfl rfl rfl hdX6_isNo_2.2 ⟨Nat.le_of_ble_eq_true rfl, Nat.le_of_ble_eq_true rfl⟩) hX.preS rfl rfl hl.1 rfl (lv_room (Nat.le_of_ble_eq_true rfl)) dX6_markAt_22 ⟨Nat.le_of_ble_eq_true rfl, Nat.le_of_ble_eq_true rfl⟩) (fun _ h => h.trans (isNo_ok (by omega) (by omega))) ?_
  refine lv_iconst (v := nI 1) hx hb dX6_markAt_25 (by decide) ?_
  refine km_ci (va_runV (As := [.int (bI false), .int (nI 1)]) (rest := []) ⟨hx, hb, hml, hown, hts⟩ (m_X6_refuse l dC dI am (mN M (0, M.2.2.2.1, M.2.2.2.2.1, M.2.2.2.2.2)) false 1 (by omega) rfl) (cwV 2 hts gX6_markAt_X6_refuse rfl rfl rfl hdX6_refuse_2 ⟨Nat.le_of_ble_eq_true rfl, Nat.le_of_ble_eq_true rfl⟩) (hX.preObj) rfl rfl hl.1 rfl (lv_room (Nat.le_of_ble_eq_true rfl)) dX6_markAt_26 ⟨Nat.le_of_ble_eq_true rfl, Nat.le_of_ble_eq_true rfl⟩) hX (fun _ h => h) (fun r_ S_ H locs hw hX => ?_)
  obtain ⟨rfl, rfl⟩ := hw
  refine kb_if_eq (tgt := 36) hx hb dX6_markAt_29 (by decide) (fun k_2 => ?_) (fun k_2 => absurd k_2 (by decide))
  refine lv_aload_n hx hb dX6_markAt_36 rfl (lv_at hl 0 rfl) ?_
  refine km_gmarks hx hb hts hin6 hown hX (hts (.fieldLink RX6 14 "OrderlatticeModel" "marks" "[[I") (tm 711 (by decide +kernel) rfl)) dX6_markAt_37 ?_
  refine lv_iload_n hx hb dX6_markAt_40 rfl (lv_at hl 1 rfl) ?_
  refine km_am hx hb hX (by omega) dX6_markAt_41 ?_
  refine lv_iload_n hx hb dX6_markAt_42 rfl (lv_at hl 2 rfl) ?_
  refine km_lm (v := ((M.1 i).2.1) q) hx hb hX (by omega) (by omega) rfl dX6_markAt_43 ?_
  exact W.iret (v := nI (((M.1 i).2.1) q)) hx hb hr (fun t9 ht9 hW9 => ⟨⟨_, (mN M (0, M.2.2.2.1, M.2.2.2.2.1, M.2.2.2.2.2)), rfl, ⟨rfl, rfl⟩, hX.P ht9 hW9⟩, hX.2.2.2.F ht9⟩) hX.2.2.2.2.2 dX6_markAt_44
set_option maxHeartbeats 4000000 in
set_option maxRecDepth 100000 in
theorem m_X6_kinds (l : Launch) (dC : Nat → ClassId) (dI : Nat → Nat → Nat) (am : Nat → Nat) (M : MS) (i : Nat) (j : Nat) (hi : i < 3) (hj : j < 4) (hI : InvM M) : Met l yX6_kinds wsX6_kinds ({ frames := 4, cells := 0, slots := 0, locals := 95 } : Room) (va_Pc [.ref (am 0), .int (nI i), .int (nI j)] (PM dC dI am M)) (va_Qi (fun r M' => r = nI (cntB (firstB (cM M j) (M.1 i).1) (M.1 i).2.2) ∧ M' = thM M 0) (PM dC dI am) (AM am)) 0 0 (AM am) := by
  refine Met.ofW (cc := cX6_kinds) (maxL := 3) (ret := (some .int)) pl_X6 rfl ?_
  intro p e s m args below meth c s₁ B hml hv
  obtain ⟨rfl, hPX⟩ := hv
  have hx := B.exec
  have hb := B.bytes
  have hr := B.returns
  have hts := atoms_spec (ws := wsX6_kinds) B.pre
  have hown : s.vm.findClass RX6 = some m.cls := findClass_of_methodNamed B.named
  have hlocks := B.notSynchronized
  have hX := WM.of hPX
  have hl := lv_entry ([.ref (am 0), .int (nI i), .int (nI j)]) (n := 3) (Nat.le_of_ble_eq_true rfl)
  rw [lg_entry_eq]
  generalize (lg_sl ([.ref (am 0), .int (nI i), .int (nI j)]) ++ List.replicate (3 - (lg_sl ([.ref (am 0), .int (nI i), .int (nI j)])).length) Slot.unset).toArray = ls at hl ⊢
  have hl : lv_has ls 3 [(0, .ref (am 0)), (1, .int (nI i)), (2, .int (nI j))] := hl
  show W p l e ({ frames := 4, cells := 0, slots := 0, locals := 95 } : Room) s m ([.ref (am 0), .int (nI i), .int (nI j)]).toArray below meth c s.heap [] 0 0 (MQ below (va_Qi (fun r M' => r = nI (cntB (firstB (cM M j) (M.1 i).1) (M.1 i).2.2) ∧ M' = thM M 0) (PM dC dI am) (AM am)) ([.ref (am 0), .int (nI i), .int (nI j)]).toArray s 0 0 (AM am)) (F0 m 0 ls [])
  have hn := (hI.1 i (by omega)).1
  refine lv_aload_n hx hb dX6_kinds_0 rfl (lv_at hl 0 rfl) ?_
  refine lv_iload_n hx hb dX6_kinds_1 rfl (lv_at hl 1 rfl) ?_
  refine kx_cr (v := bI false) (va_runS (As := [.int (nI i)]) (rest := [.ref (am 0)]) ⟨hx, hb, hml, hown, hts⟩ (m_X6_isNoRow l dC dI am M (nI i)) (va_cwS 1 hts gX6_kinds_X6_isNoRow rfl rfl rfl hdX6_isNoRow_1.2 ⟨Nat.le_of_ble_eq_true rfl, Nat.le_of_ble_eq_true rfl⟩) hX.preS rfl rfl hl.1 rfl (lv_room (Nat.le_of_ble_eq_true rfl)) dX6_kinds_2 ⟨Nat.le_of_ble_eq_true rfl, Nat.le_of_ble_eq_true rfl⟩) (fun _ h => h.trans (isNo_ok (by omega) (by omega))) ?_
  refine kb_if_ne (tgt := 15) hx hb dX6_kinds_5 (by decide) (fun k_1 => absurd k_1 (by decide)) (fun k_1 => ?_)
  refine lv_iload_n hx hb dX6_kinds_8 rfl (lv_at hl 2 rfl) ?_
  refine kx_cr (v := bI false) (va_runS (As := [.int (nI j)]) (rest := [.ref (am 0)]) ⟨hx, hb, hml, hown, hts⟩ (m_X6_isNoOrder l dC dI am M (nI j)) (va_cwS 1 hts gX6_kinds_X6_isNoOrder rfl rfl rfl hdX6_isNoOrder_1.2 ⟨Nat.le_of_ble_eq_true rfl, Nat.le_of_ble_eq_true rfl⟩) hX.preS rfl rfl hl.1 rfl (lv_room (Nat.le_of_ble_eq_true rfl)) dX6_kinds_9 ⟨Nat.le_of_ble_eq_true rfl, Nat.le_of_ble_eq_true rfl⟩) (fun _ h => h.trans (isNo_ok (by omega) (by omega))) ?_
  refine kb_if_eq (tgt := 19) hx hb dX6_kinds_12 (by decide) (fun k_2 => ?_) (fun k_2 => absurd k_2 (by decide))
  refine lv_iconst (v := nI 0) hx hb dX6_kinds_19 (by decide) ?_
  refine lv_iconst (v := nI 1) hx hb dX6_kinds_20 (by decide) ?_
  refine km_ci (va_runV (As := [.int (nI 0), .int (nI 1)]) (rest := []) ⟨hx, hb, hml, hown, hts⟩ (m_X6_start l dC dI am M false 1 (by omega)) (cwV 2 hts gX6_kinds_X6_start rfl rfl rfl hdX6_start_2 ⟨Nat.le_of_ble_eq_true rfl, Nat.le_of_ble_eq_true rfl⟩) (hX.preObj) rfl rfl hl.1 rfl (lv_room (Nat.le_of_ble_eq_true rfl)) dX6_kinds_21 ⟨Nat.le_of_ble_eq_true rfl, Nat.le_of_ble_eq_true rfl⟩) hX (fun _ h => h) (fun r_ S_ H locs hw hX => ?_)
  obtain ⟨rfl, rfl⟩ := hw
  refine kb_if_eq (tgt := 31) hx hb dX6_kinds_24 (by decide) (fun k_3 => ?_) (fun k_3 => absurd k_3 (by decide))
  refine lv_aload_n hx hb dX6_kinds_31 rfl (lv_at hl 0 rfl) ?_
  refine lv_iload_n hx hb dX6_kinds_32 rfl (lv_at hl 1 rfl) ?_
  refine lv_iload_n hx hb dX6_kinds_33 rfl (lv_at hl 2 rfl) ?_
  refine kx_cr (v := nI (cntB (firstB (cM M j) (M.1 i).1) (M.1 i).2.2)) (va_runV (As := [.int (nI i), .int (nI j)]) (rest := []) ⟨hx, hb, hml, hown, hts⟩ (m_X6_kindsNow l dC dI am (mN M (0, M.2.2.2.1, M.2.2.2.2.1, M.2.2.2.2.2)) i j (by omega) (by omega) hI) (cwV 2 hts gX6_kinds_X6_kindsNow rfl rfl rfl hdX6_kindsNow_2 ⟨Nat.le_of_ble_eq_true rfl, Nat.le_of_ble_eq_true rfl⟩) (hX.preObj) rfl rfl hl.1 rfl (lv_room (Nat.le_of_ble_eq_true rfl)) dX6_kinds_34 ⟨Nat.le_of_ble_eq_true rfl, Nat.le_of_ble_eq_true rfl⟩) (fun _ h => h) ?_
  exact W.iret (v := nI (cntB (firstB (cM M j) (M.1 i).1) (M.1 i).2.2)) hx hb hr (fun t9 ht9 hW9 => ⟨⟨_, (mN M (0, M.2.2.2.1, M.2.2.2.2.1, M.2.2.2.2.2)), rfl, ⟨rfl, rfl⟩, hX.P ht9 hW9⟩, hX.2.2.2.F ht9⟩) hX.2.2.2.2.2 dX6_kinds_37
set_option maxHeartbeats 4000000 in
set_option maxRecDepth 100000 in
theorem m_X6_ahead (l : Launch) (dC : Nat → ClassId) (dI : Nat → Nat → Nat) (am : Nat → Nat) (M : MS) (i : Nat) (j : Nat) (v : Nat) (hi : i < 3) (hj : j < 4) (hv : v < 16) (hI : InvM M) : Met l yX6_ahead wsX6_ahead ({ frames := 3, cells := 0, slots := 0, locals := 71 } : Room) (va_Pc [.ref (am 0), .int (nI i), .int (nI j), .int (nI v)] (PM dC dI am M)) (va_Qi (fun r M' => r = nI (cntB (fun k => firstB (cM M j) (M.1 i).1 k && decide ((cM M j) ((M.1 i).1 k) < (cM M j) v)) (M.1 i).2.2) ∧ M' = thM M 0) (PM dC dI am) (AM am)) 0 0 (AM am) := by
  refine Met.ofW (cc := cX6_ahead) (maxL := 6) (ret := (some .int)) pl_X6 rfl ?_
  intro p e s m args below meth c s₁ B hml hv
  obtain ⟨rfl, hPX⟩ := hv
  have hx := B.exec
  have hb := B.bytes
  have hr := B.returns
  have hts := atoms_spec (ws := wsX6_ahead) B.pre
  have hown : s.vm.findClass RX6 = some m.cls := findClass_of_methodNamed B.named
  have hlocks := B.notSynchronized
  have hin6 : ∀ w ∈ u_ws RX6 TX6 10, w ∈ wsX6_ahead := tu 1331 (by decide +kernel) rfl
  have hX := WM.of hPX
  have hl := lv_entry ([.ref (am 0), .int (nI i), .int (nI j), .int (nI v)]) (n := 6) (Nat.le_of_ble_eq_true rfl)
  rw [lg_entry_eq]
  generalize (lg_sl ([.ref (am 0), .int (nI i), .int (nI j), .int (nI v)]) ++ List.replicate (6 - (lg_sl ([.ref (am 0), .int (nI i), .int (nI j), .int (nI v)])).length) Slot.unset).toArray = ls at hl ⊢
  have hl : lv_has ls 6 [(0, .ref (am 0)), (1, .int (nI i)), (2, .int (nI j)), (3, .int (nI v))] := hl
  show W p l e ({ frames := 3, cells := 0, slots := 0, locals := 71 } : Room) s m ([.ref (am 0), .int (nI i), .int (nI j), .int (nI v)]).toArray below meth c s.heap [] 0 0 (MQ below (va_Qi (fun r M' => r = nI (cntB (fun k => firstB (cM M j) (M.1 i).1 k && decide ((cM M j) ((M.1 i).1 k) < (cM M j) v)) (M.1 i).2.2) ∧ M' = thM M 0) (PM dC dI am) (AM am)) ([.ref (am 0), .int (nI i), .int (nI j), .int (nI v)]).toArray s 0 0 (AM am)) (F0 m 0 ls [])
  have hn := (hI.1 i (by omega)).1
  refine lv_aload_n hx hb dX6_ahead_0 rfl (lv_at hl 0 rfl) ?_
  refine lv_iload_n hx hb dX6_ahead_1 rfl (lv_at hl 1 rfl) ?_
  refine kx_cr (v := bI false) (va_runS (As := [.int (nI i)]) (rest := [.ref (am 0)]) ⟨hx, hb, hml, hown, hts⟩ (m_X6_isNoRow l dC dI am M (nI i)) (va_cwS 1 hts gX6_ahead_X6_isNoRow rfl rfl rfl hdX6_isNoRow_1.2 ⟨Nat.le_of_ble_eq_true rfl, Nat.le_of_ble_eq_true rfl⟩) hX.preS rfl rfl hl.1 rfl (lv_room (Nat.le_of_ble_eq_true rfl)) dX6_ahead_2 ⟨Nat.le_of_ble_eq_true rfl, Nat.le_of_ble_eq_true rfl⟩) (fun _ h => h.trans (isNo_ok (by omega) (by omega))) ?_
  refine kb_if_ne (tgt := 15) hx hb dX6_ahead_5 (by decide) (fun k_1 => absurd k_1 (by decide)) (fun k_1 => ?_)
  refine lv_iload_n hx hb dX6_ahead_8 rfl (lv_at hl 2 rfl) ?_
  refine kx_cr (v := bI false) (va_runS (As := [.int (nI j)]) (rest := [.ref (am 0)]) ⟨hx, hb, hml, hown, hts⟩ (m_X6_isNoOrder l dC dI am M (nI j)) (va_cwS 1 hts gX6_ahead_X6_isNoOrder rfl rfl rfl hdX6_isNoOrder_1.2 ⟨Nat.le_of_ble_eq_true rfl, Nat.le_of_ble_eq_true rfl⟩) hX.preS rfl rfl hl.1 rfl (lv_room (Nat.le_of_ble_eq_true rfl)) dX6_ahead_9 ⟨Nat.le_of_ble_eq_true rfl, Nat.le_of_ble_eq_true rfl⟩) (fun _ h => h.trans (isNo_ok (by omega) (by omega))) ?_
  refine kb_if_eq (tgt := 19) hx hb dX6_ahead_12 (by decide) (fun k_2 => ?_) (fun k_2 => absurd k_2 (by decide))
  refine lv_iconst (v := nI 0) hx hb dX6_ahead_19 (by decide) ?_
  refine lv_iconst (v := nI 1) hx hb dX6_ahead_20 (by decide) ?_
  refine km_ci (va_runV (As := [.int (nI 0), .int (nI 1)]) (rest := []) ⟨hx, hb, hml, hown, hts⟩ (m_X6_start l dC dI am M false 1 (by omega)) (cwV 2 hts gX6_ahead_X6_start rfl rfl rfl hdX6_start_2 ⟨Nat.le_of_ble_eq_true rfl, Nat.le_of_ble_eq_true rfl⟩) (hX.preObj) rfl rfl hl.1 rfl (lv_room (Nat.le_of_ble_eq_true rfl)) dX6_ahead_21 ⟨Nat.le_of_ble_eq_true rfl, Nat.le_of_ble_eq_true rfl⟩) hX (fun _ h => h) (fun r_ S_ H locs hw hX => ?_)
  obtain ⟨rfl, rfl⟩ := hw
  refine kb_if_ne (tgt := 39) hx hb dX6_ahead_24 (by decide) (fun k_3 => absurd k_3 (by decide)) (fun k_3 => ?_)
  refine lv_aload_n hx hb dX6_ahead_27 rfl (lv_at hl 0 rfl) ?_
  refine lv_iload_n hx hb dX6_ahead_28 rfl (lv_at hl 3 rfl) ?_
  refine kx_cr (v := bI false) (va_runS (As := [.int (nI v)]) (rest := [.ref (am 0)]) ⟨hx, hb, hml, hown, hts⟩ (m_X6_isNoValue l dC dI am (mN M (0, M.2.2.2.1, M.2.2.2.2.1, M.2.2.2.2.2)) (nI v)) (va_cwS 1 hts gX6_ahead_X6_isNoValue rfl rfl rfl hdX6_isNoValue_1.2 ⟨Nat.le_of_ble_eq_true rfl, Nat.le_of_ble_eq_true rfl⟩) hX.preS rfl rfl hl.1 rfl (lv_room (Nat.le_of_ble_eq_true rfl)) dX6_ahead_29 ⟨Nat.le_of_ble_eq_true rfl, Nat.le_of_ble_eq_true rfl⟩) (fun _ h => h.trans (isNo_ok (by omega) (by omega))) ?_
  refine lv_iconst (v := nI 2) hx hb dX6_ahead_32 (by decide) ?_
  refine km_ci (va_runV (As := [.int (bI false), .int (nI 2)]) (rest := []) ⟨hx, hb, hml, hown, hts⟩ (m_X6_refuse l dC dI am (mN M (0, M.2.2.2.1, M.2.2.2.2.1, M.2.2.2.2.2)) false 2 (by omega) rfl) (cwV 2 hts gX6_ahead_X6_refuse rfl rfl rfl hdX6_refuse_2 ⟨Nat.le_of_ble_eq_true rfl, Nat.le_of_ble_eq_true rfl⟩) (hX.preObj) rfl rfl hl.1 rfl (lv_room (Nat.le_of_ble_eq_true rfl)) dX6_ahead_33 ⟨Nat.le_of_ble_eq_true rfl, Nat.le_of_ble_eq_true rfl⟩) hX (fun _ h => h) (fun r_ S_ H locs hw hX => ?_)
  obtain ⟨rfl, rfl⟩ := hw
  refine kb_if_eq (tgt := 41) hx hb dX6_ahead_36 (by decide) (fun k_4 => ?_) (fun k_4 => absurd k_4 (by decide))
  refine lv_iconst (v := nI 0) hx hb dX6_ahead_41 (by decide) ?_
  refine lv_istore (lv' := [(4, .int (nI 0)), (0, .ref (am 0)), (1, .int (nI i)), (2, .int (nI j)), (3, .int (nI v))]) hx hb dX6_ahead_42 hl (by decide) rfl (fun ls hl => ?_)
  refine lv_iconst (v := nI 0) hx hb dX6_ahead_44 (by decide) ?_
  refine lv_istore (lv' := [(5, .int (nI 0)), (4, .int (nI 0)), (0, .ref (am 0)), (1, .int (nI i)), (2, .int (nI j)), (3, .int (nI v))]) hx hb dX6_ahead_45 hl (by decide) rfl (fun ls hl => ?_)
  have loop47 : ∀ (fuel : Nat) (q k : Nat) (hk : k ≤ (M.1 i).2.2) (hq : q = cntB (fun k => firstB (cM M j) (M.1 i).1 k && decide ((cM M j) ((M.1 i).1 k) < (cM M j) v)) k) (H : Heap) (locs : List Loc), (M.1 i).2.2 - k < fuel → WM dC dI am (mN M (0, M.2.2.2.1, M.2.2.2.2.1, M.2.2.2.2.2)) [] (AM am) s H locs → ∀ ls : Array Slot, lv_has ls 6 [(0, .ref (am 0)), (1, .int (nI i)), (2, .int (nI j)), (3, .int (nI v)), (4, .int (nI q)), (5, .int (nI k))] → W p l e ({ frames := 3, cells := 0, slots := 0, locals := 71 } : Room) s m ([.ref (am 0), .int (nI i), .int (nI j), .int (nI v)]).toArray below meth c H locs 0 0 (MQ below (va_Qi (fun r M' => r = nI (cntB (fun k => firstB (cM M j) (M.1 i).1 k && decide ((cM M j) ((M.1 i).1 k) < (cM M j) v)) (M.1 i).2.2) ∧ M' = thM M 0) (PM dC dI am) (AM am)) ([.ref (am 0), .int (nI i), .int (nI j), .int (nI v)]).toArray s 0 0 (AM am)) (F0 m 47 ls []) := by
    intro fuel
    induction fuel with
    | zero => intro q k hk hq H locs hf; exact absurd hf (Nat.not_lt_zero _)
    | succ fuel ih47 =>
      intro q k hk hq H locs hf hX ls hl
      refine lv_iload hx hb dX6_ahead_47 (lv_at hl 5 rfl) ?_
      refine lv_aload_n hx hb dX6_ahead_49 rfl (lv_at hl 0 rfl) ?_
      refine km_gsizes hx hb hts hin6 hown hX (hts (.fieldLink RX6 17 "OrderlatticeModel" "sizes" "[I") (tm 681 (by decide +kernel) rfl)) dX6_ahead_50 ?_
      refine lv_iload_n hx hb dX6_ahead_53 rfl (lv_at hl 1 rfl) ?_
      refine km_lz (v := (M.1 i).2.2) hx hb hX (by omega) rfl dX6_ahead_54 ?_
      refine kn_icmp_ge (tgt := 103) hx hb (by omega) (by omega) dX6_ahead_55 (by decide) (fun k_5 => ?_) (fun k_5 => ?_)
      · skip
        refine lv_iload hx hb dX6_ahead_103 (lv_at hl 4 rfl) ?_
        exact W.iret (v := nI q) hx hb hr (fun t9 ht9 hW9 => ⟨⟨_, (mN M (0, M.2.2.2.1, M.2.2.2.2.1, M.2.2.2.2.2)), rfl, ⟨by rw [hq, show k = (M.1 i).2.2 by omega], rfl⟩, hX.P ht9 hW9⟩, hX.2.2.2.F ht9⟩) hX.2.2.2.2.2 dX6_ahead_105
      · skip
        refine lv_iload hx hb dX6_ahead_58 (lv_at hl 4 rfl) ?_
        refine lv_aload_n hx hb dX6_ahead_60 rfl (lv_at hl 0 rfl) ?_
        refine lv_iload_n hx hb dX6_ahead_61 rfl (lv_at hl 1 rfl) ?_
        refine lv_iload_n hx hb dX6_ahead_62 rfl (lv_at hl 2 rfl) ?_
        refine lv_iload hx hb dX6_ahead_63 (lv_at hl 5 rfl) ?_
        refine kx_cr (v := bI (firstB (cM M j) (M.1 i).1 k)) (va_runV (As := [.int (nI i), .int (nI j), .int (nI k)]) (rest := [.int (nI q)]) ⟨hx, hb, hml, hown, hts⟩ (m_X6_isFirstOf l dC dI am (mN M (0, M.2.2.2.1, M.2.2.2.2.1, M.2.2.2.2.2)) i j k (by omega) (by omega) hI (by omega)) (cwV 3 hts gX6_ahead_X6_isFirstOf rfl rfl rfl hdX6_isFirstOf_3 ⟨Nat.le_of_ble_eq_true rfl, Nat.le_of_ble_eq_true rfl⟩) (hX.preObj) rfl rfl hl.1 rfl (lv_room (Nat.le_of_ble_eq_true rfl)) dX6_ahead_65 ⟨Nat.le_of_ble_eq_true rfl, Nat.le_of_ble_eq_true rfl⟩) (fun _ h => h) ?_
        refine kb_if_eq (tgt := 93) hx hb dX6_ahead_68 (by decide) (fun k_6 => ?_) (fun k_6 => ?_)
        · skip
          have hc := k_6
          refine lv_iconst (v := nI 0) hx hb dX6_ahead_93 (by decide) ?_
          refine kn_iadd hx hb dX6_ahead_94 ?_
          refine lv_istore (lv' := [(4, .int (nI (q + 0))), (0, .ref (am 0)), (1, .int (nI i)), (2, .int (nI j)), (3, .int (nI v)), (5, .int (nI k))]) hx hb dX6_ahead_95 hl (by decide) rfl (fun ls hl => ?_)
          refine lv_iinc (v := nI (k + 1)) (lv' := [(5, .int (nI (k + 1))), (4, .int (nI (q + 0))), (0, .ref (am 0)), (1, .int (nI i)), (2, .int (nI j)), (3, .int (nI v))]) hx hb dX6_ahead_97 hl (k := 5) rfl (nI_1 k) (by decide) rfl (fun ls hl => ?_)
          refine lv_goto (tgt := 47) hx hb dX6_ahead_100 (by decide) ?_
          exact ih47  (q + 0) (k + 1) (by omega) (by rw [cntB_f (by rw [hc, Bool.false_and]), hq]; rfl) _ _ (by omega) hX _ (lv_sub hl [2, 3, 4, 5, 1, 0] rfl)
        · skip
          have hc := k_6
          refine lv_aload_n hx hb dX6_ahead_71 rfl (lv_at hl 0 rfl) ?_
          refine lv_iload_n hx hb dX6_ahead_72 rfl (lv_at hl 2 rfl) ?_
          refine lv_aload_n hx hb dX6_ahead_73 rfl (lv_at hl 0 rfl) ?_
          refine km_gvalues hx hb hts hin6 hown hX (hts (.fieldLink RX6 11 "OrderlatticeModel" "values" "[[I") (tm 710 (by decide +kernel) rfl)) dX6_ahead_74 ?_
          refine lv_iload_n hx hb dX6_ahead_77 rfl (lv_at hl 1 rfl) ?_
          refine km_av hx hb hX (by omega) dX6_ahead_78 ?_
          refine lv_iload hx hb dX6_ahead_79 (lv_at hl 5 rfl) ?_
          refine km_lv (v := ((M.1 i).1) k) hx hb hX (by omega) (by omega) rfl dX6_ahead_81 ?_
          refine lv_iload_n hx hb dX6_ahead_82 rfl (lv_at hl 3 rfl) ?_
          refine kx_cr (v := cmpI (cM M j (((M.1 i).1) k)) (cM M j v)) (va_runV (As := [.int (nI j), .int (nI (((M.1 i).1) k)), .int (nI v)]) (rest := [.int (nI q)]) ⟨hx, hb, hml, hown, hts⟩ (m_X6_compareNow l dC dI am (mN M (0, M.2.2.2.1, M.2.2.2.2.1, M.2.2.2.2.2)) j (((M.1 i).1) k) v (by omega) (hI.2 j (by omega)) ((hI.1 i (by omega)).2 _ (by omega)).1 (by omega)) (cwV 3 hts gX6_ahead_X6_compareNow rfl rfl rfl hdX6_compareNow_3 ⟨Nat.le_of_ble_eq_true rfl, Nat.le_of_ble_eq_true rfl⟩) (hX.preObj) rfl rfl hl.1 rfl (lv_room (Nat.le_of_ble_eq_true rfl)) dX6_ahead_83 ⟨Nat.le_of_ble_eq_true rfl, Nat.le_of_ble_eq_true rfl⟩) (fun _ h => h) ?_
          refine kc_if_ge (tgt := 93) hx hb dX6_ahead_86 (by decide) (fun k_7 => ?_) (fun k_7 => ?_)
          · skip
            have hd := k_7
            refine lv_iconst (v := nI 0) hx hb dX6_ahead_93 (by decide) ?_
            refine kn_iadd hx hb dX6_ahead_94 ?_
            refine lv_istore (lv' := [(4, .int (nI (q + 0))), (0, .ref (am 0)), (1, .int (nI i)), (2, .int (nI j)), (3, .int (nI v)), (5, .int (nI k))]) hx hb dX6_ahead_95 hl (by decide) rfl (fun ls hl => ?_)
            refine lv_iinc (v := nI (k + 1)) (lv' := [(5, .int (nI (k + 1))), (4, .int (nI (q + 0))), (0, .ref (am 0)), (1, .int (nI i)), (2, .int (nI j)), (3, .int (nI v))]) hx hb dX6_ahead_97 hl (k := 5) rfl (nI_1 k) (by decide) rfl (fun ls hl => ?_)
            refine lv_goto (tgt := 47) hx hb dX6_ahead_100 (by decide) ?_
            exact ih47  (q + 0) (k + 1) (by omega) (by rw [cntB_f (by rw [hc, decide_eq_false (by omega)]; rfl), hq]; rfl) _ _ (by omega) hX _ (lv_sub hl [2, 3, 4, 5, 1, 0] rfl)
          · skip
            have hd := k_7
            refine lv_iconst (v := nI 1) hx hb dX6_ahead_89 (by decide) ?_
            refine lv_goto (tgt := 94) hx hb dX6_ahead_90 (by decide) ?_
            refine kn_iadd hx hb dX6_ahead_94 ?_
            refine lv_istore (lv' := [(4, .int (nI (q + 1))), (0, .ref (am 0)), (1, .int (nI i)), (2, .int (nI j)), (3, .int (nI v)), (5, .int (nI k))]) hx hb dX6_ahead_95 hl (by decide) rfl (fun ls hl => ?_)
            refine lv_iinc (v := nI (k + 1)) (lv' := [(5, .int (nI (k + 1))), (4, .int (nI (q + 1))), (0, .ref (am 0)), (1, .int (nI i)), (2, .int (nI j)), (3, .int (nI v))]) hx hb dX6_ahead_97 hl (k := 5) rfl (nI_1 k) (by decide) rfl (fun ls hl => ?_)
            refine lv_goto (tgt := 47) hx hb dX6_ahead_100 (by decide) ?_
            exact ih47  (q + 1) (k + 1) (by omega) (by rw [cntB_t (by rw [hc, decide_eq_true hd]; rfl), hq]) _ _ (by omega) hX _ (lv_sub hl [2, 3, 4, 5, 1, 0] rfl)
  exact loop47 ((M.1 i).2.2 + 1) 0 0 (by omega) rfl _ _ (by omega) (WM.eqS rfl hX) _ (lv_sub hl [2, 3, 4, 5, 1, 0] rfl)
set_option maxHeartbeats 4000000 in
set_option maxRecDepth 100000 in
theorem m_X6_search (l : Launch) (dC : Nat → ClassId) (dI : Nat → Nat → Nat) (am : Nat → Nat) (M : MS) (i : Nat) (j : Nat) (v : Nat) (hi : i < 3) (hj : j < 4) (hv : v < 16) (hI : InvM M) : Met l yX6_search wsX6_search ({ frames := 3, cells := 0, slots := 0, locals := 70 } : Room) (va_Pc [.ref (am 0), .int (nI i), .int (nI j), .int (nI v)] (PM dC dI am M)) (va_Qi (fun r M' => (seqB (cM M j) (M.1 i).1 (M.1 i).2.2 = false ∧ r = -9 ∧ M' = refM M) ∨ (seqB (cM M j) (M.1 i).1 (M.1 i).2.2 = true ∧ r = (if ∃ k, k < (M.1 i).2.2 ∧ (cM M j) ((M.1 i).1 k) = (cM M j) v then 16 else nI (cntB (fun k => decide ((cM M j) ((M.1 i).1 k) < (cM M j) v)) (M.1 i).2.2)) ∧ M' = thM M 0)) (PM dC dI am) (AM am)) 0 0 (AM am) := by
  refine Met.ofW (cc := cX6_search) (maxL := 7) (ret := (some .int)) pl_X6 rfl ?_
  intro p e s m args below meth c s₁ B hml hv
  obtain ⟨rfl, hPX⟩ := hv
  have hx := B.exec
  have hb := B.bytes
  have hr := B.returns
  have hts := atoms_spec (ws := wsX6_search) B.pre
  have hown : s.vm.findClass RX6 = some m.cls := findClass_of_methodNamed B.named
  have hlocks := B.notSynchronized
  have hin6 : ∀ w ∈ u_ws RX6 TX6 10, w ∈ wsX6_search := tu 1331 (by decide +kernel) rfl
  have hX := WM.of hPX
  have hl := lv_entry ([.ref (am 0), .int (nI i), .int (nI j), .int (nI v)]) (n := 7) (Nat.le_of_ble_eq_true rfl)
  rw [lg_entry_eq]
  generalize (lg_sl ([.ref (am 0), .int (nI i), .int (nI j), .int (nI v)]) ++ List.replicate (7 - (lg_sl ([.ref (am 0), .int (nI i), .int (nI j), .int (nI v)])).length) Slot.unset).toArray = ls at hl ⊢
  have hl : lv_has ls 7 [(0, .ref (am 0)), (1, .int (nI i)), (2, .int (nI j)), (3, .int (nI v))] := hl
  show W p l e ({ frames := 3, cells := 0, slots := 0, locals := 70 } : Room) s m ([.ref (am 0), .int (nI i), .int (nI j), .int (nI v)]).toArray below meth c s.heap [] 0 0 (MQ below (va_Qi (fun r M' => (seqB (cM M j) (M.1 i).1 (M.1 i).2.2 = false ∧ r = -9 ∧ M' = refM M) ∨ (seqB (cM M j) (M.1 i).1 (M.1 i).2.2 = true ∧ r = (if ∃ k, k < (M.1 i).2.2 ∧ (cM M j) ((M.1 i).1 k) = (cM M j) v then 16 else nI (cntB (fun k => decide ((cM M j) ((M.1 i).1 k) < (cM M j) v)) (M.1 i).2.2)) ∧ M' = thM M 0)) (PM dC dI am) (AM am)) ([.ref (am 0), .int (nI i), .int (nI j), .int (nI v)]).toArray s 0 0 (AM am)) (F0 m 0 ls [])
  have hn := (hI.1 i (by omega)).1
  refine lv_aload_n hx hb dX6_search_0 rfl (lv_at hl 0 rfl) ?_
  refine lv_iload_n hx hb dX6_search_1 rfl (lv_at hl 1 rfl) ?_
  refine kx_cr (v := bI false) (va_runS (As := [.int (nI i)]) (rest := [.ref (am 0)]) ⟨hx, hb, hml, hown, hts⟩ (m_X6_isNoRow l dC dI am M (nI i)) (va_cwS 1 hts gX6_search_X6_isNoRow rfl rfl rfl hdX6_isNoRow_1.2 ⟨Nat.le_of_ble_eq_true rfl, Nat.le_of_ble_eq_true rfl⟩) hX.preS rfl rfl hl.1 rfl (lv_room (Nat.le_of_ble_eq_true rfl)) dX6_search_2 ⟨Nat.le_of_ble_eq_true rfl, Nat.le_of_ble_eq_true rfl⟩) (fun _ h => h.trans (isNo_ok (by omega) (by omega))) ?_
  refine kb_if_ne (tgt := 15) hx hb dX6_search_5 (by decide) (fun k_1 => absurd k_1 (by decide)) (fun k_1 => ?_)
  refine lv_iload_n hx hb dX6_search_8 rfl (lv_at hl 2 rfl) ?_
  refine kx_cr (v := bI false) (va_runS (As := [.int (nI j)]) (rest := [.ref (am 0)]) ⟨hx, hb, hml, hown, hts⟩ (m_X6_isNoOrder l dC dI am M (nI j)) (va_cwS 1 hts gX6_search_X6_isNoOrder rfl rfl rfl hdX6_isNoOrder_1.2 ⟨Nat.le_of_ble_eq_true rfl, Nat.le_of_ble_eq_true rfl⟩) hX.preS rfl rfl hl.1 rfl (lv_room (Nat.le_of_ble_eq_true rfl)) dX6_search_9 ⟨Nat.le_of_ble_eq_true rfl, Nat.le_of_ble_eq_true rfl⟩) (fun _ h => h.trans (isNo_ok (by omega) (by omega))) ?_
  refine kb_if_eq (tgt := 19) hx hb dX6_search_12 (by decide) (fun k_2 => ?_) (fun k_2 => absurd k_2 (by decide))
  refine lv_iconst (v := nI 0) hx hb dX6_search_19 (by decide) ?_
  refine lv_iconst (v := nI 1) hx hb dX6_search_20 (by decide) ?_
  refine km_ci (va_runV (As := [.int (nI 0), .int (nI 1)]) (rest := []) ⟨hx, hb, hml, hown, hts⟩ (m_X6_start l dC dI am M false 1 (by omega)) (cwV 2 hts gX6_search_X6_start rfl rfl rfl hdX6_start_2 ⟨Nat.le_of_ble_eq_true rfl, Nat.le_of_ble_eq_true rfl⟩) (hX.preObj) rfl rfl hl.1 rfl (lv_room (Nat.le_of_ble_eq_true rfl)) dX6_search_21 ⟨Nat.le_of_ble_eq_true rfl, Nat.le_of_ble_eq_true rfl⟩) hX (fun _ h => h) (fun r_ S_ H locs hw hX => ?_)
  obtain ⟨rfl, rfl⟩ := hw
  refine kb_if_ne (tgt := 39) hx hb dX6_search_24 (by decide) (fun k_3 => absurd k_3 (by decide)) (fun k_3 => ?_)
  refine lv_aload_n hx hb dX6_search_27 rfl (lv_at hl 0 rfl) ?_
  refine lv_iload_n hx hb dX6_search_28 rfl (lv_at hl 3 rfl) ?_
  refine kx_cr (v := bI false) (va_runS (As := [.int (nI v)]) (rest := [.ref (am 0)]) ⟨hx, hb, hml, hown, hts⟩ (m_X6_isNoValue l dC dI am (mN M (0, M.2.2.2.1, M.2.2.2.2.1, M.2.2.2.2.2)) (nI v)) (va_cwS 1 hts gX6_search_X6_isNoValue rfl rfl rfl hdX6_isNoValue_1.2 ⟨Nat.le_of_ble_eq_true rfl, Nat.le_of_ble_eq_true rfl⟩) hX.preS rfl rfl hl.1 rfl (lv_room (Nat.le_of_ble_eq_true rfl)) dX6_search_29 ⟨Nat.le_of_ble_eq_true rfl, Nat.le_of_ble_eq_true rfl⟩) (fun _ h => h.trans (isNo_ok (by omega) (by omega))) ?_
  refine lv_iconst (v := nI 2) hx hb dX6_search_32 (by decide) ?_
  refine km_ci (va_runV (As := [.int (bI false), .int (nI 2)]) (rest := []) ⟨hx, hb, hml, hown, hts⟩ (m_X6_refuse l dC dI am (mN M (0, M.2.2.2.1, M.2.2.2.2.1, M.2.2.2.2.2)) false 2 (by omega) rfl) (cwV 2 hts gX6_search_X6_refuse rfl rfl rfl hdX6_refuse_2 ⟨Nat.le_of_ble_eq_true rfl, Nat.le_of_ble_eq_true rfl⟩) (hX.preObj) rfl rfl hl.1 rfl (lv_room (Nat.le_of_ble_eq_true rfl)) dX6_search_33 ⟨Nat.le_of_ble_eq_true rfl, Nat.le_of_ble_eq_true rfl⟩) hX (fun _ h => h) (fun r_ S_ H locs hw hX => ?_)
  obtain ⟨rfl, rfl⟩ := hw
  refine kb_if_eq (tgt := 41) hx hb dX6_search_36 (by decide) (fun k_4 => ?_) (fun k_4 => absurd k_4 (by decide))
  refine lv_aload_n hx hb dX6_search_41 rfl (lv_at hl 0 rfl) ?_
  refine lv_iload_n hx hb dX6_search_42 rfl (lv_at hl 1 rfl) ?_
  refine lv_iload_n hx hb dX6_search_43 rfl (lv_at hl 2 rfl) ?_
  refine kx_cr (v := bI (seqB (cM M j) (M.1 i).1 (M.1 i).2.2)) (va_runV (As := [.int (nI i), .int (nI j)]) (rest := []) ⟨hx, hb, hml, hown, hts⟩ (m_X6_isInSequence l dC dI am (mN M (0, M.2.2.2.1, M.2.2.2.2.1, M.2.2.2.2.2)) i j (by omega) (by omega) hI) (cwV 2 hts gX6_search_X6_isInSequence rfl rfl rfl hdX6_isInSequence_2 ⟨Nat.le_of_ble_eq_true rfl, Nat.le_of_ble_eq_true rfl⟩) (hX.preObj) rfl rfl hl.1 rfl (lv_room (Nat.le_of_ble_eq_true rfl)) dX6_search_44 ⟨Nat.le_of_ble_eq_true rfl, Nat.le_of_ble_eq_true rfl⟩) (fun _ h => h) ?_
  refine kb_if_ne (tgt := 55) hx hb dX6_search_47 (by decide) (fun k_5 => ?_) (fun k_5 => ?_)
  · skip
    have hs := k_5
    refine lv_iconst (v := nI 0) hx hb dX6_search_55 (by decide) ?_
    refine lv_istore (lv' := [(4, .int (nI 0)), (0, .ref (am 0)), (1, .int (nI i)), (2, .int (nI j)), (3, .int (nI v))]) hx hb dX6_search_56 hl (by decide) rfl (fun ls hl => ?_)
    refine lv_iconst (v := nI 0) hx hb dX6_search_58 (by decide) ?_
    refine lv_istore (lv' := [(5, .int (nI 0)), (4, .int (nI 0)), (0, .ref (am 0)), (1, .int (nI i)), (2, .int (nI j)), (3, .int (nI v))]) hx hb dX6_search_59 hl (by decide) rfl (fun ls hl => ?_)
    have loop61 : ∀ (fuel : Nat) (q k : Nat) (hk : k ≤ (M.1 i).2.2) (hne : ∀ q, q < k → (cM M j) ((M.1 i).1 q) ≠ (cM M j) v) (hq : q = cntB (fun k => decide ((cM M j) ((M.1 i).1 k) < (cM M j) v)) k) (H : Heap) (locs : List Loc), (M.1 i).2.2 - k < fuel → WM dC dI am (mN M (0, M.2.2.2.1, M.2.2.2.2.1, M.2.2.2.2.2)) [] (AM am) s H locs → ∀ ls : Array Slot, lv_has ls 7 [(0, .ref (am 0)), (1, .int (nI i)), (2, .int (nI j)), (3, .int (nI v)), (4, .int (nI q)), (5, .int (nI k))] → W p l e ({ frames := 3, cells := 0, slots := 0, locals := 70 } : Room) s m ([.ref (am 0), .int (nI i), .int (nI j), .int (nI v)]).toArray below meth c H locs 0 0 (MQ below (va_Qi (fun r M' => (seqB (cM M j) (M.1 i).1 (M.1 i).2.2 = false ∧ r = -9 ∧ M' = refM M) ∨ (seqB (cM M j) (M.1 i).1 (M.1 i).2.2 = true ∧ r = (if ∃ k, k < (M.1 i).2.2 ∧ (cM M j) ((M.1 i).1 k) = (cM M j) v then 16 else nI (cntB (fun k => decide ((cM M j) ((M.1 i).1 k) < (cM M j) v)) (M.1 i).2.2)) ∧ M' = thM M 0)) (PM dC dI am) (AM am)) ([.ref (am 0), .int (nI i), .int (nI j), .int (nI v)]).toArray s 0 0 (AM am)) (F0 m 61 ls []) := by
      intro fuel
      induction fuel with
      | zero => intro q k hk hne hq H locs hf; exact absurd hf (Nat.not_lt_zero _)
      | succ fuel ih61 =>
        intro q k hk hne hq H locs hf hX ls hl
        refine lv_iload hx hb dX6_search_61 (lv_at hl 5 rfl) ?_
        refine lv_aload_n hx hb dX6_search_63 rfl (lv_at hl 0 rfl) ?_
        refine km_gsizes hx hb hts hin6 hown hX (hts (.fieldLink RX6 17 "OrderlatticeModel" "sizes" "[I") (tm 681 (by decide +kernel) rfl)) dX6_search_64 ?_
        refine lv_iload_n hx hb dX6_search_67 rfl (lv_at hl 1 rfl) ?_
        refine km_lz (v := (M.1 i).2.2) hx hb hX (by omega) rfl dX6_search_68 ?_
        refine kn_icmp_ge (tgt := 118) hx hb (by omega) (by omega) dX6_search_69 (by decide) (fun k_6 => ?_) (fun k_6 => ?_)
        · skip
          refine lv_iload hx hb dX6_search_118 (lv_at hl 4 rfl) ?_
          exact W.iret (v := nI q) hx hb hr (fun t9 ht9 hW9 => ⟨⟨_, (mN M (0, M.2.2.2.1, M.2.2.2.2.1, M.2.2.2.2.2)), rfl, (Or.inr ⟨hs, by rw [if_neg (fun ⟨k9, h1, h2⟩ => hne k9 (by omega) h2), hq, show k = (M.1 i).2.2 by omega], rfl⟩), hX.P ht9 hW9⟩, hX.2.2.2.F ht9⟩) hX.2.2.2.2.2 dX6_search_120
        · skip
          refine lv_aload_n hx hb dX6_search_72 rfl (lv_at hl 0 rfl) ?_
          refine lv_iload_n hx hb dX6_search_73 rfl (lv_at hl 2 rfl) ?_
          refine lv_aload_n hx hb dX6_search_74 rfl (lv_at hl 0 rfl) ?_
          refine km_gvalues hx hb hts hin6 hown hX (hts (.fieldLink RX6 11 "OrderlatticeModel" "values" "[[I") (tm 710 (by decide +kernel) rfl)) dX6_search_75 ?_
          refine lv_iload_n hx hb dX6_search_78 rfl (lv_at hl 1 rfl) ?_
          refine km_av hx hb hX (by omega) dX6_search_79 ?_
          refine lv_iload hx hb dX6_search_80 (lv_at hl 5 rfl) ?_
          refine km_lv (v := ((M.1 i).1) k) hx hb hX (by omega) (by omega) rfl dX6_search_82 ?_
          refine lv_iload_n hx hb dX6_search_83 rfl (lv_at hl 3 rfl) ?_
          refine kx_cr (v := cmpI (cM M j (((M.1 i).1) k)) (cM M j v)) (va_runV (As := [.int (nI j), .int (nI (((M.1 i).1) k)), .int (nI v)]) (rest := []) ⟨hx, hb, hml, hown, hts⟩ (m_X6_compareNow l dC dI am (mN M (0, M.2.2.2.1, M.2.2.2.2.1, M.2.2.2.2.2)) j (((M.1 i).1) k) v (by omega) (hI.2 j (by omega)) ((hI.1 i (by omega)).2 _ (by omega)).1 (by omega)) (cwV 3 hts gX6_search_X6_compareNow rfl rfl rfl hdX6_compareNow_3 ⟨Nat.le_of_ble_eq_true rfl, Nat.le_of_ble_eq_true rfl⟩) (hX.preObj) rfl rfl hl.1 rfl (lv_room (Nat.le_of_ble_eq_true rfl)) dX6_search_84 ⟨Nat.le_of_ble_eq_true rfl, Nat.le_of_ble_eq_true rfl⟩) (fun _ h => h) ?_
          refine lv_istore (lv' := [(6, .int (cmpI (cM M j (((M.1 i).1) k)) (cM M j v))), (0, .ref (am 0)), (1, .int (nI i)), (2, .int (nI j)), (3, .int (nI v)), (4, .int (nI q)), (5, .int (nI k))]) hx hb dX6_search_87 hl (by decide) rfl (fun ls hl => ?_)
          refine lv_iload hx hb dX6_search_89 (lv_at hl 0 rfl) ?_
          refine kc_if_ne (tgt := 97) hx hb dX6_search_91 (by decide) (fun k_7 => ?_) (fun k_7 => ?_)
          · skip
            have he := k_7
            refine lv_iload hx hb dX6_search_97 (lv_at hl 5 rfl) ?_
            refine lv_iload hx hb dX6_search_99 (lv_at hl 0 rfl) ?_
            refine kc_if_ge (tgt := 108) hx hb dX6_search_101 (by decide) (fun k_8 => ?_) (fun k_8 => ?_)
            · skip
              have hd := k_8
              refine lv_iconst (v := nI 0) hx hb dX6_search_108 (by decide) ?_
              refine kn_iadd hx hb dX6_search_109 ?_
              refine lv_istore (lv' := [(4, .int (nI (q + 0))), (6, .int (cmpI (cM M j (((M.1 i).1) k)) (cM M j v))), (0, .ref (am 0)), (1, .int (nI i)), (2, .int (nI j)), (3, .int (nI v)), (5, .int (nI k))]) hx hb dX6_search_110 hl (by decide) rfl (fun ls hl => ?_)
              refine lv_iinc (v := nI (k + 1)) (lv' := [(5, .int (nI (k + 1))), (4, .int (nI (q + 0))), (6, .int (cmpI (cM M j (((M.1 i).1) k)) (cM M j v))), (0, .ref (am 0)), (1, .int (nI i)), (2, .int (nI j)), (3, .int (nI v))]) hx hb dX6_search_112 hl (k := 6) rfl (nI_1 k) (by decide) rfl (fun ls hl => ?_)
              refine lv_goto (tgt := 61) hx hb dX6_search_115 (by decide) ?_
              exact ih61  (q + 0) (k + 1) (by omega) (lt_s hne he) (by rw [cntB_f (decide_eq_false (by omega)), hq]; rfl) _ _ (by omega) hX _ (lv_sub hl [3, 4, 5, 6, 1, 0] rfl)
            · skip
              have hd := k_8
              refine lv_iconst (v := nI 1) hx hb dX6_search_104 (by decide) ?_
              refine lv_goto (tgt := 109) hx hb dX6_search_105 (by decide) ?_
              refine kn_iadd hx hb dX6_search_109 ?_
              refine lv_istore (lv' := [(4, .int (nI (q + 1))), (6, .int (cmpI (cM M j (((M.1 i).1) k)) (cM M j v))), (0, .ref (am 0)), (1, .int (nI i)), (2, .int (nI j)), (3, .int (nI v)), (5, .int (nI k))]) hx hb dX6_search_110 hl (by decide) rfl (fun ls hl => ?_)
              refine lv_iinc (v := nI (k + 1)) (lv' := [(5, .int (nI (k + 1))), (4, .int (nI (q + 1))), (6, .int (cmpI (cM M j (((M.1 i).1) k)) (cM M j v))), (0, .ref (am 0)), (1, .int (nI i)), (2, .int (nI j)), (3, .int (nI v))]) hx hb dX6_search_112 hl (k := 6) rfl (nI_1 k) (by decide) rfl (fun ls hl => ?_)
              refine lv_goto (tgt := 61) hx hb dX6_search_115 (by decide) ?_
              exact ih61  (q + 1) (k + 1) (by omega) (lt_s hne he) (by rw [cntB_t (decide_eq_true hd), hq]) _ _ (by omega) hX _ (lv_sub hl [3, 4, 5, 6, 1, 0] rfl)
          · skip
            have he := k_7
            refine lv_bipush (v := nI 16) hx hb dX6_search_94 (by decide) ?_
            exact W.iret (v := nI 16) hx hb hr (fun t9 ht9 hW9 => ⟨⟨_, (mN M (0, M.2.2.2.1, M.2.2.2.2.1, M.2.2.2.2.2)), rfl, (Or.inr ⟨hs, (if_pos ⟨k, by omega, he⟩).symm, rfl⟩), hX.P ht9 hW9⟩, hX.2.2.2.F ht9⟩) hX.2.2.2.2.2 dX6_search_96
    exact loop61 ((M.1 i).2.2 + 1) 0 0 (by omega) (fun q h => absurd h (Nat.not_lt_zero q)) rfl _ _ (by omega) (WM.eqS rfl hX) _ (lv_sub hl [2, 3, 4, 5, 1, 0] rfl)
  · skip
    have hs := k_5
    refine lv_aload_n hx hb dX6_search_50 rfl (lv_at hl 0 rfl) ?_
    refine km_ci (va_runV (As := []) (rest := []) ⟨hx, hb, hml, hown, hts⟩ (m_X6_no l dC dI am (mN M (0, M.2.2.2.1, M.2.2.2.2.1, M.2.2.2.2.2)) ) (cwV 0 hts gX6_search_X6_no rfl rfl rfl hdX6_no_0 ⟨Nat.le_of_ble_eq_true rfl, Nat.le_of_ble_eq_true rfl⟩) (hX.preObj) rfl rfl hl.1 rfl (lv_room (Nat.le_of_ble_eq_true rfl)) dX6_search_51 ⟨Nat.le_of_ble_eq_true rfl, Nat.le_of_ble_eq_true rfl⟩) hX (fun _ h => h) (fun r_ S_ H locs hw hX => ?_)
    obtain ⟨rfl, rfl⟩ := hw
    exact W.iret (v := (-9)) hx hb hr (fun t9 ht9 hW9 => ⟨⟨_, (mN M (0, M.2.2.2.1, M.2.2.2.2.1 + 1, M.2.2.2.2.2)), rfl, (Or.inl ⟨hs, rfl, rfl⟩), hX.P ht9 hW9⟩, hX.2.2.2.F ht9⟩) hX.2.2.2.2.2 dX6_search_54
set_option maxHeartbeats 4000000 in
set_option maxRecDepth 100000 in
theorem m_X6_extreme (l : Launch) (dC : Nat → ClassId) (dI : Nat → Nat → Nat) (am : Nat → Nat) (M : MS) (i : Nat) (j : Nat) (z : Bool) (hi : i < 3) (hj : j < 4) (hI : InvM M) : Met l yX6_extreme wsX6_extreme ({ frames := 4, cells := 0, slots := 0, locals := 94 } : Room) (va_Pc [.ref (am 0), .int (nI i), .int (nI j), .int (bI z)] (PM dC dI am M)) (va_Qi (fun r M' => r = oI (exM (fun k => rankC (cM M j) ((M.1 i).1 k)) z (M.1 i).2.2) ∧ M' = thM M 0) (PM dC dI am) (AM am)) 0 0 (AM am) := by
  refine Met.ofW (cc := cX6_extreme) (maxL := 7) (ret := (some .int)) pl_X6 rfl ?_
  intro p e s m args below meth c s₁ B hml hv
  obtain ⟨rfl, hPX⟩ := hv
  have hx := B.exec
  have hb := B.bytes
  have hr := B.returns
  have hts := atoms_spec (ws := wsX6_extreme) B.pre
  have hown : s.vm.findClass RX6 = some m.cls := findClass_of_methodNamed B.named
  have hlocks := B.notSynchronized
  have hin6 : ∀ w ∈ u_ws RX6 TX6 10, w ∈ wsX6_extreme := tu 1331 (by decide +kernel) rfl
  have hX := WM.of hPX
  have hl := lv_entry ([.ref (am 0), .int (nI i), .int (nI j), .int (bI z)]) (n := 7) (Nat.le_of_ble_eq_true rfl)
  rw [lg_entry_eq]
  generalize (lg_sl ([.ref (am 0), .int (nI i), .int (nI j), .int (bI z)]) ++ List.replicate (7 - (lg_sl ([.ref (am 0), .int (nI i), .int (nI j), .int (bI z)])).length) Slot.unset).toArray = ls at hl ⊢
  have hl : lv_has ls 7 [(0, .ref (am 0)), (1, .int (nI i)), (2, .int (nI j)), (3, .int (bI z))] := hl
  show W p l e ({ frames := 4, cells := 0, slots := 0, locals := 94 } : Room) s m ([.ref (am 0), .int (nI i), .int (nI j), .int (bI z)]).toArray below meth c s.heap [] 0 0 (MQ below (va_Qi (fun r M' => r = oI (exM (fun k => rankC (cM M j) ((M.1 i).1 k)) z (M.1 i).2.2) ∧ M' = thM M 0) (PM dC dI am) (AM am)) ([.ref (am 0), .int (nI i), .int (nI j), .int (bI z)]).toArray s 0 0 (AM am)) (F0 m 0 ls [])
  have hn := (hI.1 i (by omega)).1
  refine lv_aload_n hx hb dX6_extreme_0 rfl (lv_at hl 0 rfl) ?_
  refine lv_iload_n hx hb dX6_extreme_1 rfl (lv_at hl 1 rfl) ?_
  refine kx_cr (v := bI false) (va_runS (As := [.int (nI i)]) (rest := [.ref (am 0)]) ⟨hx, hb, hml, hown, hts⟩ (m_X6_isNoRow l dC dI am M (nI i)) (va_cwS 1 hts gX6_extreme_X6_isNoRow rfl rfl rfl hdX6_isNoRow_1.2 ⟨Nat.le_of_ble_eq_true rfl, Nat.le_of_ble_eq_true rfl⟩) hX.preS rfl rfl hl.1 rfl (lv_room (Nat.le_of_ble_eq_true rfl)) dX6_extreme_2 ⟨Nat.le_of_ble_eq_true rfl, Nat.le_of_ble_eq_true rfl⟩) (fun _ h => h.trans (isNo_ok (by omega) (by omega))) ?_
  refine kb_if_ne (tgt := 15) hx hb dX6_extreme_5 (by decide) (fun k_1 => absurd k_1 (by decide)) (fun k_1 => ?_)
  refine lv_iload_n hx hb dX6_extreme_8 rfl (lv_at hl 2 rfl) ?_
  refine kx_cr (v := bI false) (va_runS (As := [.int (nI j)]) (rest := [.ref (am 0)]) ⟨hx, hb, hml, hown, hts⟩ (m_X6_isNoOrder l dC dI am M (nI j)) (va_cwS 1 hts gX6_extreme_X6_isNoOrder rfl rfl rfl hdX6_isNoOrder_1.2 ⟨Nat.le_of_ble_eq_true rfl, Nat.le_of_ble_eq_true rfl⟩) hX.preS rfl rfl hl.1 rfl (lv_room (Nat.le_of_ble_eq_true rfl)) dX6_extreme_9 ⟨Nat.le_of_ble_eq_true rfl, Nat.le_of_ble_eq_true rfl⟩) (fun _ h => h.trans (isNo_ok (by omega) (by omega))) ?_
  refine kb_if_eq (tgt := 19) hx hb dX6_extreme_12 (by decide) (fun k_2 => ?_) (fun k_2 => absurd k_2 (by decide))
  refine lv_iconst (v := nI 0) hx hb dX6_extreme_19 (by decide) ?_
  refine lv_iconst (v := nI 1) hx hb dX6_extreme_20 (by decide) ?_
  refine km_ci (va_runV (As := [.int (nI 0), .int (nI 1)]) (rest := []) ⟨hx, hb, hml, hown, hts⟩ (m_X6_start l dC dI am M false 1 (by omega)) (cwV 2 hts gX6_extreme_X6_start rfl rfl rfl hdX6_start_2 ⟨Nat.le_of_ble_eq_true rfl, Nat.le_of_ble_eq_true rfl⟩) (hX.preObj) rfl rfl hl.1 rfl (lv_room (Nat.le_of_ble_eq_true rfl)) dX6_extreme_21 ⟨Nat.le_of_ble_eq_true rfl, Nat.le_of_ble_eq_true rfl⟩) hX (fun _ h => h) (fun r_ S_ H locs hw hX => ?_)
  obtain ⟨rfl, rfl⟩ := hw
  refine kb_if_eq (tgt := 29) hx hb dX6_extreme_24 (by decide) (fun k_3 => ?_) (fun k_3 => absurd k_3 (by decide))
  refine lv_iconst (v := (-1)) hx hb dX6_extreme_29 (by decide) ?_
  refine lv_istore (lv' := [(4, .int (-1)), (0, .ref (am 0)), (1, .int (nI i)), (2, .int (nI j)), (3, .int (bI z))]) hx hb dX6_extreme_30 hl (by decide) rfl (fun ls hl => ?_)
  refine lv_iconst (v := nI 0) hx hb dX6_extreme_32 (by decide) ?_
  refine lv_istore (lv' := [(5, .int (nI 0)), (4, .int (-1)), (0, .ref (am 0)), (1, .int (nI i)), (2, .int (nI j)), (3, .int (bI z))]) hx hb dX6_extreme_33 hl (by decide) rfl (fun ls hl => ?_)
  have loop35 : ∀ (fuel : Nat) (o : Option Nat) (k : Nat) (hk : k ≤ (M.1 i).2.2) (hq : o = exM (fun k => rankC (cM M j) ((M.1 i).1 k)) z k) (H : Heap) (locs : List Loc), (M.1 i).2.2 - k < fuel → WM dC dI am (mN M (0, M.2.2.2.1, M.2.2.2.2.1, M.2.2.2.2.2)) [] (AM am) s H locs → ∀ ls : Array Slot, lv_has ls 7 [(0, .ref (am 0)), (1, .int (nI i)), (2, .int (nI j)), (3, .int (bI z)), (4, .int (oI o)), (5, .int (nI k))] → W p l e ({ frames := 4, cells := 0, slots := 0, locals := 94 } : Room) s m ([.ref (am 0), .int (nI i), .int (nI j), .int (bI z)]).toArray below meth c H locs 0 0 (MQ below (va_Qi (fun r M' => r = oI (exM (fun k => rankC (cM M j) ((M.1 i).1 k)) z (M.1 i).2.2) ∧ M' = thM M 0) (PM dC dI am) (AM am)) ([.ref (am 0), .int (nI i), .int (nI j), .int (bI z)]).toArray s 0 0 (AM am)) (F0 m 35 ls []) := by
    intro fuel
    induction fuel with
    | zero => intro o k hk hq H locs hf; exact absurd hf (Nat.not_lt_zero _)
    | succ fuel ih35 =>
      intro o k hk hq H locs hf hX ls hl
      refine lv_iload hx hb dX6_extreme_35 (lv_at hl 5 rfl) ?_
      refine lv_aload_n hx hb dX6_extreme_37 rfl (lv_at hl 0 rfl) ?_
      refine km_gsizes hx hb hts hin6 hown hX (hts (.fieldLink RX6 17 "OrderlatticeModel" "sizes" "[I") (tm 681 (by decide +kernel) rfl)) dX6_extreme_38 ?_
      refine lv_iload_n hx hb dX6_extreme_41 rfl (lv_at hl 1 rfl) ?_
      refine km_lz (v := (M.1 i).2.2) hx hb hX (by omega) rfl dX6_extreme_42 ?_
      refine kn_icmp_ge (tgt := 99) hx hb (by omega) (by omega) dX6_extreme_43 (by decide) (fun k_4 => ?_) (fun k_4 => ?_)
      · skip
        refine lv_iload hx hb dX6_extreme_99 (lv_at hl 4 rfl) ?_
        exact W.iret (v := (oI o)) hx hb hr (fun t9 ht9 hW9 => ⟨⟨_, (mN M (0, M.2.2.2.1, M.2.2.2.2.1, M.2.2.2.2.2)), rfl, ⟨by rw [hq, show k = (M.1 i).2.2 by omega], rfl⟩, hX.P ht9 hW9⟩, hX.2.2.2.F ht9⟩) hX.2.2.2.2.2 dX6_extreme_101
      · skip
        have hv9 := ((hI.1 i (by omega)).2 k (by omega)).1
        have hr9 := rankC_le (cM M j) ((M.1 i).1 k)
        refine lv_aload_n hx hb dX6_extreme_46 rfl (lv_at hl 0 rfl) ?_
        refine lv_iload_n hx hb dX6_extreme_47 rfl (lv_at hl 2 rfl) ?_
        refine lv_aload_n hx hb dX6_extreme_48 rfl (lv_at hl 0 rfl) ?_
        refine km_gvalues hx hb hts hin6 hown hX (hts (.fieldLink RX6 11 "OrderlatticeModel" "values" "[[I") (tm 710 (by decide +kernel) rfl)) dX6_extreme_49 ?_
        refine lv_iload_n hx hb dX6_extreme_52 rfl (lv_at hl 1 rfl) ?_
        refine km_av hx hb hX (by omega) dX6_extreme_53 ?_
        refine lv_iload hx hb dX6_extreme_54 (lv_at hl 5 rfl) ?_
        refine km_lv (v := ((M.1 i).1) k) hx hb hX (by omega) (by omega) rfl dX6_extreme_56 ?_
        refine kx_cr (v := nI (rankC (cM M j) (((M.1 i).1) k))) (va_runV (As := [.int (nI j), .int (nI (((M.1 i).1) k))]) (rest := []) ⟨hx, hb, hml, hown, hts⟩ (m_X6_rankNow l dC dI am (mN M (0, M.2.2.2.1, M.2.2.2.2.1, M.2.2.2.2.2)) j (((M.1 i).1) k) (by omega) (hI.2 j (by omega)) hv9) (cwV 2 hts gX6_extreme_X6_rankNow rfl rfl rfl hdX6_rankNow_2 ⟨Nat.le_of_ble_eq_true rfl, Nat.le_of_ble_eq_true rfl⟩) (hX.preObj) rfl rfl hl.1 rfl (lv_room (Nat.le_of_ble_eq_true rfl)) dX6_extreme_57 ⟨Nat.le_of_ble_eq_true rfl, Nat.le_of_ble_eq_true rfl⟩) (fun _ h => h) ?_
        refine lv_istore (lv' := [(6, .int (nI (rankC (cM M j) (((M.1 i).1) k)))), (0, .ref (am 0)), (1, .int (nI i)), (2, .int (nI j)), (3, .int (bI z)), (4, .int (oI o)), (5, .int (nI k))]) hx hb dX6_extreme_60 hl (by decide) rfl (fun ls hl => ?_)
        rcases o with _ | bb
        · skip
          refine lv_iload hx hb dX6_extreme_62 (lv_at hl 5 rfl) ?_
          refine lv_iconst (v := (-1)) hx hb dX6_extreme_64 (by decide) ?_
          refine lv_icmp_eq (tgt := 89) hx hb dX6_extreme_65 (by decide) (fun k_5 => ?_) (fun k_5 => absurd rfl k_5)
          refine lv_iload hx hb dX6_extreme_89 (lv_at hl 0 rfl) ?_
          refine lv_istore (lv' := [(4, .int (nI (rankC (cM M j) (((M.1 i).1) k)))), (6, .int (nI (rankC (cM M j) (((M.1 i).1) k)))), (0, .ref (am 0)), (1, .int (nI i)), (2, .int (nI j)), (3, .int (bI z)), (5, .int (nI k))]) hx hb dX6_extreme_91 hl (by decide) rfl (fun ls hl => ?_)
          refine lv_iinc (v := nI (k + 1)) (lv' := [(5, .int (nI (k + 1))), (4, .int (nI (rankC (cM M j) (((M.1 i).1) k)))), (6, .int (nI (rankC (cM M j) (((M.1 i).1) k)))), (0, .ref (am 0)), (1, .int (nI i)), (2, .int (nI j)), (3, .int (bI z))]) hx hb dX6_extreme_93 hl (k := 6) rfl (nI_1 k) (by decide) rfl (fun ls hl => ?_)
          refine lv_goto (tgt := 35) hx hb dX6_extreme_96 (by decide) ?_
          exact ih35  (some (rankC (cM M j) (((M.1 i).1) k))) (k + 1) (by omega) (exM_n hq.symm).symm _ _ (by omega) hX _ (lv_sub hl [3, 4, 5, 6, 1, 0] rfl)
        · skip
          have hbb := exM_lt (m := 17) (fun k9 _ => Nat.lt_succ_of_le (rankC_le (cM M j) ((M.1 i).1 k9))) hq.symm
          have hl : lv_has ls 7 [(6, .int (nI (rankC (cM M j) (((M.1 i).1) k)))), (0, .ref (am 0)), (1, .int (nI i)), (2, .int (nI j)), (3, .int (bI z)), (4, .int (nI bb)), (5, .int (nI k))] := hl
          refine lv_iload hx hb dX6_extreme_62 (lv_at hl 5 rfl) ?_
          refine lv_iconst (v := (-1)) hx hb dX6_extreme_64 (by decide) ?_
          refine lv_icmp_eq (tgt := 89) hx hb dX6_extreme_65 (by decide) (fun k_6 => absurd k_6 (nI_nm1 (by omega))) (fun k_6 => ?_)
          refine lv_iload_n hx hb dX6_extreme_68 rfl (lv_at hl 4 rfl) ?_
          refine kb_if_eq (tgt := 82) hx hb dX6_extreme_69 (by decide) (fun k_7 => ?_) (fun k_7 => ?_)
          · skip
            have hz := k_7
            refine lv_iload hx hb dX6_extreme_82 (lv_at hl 0 rfl) ?_
            refine lv_iload hx hb dX6_extreme_84 (lv_at hl 5 rfl) ?_
            refine kn_icmp_ge (tgt := 93) hx hb (by omega) (by omega) dX6_extreme_86 (by decide) (fun k_8 => ?_) (fun k_8 => ?_)
            · skip
              have hx1 := k_8
              refine lv_iinc (v := nI (k + 1)) (lv' := [(5, .int (nI (k + 1))), (6, .int (nI (rankC (cM M j) (((M.1 i).1) k)))), (0, .ref (am 0)), (1, .int (nI i)), (2, .int (nI j)), (3, .int (bI z)), (4, .int (nI bb))]) hx hb dX6_extreme_93 hl (k := 6) rfl (nI_1 k) (by decide) rfl (fun ls hl => ?_)
              refine lv_goto (tgt := 35) hx hb dX6_extreme_96 (by decide) ?_
              exact ih35  (some bb) (k + 1) (by omega) (exM_f hq.symm (by rw [hz]; exact decide_eq_false (by omega))).symm _ _ (by omega) hX _ (lv_sub hl [2, 3, 4, 5, 6, 0] rfl)
            · skip
              have hx1 := k_8
              refine lv_iload hx hb dX6_extreme_89 (lv_at hl 0 rfl) ?_
              refine lv_istore (lv' := [(4, .int (nI (rankC (cM M j) (((M.1 i).1) k)))), (6, .int (nI (rankC (cM M j) (((M.1 i).1) k)))), (0, .ref (am 0)), (1, .int (nI i)), (2, .int (nI j)), (3, .int (bI z)), (5, .int (nI k))]) hx hb dX6_extreme_91 hl (by decide) rfl (fun ls hl => ?_)
              refine lv_iinc (v := nI (k + 1)) (lv' := [(5, .int (nI (k + 1))), (4, .int (nI (rankC (cM M j) (((M.1 i).1) k)))), (6, .int (nI (rankC (cM M j) (((M.1 i).1) k)))), (0, .ref (am 0)), (1, .int (nI i)), (2, .int (nI j)), (3, .int (bI z))]) hx hb dX6_extreme_93 hl (k := 6) rfl (nI_1 k) (by decide) rfl (fun ls hl => ?_)
              refine lv_goto (tgt := 35) hx hb dX6_extreme_96 (by decide) ?_
              exact ih35  (some (rankC (cM M j) (((M.1 i).1) k))) (k + 1) (by omega) (exM_t hq.symm (by rw [hz]; exact decide_eq_true hx1)).symm _ _ (by omega) hX _ (lv_sub hl [3, 4, 5, 6, 1, 0] rfl)
          · skip
            have hz := k_7
            refine lv_iload hx hb dX6_extreme_72 (lv_at hl 0 rfl) ?_
            refine lv_iload hx hb dX6_extreme_74 (lv_at hl 5 rfl) ?_
            refine kn_icmp_le (tgt := 93) hx hb (by omega) (by omega) dX6_extreme_76 (by decide) (fun k_9 => ?_) (fun k_9 => ?_)
            · skip
              have hx1 := k_9
              refine lv_iinc (v := nI (k + 1)) (lv' := [(5, .int (nI (k + 1))), (6, .int (nI (rankC (cM M j) (((M.1 i).1) k)))), (0, .ref (am 0)), (1, .int (nI i)), (2, .int (nI j)), (3, .int (bI z)), (4, .int (nI bb))]) hx hb dX6_extreme_93 hl (k := 6) rfl (nI_1 k) (by decide) rfl (fun ls hl => ?_)
              refine lv_goto (tgt := 35) hx hb dX6_extreme_96 (by decide) ?_
              exact ih35  (some bb) (k + 1) (by omega) (exM_f hq.symm (by rw [hz]; exact decide_eq_false (by omega))).symm _ _ (by omega) hX _ (lv_sub hl [2, 3, 4, 5, 6, 0] rfl)
            · skip
              have hx1 := k_9
              refine lv_goto (tgt := 89) hx hb dX6_extreme_79 (by decide) ?_
              refine lv_iload hx hb dX6_extreme_89 (lv_at hl 0 rfl) ?_
              refine lv_istore (lv' := [(4, .int (nI (rankC (cM M j) (((M.1 i).1) k)))), (6, .int (nI (rankC (cM M j) (((M.1 i).1) k)))), (0, .ref (am 0)), (1, .int (nI i)), (2, .int (nI j)), (3, .int (bI z)), (5, .int (nI k))]) hx hb dX6_extreme_91 hl (by decide) rfl (fun ls hl => ?_)
              refine lv_iinc (v := nI (k + 1)) (lv' := [(5, .int (nI (k + 1))), (4, .int (nI (rankC (cM M j) (((M.1 i).1) k)))), (6, .int (nI (rankC (cM M j) (((M.1 i).1) k)))), (0, .ref (am 0)), (1, .int (nI i)), (2, .int (nI j)), (3, .int (bI z))]) hx hb dX6_extreme_93 hl (k := 6) rfl (nI_1 k) (by decide) rfl (fun ls hl => ?_)
              refine lv_goto (tgt := 35) hx hb dX6_extreme_96 (by decide) ?_
              exact ih35  (some (rankC (cM M j) (((M.1 i).1) k))) (k + 1) (by omega) (exM_t hq.symm (by rw [hz]; exact decide_eq_true hx1)).symm _ _ (by omega) hX _ (lv_sub hl [3, 4, 5, 6, 1, 0] rfl)
  exact loop35 ((M.1 i).2.2 + 1) none 0 (by omega) rfl _ _ (by omega) (WM.eqS rfl hX) _ (lv_sub hl [2, 3, 4, 5, 1, 0] rfl)
set_option maxHeartbeats 4000000 in
set_option maxRecDepth 100000 in
theorem o_X6_isSorted_1 (l : Launch) (dC : Nat → ClassId) (dI : Nat → Nat → Nat) (am : Nat → Nat) (M : MS) (x9 : Int32) (y1 : Int32) (hb9 : x9 < 0 ∨ nI 3 ≤ x9) (hI : InvM M) : Met l yX6_isSorted wsX6_isSorted ({ frames := 3, cells := 0, slots := 0, locals := 70 } : Room) (va_Pc [.ref (am 0), .int x9, .int y1] (PM dC dI am M)) (va_Qi (fun r M' => M' = thM M 1) (PM dC dI am) (AM am)) 0 0 (AM am) := by
  refine Met.ofW (cc := cX6_isSorted) (maxL := 3) (ret := (some .boolean)) pl_X6 rfl ?_
  intro p e s m args below meth c s₁ B hml hv
  obtain ⟨rfl, hPX⟩ := hv
  have hx := B.exec
  have hb := B.bytes
  have hr := B.returns
  have hts := atoms_spec (ws := wsX6_isSorted) B.pre
  have hown : s.vm.findClass RX6 = some m.cls := findClass_of_methodNamed B.named
  have hlocks := B.notSynchronized
  have hX := WM.of hPX
  have hl := lv_entry ([.ref (am 0), .int x9, .int y1]) (n := 3) (Nat.le_of_ble_eq_true rfl)
  rw [lg_entry_eq]
  generalize (lg_sl ([.ref (am 0), .int x9, .int y1]) ++ List.replicate (3 - (lg_sl ([.ref (am 0), .int x9, .int y1])).length) Slot.unset).toArray = ls at hl ⊢
  have hl : lv_has ls 3 [(0, .ref (am 0)), (1, .int x9), (2, .int y1)] := hl
  show W p l e ({ frames := 3, cells := 0, slots := 0, locals := 70 } : Room) s m ([.ref (am 0), .int x9, .int y1]).toArray below meth c s.heap [] 0 0 (MQ below (va_Qi (fun r M' => M' = thM M 1) (PM dC dI am) (AM am)) ([.ref (am 0), .int x9, .int y1]).toArray s 0 0 (AM am)) (F0 m 0 ls [])
  refine lv_aload_n hx hb dX6_isSorted_0 rfl (lv_at hl 0 rfl) ?_
  refine lv_iload_n hx hb dX6_isSorted_1 rfl (lv_at hl 1 rfl) ?_
  refine kx_cr (v := bI true) (va_runS (As := [.int x9]) (rest := [.ref (am 0)]) ⟨hx, hb, hml, hown, hts⟩ (m_X6_isNoRow l dC dI am M x9) (va_cwS 1 hts gX6_isSorted_X6_isNoRow rfl rfl rfl hdX6_isNoRow_1.2 ⟨Nat.le_of_ble_eq_true rfl, Nat.le_of_ble_eq_true rfl⟩) hX.preS rfl rfl hl.1 rfl (lv_room (Nat.le_of_ble_eq_true rfl)) dX6_isSorted_2 ⟨Nat.le_of_ble_eq_true rfl, Nat.le_of_ble_eq_true rfl⟩) (fun _ h => h.trans (isNo_bad (isNo_r hb9))) ?_
  refine kb_if_ne (tgt := 15) hx hb dX6_isSorted_5 (by decide) (fun k_1 => ?_) (fun k_1 => absurd k_1 (by decide))
  refine lv_iconst (v := nI 1) hx hb dX6_isSorted_15 (by decide) ?_
  refine lv_goto (tgt := 20) hx hb dX6_isSorted_16 (by decide) ?_
  refine lv_iconst (v := nI 1) hx hb dX6_isSorted_20 (by decide) ?_
  refine km_ci (va_runV (As := [.int (nI 1), .int (nI 1)]) (rest := []) ⟨hx, hb, hml, hown, hts⟩ (m_X6_start l dC dI am M true 1 (by omega)) (cwV 2 hts gX6_isSorted_X6_start rfl rfl rfl hdX6_start_2 ⟨Nat.le_of_ble_eq_true rfl, Nat.le_of_ble_eq_true rfl⟩) (hX.preObj) rfl rfl hl.1 rfl (lv_room (Nat.le_of_ble_eq_true rfl)) dX6_isSorted_21 ⟨Nat.le_of_ble_eq_true rfl, Nat.le_of_ble_eq_true rfl⟩) hX (fun _ h => h) (fun r_ S_ H locs hw hX => ?_)
  obtain ⟨rfl, rfl⟩ := hw
  refine kb_if_ne (tgt := 40) hx hb dX6_isSorted_24 (by decide) (fun k_2 => ?_) (fun k_2 => absurd k_2 (by decide))
  refine lv_iconst (v := nI 0) hx hb dX6_isSorted_40 (by decide) ?_
  exact W.zret (v := bI false) hx hb hr (bI_narrow _) (fun t9 ht9 hW9 => ⟨⟨_, (mN M (1, M.2.2.2.1, M.2.2.2.2.1, M.2.2.2.2.2)), rfl, rfl, hX.P ht9 hW9⟩, hX.2.2.2.F ht9⟩) hX.2.2.2.2.2 dX6_isSorted_41
set_option maxHeartbeats 4000000 in
set_option maxRecDepth 100000 in
theorem o_X6_isSorted_2 (l : Launch) (dC : Nat → ClassId) (dI : Nat → Nat → Nat) (am : Nat → Nat) (M : MS) (i : Nat) (x9 : Int32) (hi : i < 3) (hb9 : x9 < 0 ∨ nI 4 ≤ x9) (hI : InvM M) : Met l yX6_isSorted wsX6_isSorted ({ frames := 3, cells := 0, slots := 0, locals := 70 } : Room) (va_Pc [.ref (am 0), .int (nI i), .int x9] (PM dC dI am M)) (va_Qi (fun r M' => M' = thM M 1) (PM dC dI am) (AM am)) 0 0 (AM am) := by
  refine Met.ofW (cc := cX6_isSorted) (maxL := 3) (ret := (some .boolean)) pl_X6 rfl ?_
  intro p e s m args below meth c s₁ B hml hv
  obtain ⟨rfl, hPX⟩ := hv
  have hx := B.exec
  have hb := B.bytes
  have hr := B.returns
  have hts := atoms_spec (ws := wsX6_isSorted) B.pre
  have hown : s.vm.findClass RX6 = some m.cls := findClass_of_methodNamed B.named
  have hlocks := B.notSynchronized
  have hX := WM.of hPX
  have hl := lv_entry ([.ref (am 0), .int (nI i), .int x9]) (n := 3) (Nat.le_of_ble_eq_true rfl)
  rw [lg_entry_eq]
  generalize (lg_sl ([.ref (am 0), .int (nI i), .int x9]) ++ List.replicate (3 - (lg_sl ([.ref (am 0), .int (nI i), .int x9])).length) Slot.unset).toArray = ls at hl ⊢
  have hl : lv_has ls 3 [(0, .ref (am 0)), (1, .int (nI i)), (2, .int x9)] := hl
  show W p l e ({ frames := 3, cells := 0, slots := 0, locals := 70 } : Room) s m ([.ref (am 0), .int (nI i), .int x9]).toArray below meth c s.heap [] 0 0 (MQ below (va_Qi (fun r M' => M' = thM M 1) (PM dC dI am) (AM am)) ([.ref (am 0), .int (nI i), .int x9]).toArray s 0 0 (AM am)) (F0 m 0 ls [])
  refine lv_aload_n hx hb dX6_isSorted_0 rfl (lv_at hl 0 rfl) ?_
  refine lv_iload_n hx hb dX6_isSorted_1 rfl (lv_at hl 1 rfl) ?_
  refine kx_cr (v := bI false) (va_runS (As := [.int (nI i)]) (rest := [.ref (am 0)]) ⟨hx, hb, hml, hown, hts⟩ (m_X6_isNoRow l dC dI am M (nI i)) (va_cwS 1 hts gX6_isSorted_X6_isNoRow rfl rfl rfl hdX6_isNoRow_1.2 ⟨Nat.le_of_ble_eq_true rfl, Nat.le_of_ble_eq_true rfl⟩) hX.preS rfl rfl hl.1 rfl (lv_room (Nat.le_of_ble_eq_true rfl)) dX6_isSorted_2 ⟨Nat.le_of_ble_eq_true rfl, Nat.le_of_ble_eq_true rfl⟩) (fun _ h => h.trans (isNo_ok (by omega) (by omega))) ?_
  refine kb_if_ne (tgt := 15) hx hb dX6_isSorted_5 (by decide) (fun k_1 => absurd k_1 (by decide)) (fun k_1 => ?_)
  refine lv_iload_n hx hb dX6_isSorted_8 rfl (lv_at hl 2 rfl) ?_
  refine kx_cr (v := bI true) (va_runS (As := [.int x9]) (rest := [.ref (am 0)]) ⟨hx, hb, hml, hown, hts⟩ (m_X6_isNoOrder l dC dI am M x9) (va_cwS 1 hts gX6_isSorted_X6_isNoOrder rfl rfl rfl hdX6_isNoOrder_1.2 ⟨Nat.le_of_ble_eq_true rfl, Nat.le_of_ble_eq_true rfl⟩) hX.preS rfl rfl hl.1 rfl (lv_room (Nat.le_of_ble_eq_true rfl)) dX6_isSorted_9 ⟨Nat.le_of_ble_eq_true rfl, Nat.le_of_ble_eq_true rfl⟩) (fun _ h => h.trans (isNo_bad (isNo_o hb9))) ?_
  refine kb_if_eq (tgt := 19) hx hb dX6_isSorted_12 (by decide) (fun k_2 => absurd k_2 (by decide)) (fun k_2 => ?_)
  refine lv_iconst (v := nI 1) hx hb dX6_isSorted_15 (by decide) ?_
  refine lv_goto (tgt := 20) hx hb dX6_isSorted_16 (by decide) ?_
  refine lv_iconst (v := nI 1) hx hb dX6_isSorted_20 (by decide) ?_
  refine km_ci (va_runV (As := [.int (nI 1), .int (nI 1)]) (rest := []) ⟨hx, hb, hml, hown, hts⟩ (m_X6_start l dC dI am M true 1 (by omega)) (cwV 2 hts gX6_isSorted_X6_start rfl rfl rfl hdX6_start_2 ⟨Nat.le_of_ble_eq_true rfl, Nat.le_of_ble_eq_true rfl⟩) (hX.preObj) rfl rfl hl.1 rfl (lv_room (Nat.le_of_ble_eq_true rfl)) dX6_isSorted_21 ⟨Nat.le_of_ble_eq_true rfl, Nat.le_of_ble_eq_true rfl⟩) hX (fun _ h => h) (fun r_ S_ H locs hw hX => ?_)
  obtain ⟨rfl, rfl⟩ := hw
  refine kb_if_ne (tgt := 40) hx hb dX6_isSorted_24 (by decide) (fun k_3 => ?_) (fun k_3 => absurd k_3 (by decide))
  refine lv_iconst (v := nI 0) hx hb dX6_isSorted_40 (by decide) ?_
  exact W.zret (v := bI false) hx hb hr (bI_narrow _) (fun t9 ht9 hW9 => ⟨⟨_, (mN M (1, M.2.2.2.1, M.2.2.2.2.1, M.2.2.2.2.2)), rfl, rfl, hX.P ht9 hW9⟩, hX.2.2.2.F ht9⟩) hX.2.2.2.2.2 dX6_isSorted_41
set_option maxHeartbeats 4000000 in
set_option maxRecDepth 100000 in
theorem o_X6_size_1 (l : Launch) (dC : Nat → ClassId) (dI : Nat → Nat → Nat) (am : Nat → Nat) (M : MS) (x9 : Int32) (hb9 : x9 < 0 ∨ nI 3 ≤ x9) (hI : InvM M) : Met l yX6_size wsX6_size ({ frames := 2, cells := 0, slots := 0, locals := 44 } : Room) (va_Pc [.ref (am 0), .int x9] (PM dC dI am M)) (va_Qi (fun r M' => M' = thM M 1) (PM dC dI am) (AM am)) 0 0 (AM am) := by
  refine Met.ofW (cc := cX6_size) (maxL := 2) (ret := (some .int)) pl_X6 rfl ?_
  intro p e s m args below meth c s₁ B hml hv
  obtain ⟨rfl, hPX⟩ := hv
  have hx := B.exec
  have hb := B.bytes
  have hr := B.returns
  have hts := atoms_spec (ws := wsX6_size) B.pre
  have hown : s.vm.findClass RX6 = some m.cls := findClass_of_methodNamed B.named
  have hlocks := B.notSynchronized
  have hin6 : ∀ w ∈ u_ws RX6 TX6 10, w ∈ wsX6_size := tu 1331 (by decide +kernel) rfl
  have hX := WM.of hPX
  have hl := lv_entry ([.ref (am 0), .int x9]) (n := 2) (Nat.le_of_ble_eq_true rfl)
  rw [lg_entry_eq]
  generalize (lg_sl ([.ref (am 0), .int x9]) ++ List.replicate (2 - (lg_sl ([.ref (am 0), .int x9])).length) Slot.unset).toArray = ls at hl ⊢
  have hl : lv_has ls 2 [(0, .ref (am 0)), (1, .int x9)] := hl
  show W p l e ({ frames := 2, cells := 0, slots := 0, locals := 44 } : Room) s m ([.ref (am 0), .int x9]).toArray below meth c s.heap [] 0 0 (MQ below (va_Qi (fun r M' => M' = thM M 1) (PM dC dI am) (AM am)) ([.ref (am 0), .int x9]).toArray s 0 0 (AM am)) (F0 m 0 ls [])
  refine lv_aload_n hx hb dX6_size_0 rfl (lv_at hl 0 rfl) ?_
  refine lv_iload_n hx hb dX6_size_1 rfl (lv_at hl 1 rfl) ?_
  refine kx_cr (v := bI true) (va_runS (As := [.int x9]) (rest := [.ref (am 0)]) ⟨hx, hb, hml, hown, hts⟩ (m_X6_isNoRow l dC dI am M x9) (va_cwS 1 hts gX6_size_X6_isNoRow rfl rfl rfl hdX6_isNoRow_1.2 ⟨Nat.le_of_ble_eq_true rfl, Nat.le_of_ble_eq_true rfl⟩) hX.preS rfl rfl hl.1 rfl (lv_room (Nat.le_of_ble_eq_true rfl)) dX6_size_2 ⟨Nat.le_of_ble_eq_true rfl, Nat.le_of_ble_eq_true rfl⟩) (fun _ h => h.trans (isNo_bad (isNo_r hb9))) ?_
  refine lv_iconst (v := nI 1) hx hb dX6_size_5 (by decide) ?_
  refine km_ci (va_runV (As := [.int (bI true), .int (nI 1)]) (rest := []) ⟨hx, hb, hml, hown, hts⟩ (m_X6_start l dC dI am M true 1 (by omega)) (cwV 2 hts gX6_size_X6_start rfl rfl rfl hdX6_start_2 ⟨Nat.le_of_ble_eq_true rfl, Nat.le_of_ble_eq_true rfl⟩) (hX.preObj) rfl rfl hl.1 rfl (lv_room (Nat.le_of_ble_eq_true rfl)) dX6_size_6 ⟨Nat.le_of_ble_eq_true rfl, Nat.le_of_ble_eq_true rfl⟩) hX (fun _ h => h) (fun r_ S_ H locs hw hX => ?_)
  obtain ⟨rfl, rfl⟩ := hw
  refine kb_if_eq (tgt := 16) hx hb dX6_size_9 (by decide) (fun k_1 => absurd k_1 (by decide)) (fun k_1 => ?_)
  refine lv_iconst (v := nI 0) hx hb dX6_size_12 (by decide) ?_
  refine lv_goto (tgt := 22) hx hb dX6_size_13 (by decide) ?_
  exact W.iret (v := nI 0) hx hb hr (fun t9 ht9 hW9 => ⟨⟨_, (mN M (1, M.2.2.2.1, M.2.2.2.2.1, M.2.2.2.2.2)), rfl, rfl, hX.P ht9 hW9⟩, hX.2.2.2.F ht9⟩) hX.2.2.2.2.2 dX6_size_22
set_option maxHeartbeats 4000000 in
set_option maxRecDepth 100000 in
theorem o_X6_valueAt_1 (l : Launch) (dC : Nat → ClassId) (dI : Nat → Nat → Nat) (am : Nat → Nat) (M : MS) (x9 : Int32) (y1 : Int32) (hb9 : x9 < 0 ∨ nI 3 ≤ x9) (hI : InvM M) : Met l yX6_valueAt wsX6_valueAt ({ frames := 2, cells := 0, slots := 0, locals := 44 } : Room) (va_Pc [.ref (am 0), .int x9, .int y1] (PM dC dI am M)) (va_Qi (fun r M' => M' = thM M 1) (PM dC dI am) (AM am)) 0 0 (AM am) := by
  refine Met.ofW (cc := cX6_valueAt) (maxL := 3) (ret := (some .int)) pl_X6 rfl ?_
  intro p e s m args below meth c s₁ B hml hv
  obtain ⟨rfl, hPX⟩ := hv
  have hx := B.exec
  have hb := B.bytes
  have hr := B.returns
  have hts := atoms_spec (ws := wsX6_valueAt) B.pre
  have hown : s.vm.findClass RX6 = some m.cls := findClass_of_methodNamed B.named
  have hlocks := B.notSynchronized
  have hin6 : ∀ w ∈ u_ws RX6 TX6 10, w ∈ wsX6_valueAt := tu 1331 (by decide +kernel) rfl
  have hX := WM.of hPX
  have hl := lv_entry ([.ref (am 0), .int x9, .int y1]) (n := 3) (Nat.le_of_ble_eq_true rfl)
  rw [lg_entry_eq]
  generalize (lg_sl ([.ref (am 0), .int x9, .int y1]) ++ List.replicate (3 - (lg_sl ([.ref (am 0), .int x9, .int y1])).length) Slot.unset).toArray = ls at hl ⊢
  have hl : lv_has ls 3 [(0, .ref (am 0)), (1, .int x9), (2, .int y1)] := hl
  show W p l e ({ frames := 2, cells := 0, slots := 0, locals := 44 } : Room) s m ([.ref (am 0), .int x9, .int y1]).toArray below meth c s.heap [] 0 0 (MQ below (va_Qi (fun r M' => M' = thM M 1) (PM dC dI am) (AM am)) ([.ref (am 0), .int x9, .int y1]).toArray s 0 0 (AM am)) (F0 m 0 ls [])
  refine lv_aload_n hx hb dX6_valueAt_0 rfl (lv_at hl 0 rfl) ?_
  refine lv_iload_n hx hb dX6_valueAt_1 rfl (lv_at hl 1 rfl) ?_
  refine kx_cr (v := bI true) (va_runS (As := [.int x9]) (rest := [.ref (am 0)]) ⟨hx, hb, hml, hown, hts⟩ (m_X6_isNoRow l dC dI am M x9) (va_cwS 1 hts gX6_valueAt_X6_isNoRow rfl rfl rfl hdX6_isNoRow_1.2 ⟨Nat.le_of_ble_eq_true rfl, Nat.le_of_ble_eq_true rfl⟩) hX.preS rfl rfl hl.1 rfl (lv_room (Nat.le_of_ble_eq_true rfl)) dX6_valueAt_2 ⟨Nat.le_of_ble_eq_true rfl, Nat.le_of_ble_eq_true rfl⟩) (fun _ h => h.trans (isNo_bad (isNo_r hb9))) ?_
  refine lv_iconst (v := nI 1) hx hb dX6_valueAt_5 (by decide) ?_
  refine km_ci (va_runV (As := [.int (bI true), .int (nI 1)]) (rest := []) ⟨hx, hb, hml, hown, hts⟩ (m_X6_start l dC dI am M true 1 (by omega)) (cwV 2 hts gX6_valueAt_X6_start rfl rfl rfl hdX6_start_2 ⟨Nat.le_of_ble_eq_true rfl, Nat.le_of_ble_eq_true rfl⟩) (hX.preObj) rfl rfl hl.1 rfl (lv_room (Nat.le_of_ble_eq_true rfl)) dX6_valueAt_6 ⟨Nat.le_of_ble_eq_true rfl, Nat.le_of_ble_eq_true rfl⟩) hX (fun _ h => h) (fun r_ S_ H locs hw hX => ?_)
  obtain ⟨rfl, rfl⟩ := hw
  refine kb_if_ne (tgt := 32) hx hb dX6_valueAt_9 (by decide) (fun k_1 => ?_) (fun k_1 => absurd k_1 (by decide))
  refine lv_iconst (v := nI 0) hx hb dX6_valueAt_32 (by decide) ?_
  refine lv_goto (tgt := 44) hx hb dX6_valueAt_33 (by decide) ?_
  exact W.iret (v := nI 0) hx hb hr (fun t9 ht9 hW9 => ⟨⟨_, (mN M (1, M.2.2.2.1, M.2.2.2.2.1, M.2.2.2.2.2)), rfl, rfl, hX.P ht9 hW9⟩, hX.2.2.2.F ht9⟩) hX.2.2.2.2.2 dX6_valueAt_44
set_option maxHeartbeats 4000000 in
set_option maxRecDepth 100000 in
theorem o_X6_valueAt_2 (l : Launch) (dC : Nat → ClassId) (dI : Nat → Nat → Nat) (am : Nat → Nat) (M : MS) (i : Nat) (x9 : Int32) (hi : i < 3) (hb9 : x9 < 0 ∨ nI (M.1 i).2.2 ≤ x9) (hI : InvM M) : Met l yX6_valueAt wsX6_valueAt ({ frames := 2, cells := 0, slots := 0, locals := 44 } : Room) (va_Pc [.ref (am 0), .int (nI i), .int x9] (PM dC dI am M)) (va_Qi (fun r M' => M' = thM M 1) (PM dC dI am) (AM am)) 0 0 (AM am) := by
  refine Met.ofW (cc := cX6_valueAt) (maxL := 3) (ret := (some .int)) pl_X6 rfl ?_
  intro p e s m args below meth c s₁ B hml hv
  obtain ⟨rfl, hPX⟩ := hv
  have hx := B.exec
  have hb := B.bytes
  have hr := B.returns
  have hts := atoms_spec (ws := wsX6_valueAt) B.pre
  have hown : s.vm.findClass RX6 = some m.cls := findClass_of_methodNamed B.named
  have hlocks := B.notSynchronized
  have hin6 : ∀ w ∈ u_ws RX6 TX6 10, w ∈ wsX6_valueAt := tu 1331 (by decide +kernel) rfl
  have hX := WM.of hPX
  have hl := lv_entry ([.ref (am 0), .int (nI i), .int x9]) (n := 3) (Nat.le_of_ble_eq_true rfl)
  rw [lg_entry_eq]
  generalize (lg_sl ([.ref (am 0), .int (nI i), .int x9]) ++ List.replicate (3 - (lg_sl ([.ref (am 0), .int (nI i), .int x9])).length) Slot.unset).toArray = ls at hl ⊢
  have hl : lv_has ls 3 [(0, .ref (am 0)), (1, .int (nI i)), (2, .int x9)] := hl
  show W p l e ({ frames := 2, cells := 0, slots := 0, locals := 44 } : Room) s m ([.ref (am 0), .int (nI i), .int x9]).toArray below meth c s.heap [] 0 0 (MQ below (va_Qi (fun r M' => M' = thM M 1) (PM dC dI am) (AM am)) ([.ref (am 0), .int (nI i), .int x9]).toArray s 0 0 (AM am)) (F0 m 0 ls [])
  have hn := (hI.1 i (by omega)).1
  refine lv_aload_n hx hb dX6_valueAt_0 rfl (lv_at hl 0 rfl) ?_
  refine lv_iload_n hx hb dX6_valueAt_1 rfl (lv_at hl 1 rfl) ?_
  refine kx_cr (v := bI false) (va_runS (As := [.int (nI i)]) (rest := [.ref (am 0)]) ⟨hx, hb, hml, hown, hts⟩ (m_X6_isNoRow l dC dI am M (nI i)) (va_cwS 1 hts gX6_valueAt_X6_isNoRow rfl rfl rfl hdX6_isNoRow_1.2 ⟨Nat.le_of_ble_eq_true rfl, Nat.le_of_ble_eq_true rfl⟩) hX.preS rfl rfl hl.1 rfl (lv_room (Nat.le_of_ble_eq_true rfl)) dX6_valueAt_2 ⟨Nat.le_of_ble_eq_true rfl, Nat.le_of_ble_eq_true rfl⟩) (fun _ h => h.trans (isNo_ok (by omega) (by omega))) ?_
  refine lv_iconst (v := nI 1) hx hb dX6_valueAt_5 (by decide) ?_
  refine km_ci (va_runV (As := [.int (bI false), .int (nI 1)]) (rest := []) ⟨hx, hb, hml, hown, hts⟩ (m_X6_start l dC dI am M false 1 (by omega)) (cwV 2 hts gX6_valueAt_X6_start rfl rfl rfl hdX6_start_2 ⟨Nat.le_of_ble_eq_true rfl, Nat.le_of_ble_eq_true rfl⟩) (hX.preObj) rfl rfl hl.1 rfl (lv_room (Nat.le_of_ble_eq_true rfl)) dX6_valueAt_6 ⟨Nat.le_of_ble_eq_true rfl, Nat.le_of_ble_eq_true rfl⟩) hX (fun _ h => h) (fun r_ S_ H locs hw hX => ?_)
  obtain ⟨rfl, rfl⟩ := hw
  refine kb_if_ne (tgt := 32) hx hb dX6_valueAt_9 (by decide) (fun k_1 => absurd k_1 (by decide)) (fun k_1 => ?_)
  refine lv_aload_n hx hb dX6_valueAt_12 rfl (lv_at hl 0 rfl) ?_
  refine lv_iload_n hx hb dX6_valueAt_13 rfl (lv_at hl 2 rfl) ?_
  refine lv_aload_n hx hb dX6_valueAt_14 rfl (lv_at hl 0 rfl) ?_
  refine km_gsizes hx hb hts hin6 hown hX (hts (.fieldLink RX6 17 "OrderlatticeModel" "sizes" "[I") (tm 681 (by decide +kernel) rfl)) dX6_valueAt_15 ?_
  refine lv_iload_n hx hb dX6_valueAt_18 rfl (lv_at hl 1 rfl) ?_
  refine km_lz (v := (M.1 i).2.2) hx hb hX (by omega) rfl dX6_valueAt_19 ?_
  refine lv_iconst (v := nI 1) hx hb dX6_valueAt_20 (by decide) ?_
  refine lv_isub hx hb dX6_valueAt_21 ?_
  refine kx_cr (v := bI true) (va_runS (As := [.int x9, .int (nI ((M.1 i).2.2) - nI 1)]) (rest := [.ref (am 0)]) ⟨hx, hb, hml, hown, hts⟩ (m_X6_isNo l dC dI am (mN M (0, M.2.2.2.1, M.2.2.2.2.1, M.2.2.2.2.2)) x9 (nI ((M.1 i).2.2) - nI 1)) (va_cwS 2 hts gX6_valueAt_X6_isNo rfl rfl rfl hdX6_isNo_2.2 ⟨Nat.le_of_ble_eq_true rfl, Nat.le_of_ble_eq_true rfl⟩) hX.preS rfl rfl hl.1 rfl (lv_room (Nat.le_of_ble_eq_true rfl)) dX6_valueAt_22 ⟨Nat.le_of_ble_eq_true rfl, Nat.le_of_ble_eq_true rfl⟩) (fun _ h => h.trans (isNo_bad (isNo_pl (by omega) hb9))) ?_
  refine lv_iconst (v := nI 1) hx hb dX6_valueAt_25 (by decide) ?_
  refine km_ci (va_runV (As := [.int (bI true), .int (nI 1)]) (rest := []) ⟨hx, hb, hml, hown, hts⟩ (m_X6_refuse l dC dI am (mN M (0, M.2.2.2.1, M.2.2.2.2.1, M.2.2.2.2.2)) true 1 (by omega) rfl) (cwV 2 hts gX6_valueAt_X6_refuse rfl rfl rfl hdX6_refuse_2 ⟨Nat.le_of_ble_eq_true rfl, Nat.le_of_ble_eq_true rfl⟩) (hX.preObj) rfl rfl hl.1 rfl (lv_room (Nat.le_of_ble_eq_true rfl)) dX6_valueAt_26 ⟨Nat.le_of_ble_eq_true rfl, Nat.le_of_ble_eq_true rfl⟩) hX (fun _ h => h) (fun r_ S_ H locs hw hX => ?_)
  obtain ⟨rfl, rfl⟩ := hw
  refine kb_if_eq (tgt := 36) hx hb dX6_valueAt_29 (by decide) (fun k_2 => absurd k_2 (by decide)) (fun k_2 => ?_)
  refine lv_iconst (v := nI 0) hx hb dX6_valueAt_32 (by decide) ?_
  refine lv_goto (tgt := 44) hx hb dX6_valueAt_33 (by decide) ?_
  exact W.iret (v := nI 0) hx hb hr (fun t9 ht9 hW9 => ⟨⟨_, (mN M (1, M.2.2.2.1, M.2.2.2.2.1, M.2.2.2.2.2)), rfl, rfl, hX.P ht9 hW9⟩, hX.2.2.2.F ht9⟩) hX.2.2.2.2.2 dX6_valueAt_44
set_option maxHeartbeats 4000000 in
set_option maxRecDepth 100000 in
theorem o_X6_markAt_1 (l : Launch) (dC : Nat → ClassId) (dI : Nat → Nat → Nat) (am : Nat → Nat) (M : MS) (x9 : Int32) (y1 : Int32) (hb9 : x9 < 0 ∨ nI 3 ≤ x9) (hI : InvM M) : Met l yX6_markAt wsX6_markAt ({ frames := 2, cells := 0, slots := 0, locals := 44 } : Room) (va_Pc [.ref (am 0), .int x9, .int y1] (PM dC dI am M)) (va_Qi (fun r M' => M' = thM M 1) (PM dC dI am) (AM am)) 0 0 (AM am) := by
  refine Met.ofW (cc := cX6_markAt) (maxL := 3) (ret := (some .int)) pl_X6 rfl ?_
  intro p e s m args below meth c s₁ B hml hv
  obtain ⟨rfl, hPX⟩ := hv
  have hx := B.exec
  have hb := B.bytes
  have hr := B.returns
  have hts := atoms_spec (ws := wsX6_markAt) B.pre
  have hown : s.vm.findClass RX6 = some m.cls := findClass_of_methodNamed B.named
  have hlocks := B.notSynchronized
  have hin6 : ∀ w ∈ u_ws RX6 TX6 10, w ∈ wsX6_markAt := tu 1331 (by decide +kernel) rfl
  have hX := WM.of hPX
  have hl := lv_entry ([.ref (am 0), .int x9, .int y1]) (n := 3) (Nat.le_of_ble_eq_true rfl)
  rw [lg_entry_eq]
  generalize (lg_sl ([.ref (am 0), .int x9, .int y1]) ++ List.replicate (3 - (lg_sl ([.ref (am 0), .int x9, .int y1])).length) Slot.unset).toArray = ls at hl ⊢
  have hl : lv_has ls 3 [(0, .ref (am 0)), (1, .int x9), (2, .int y1)] := hl
  show W p l e ({ frames := 2, cells := 0, slots := 0, locals := 44 } : Room) s m ([.ref (am 0), .int x9, .int y1]).toArray below meth c s.heap [] 0 0 (MQ below (va_Qi (fun r M' => M' = thM M 1) (PM dC dI am) (AM am)) ([.ref (am 0), .int x9, .int y1]).toArray s 0 0 (AM am)) (F0 m 0 ls [])
  refine lv_aload_n hx hb dX6_markAt_0 rfl (lv_at hl 0 rfl) ?_
  refine lv_iload_n hx hb dX6_markAt_1 rfl (lv_at hl 1 rfl) ?_
  refine kx_cr (v := bI true) (va_runS (As := [.int x9]) (rest := [.ref (am 0)]) ⟨hx, hb, hml, hown, hts⟩ (m_X6_isNoRow l dC dI am M x9) (va_cwS 1 hts gX6_markAt_X6_isNoRow rfl rfl rfl hdX6_isNoRow_1.2 ⟨Nat.le_of_ble_eq_true rfl, Nat.le_of_ble_eq_true rfl⟩) hX.preS rfl rfl hl.1 rfl (lv_room (Nat.le_of_ble_eq_true rfl)) dX6_markAt_2 ⟨Nat.le_of_ble_eq_true rfl, Nat.le_of_ble_eq_true rfl⟩) (fun _ h => h.trans (isNo_bad (isNo_r hb9))) ?_
  refine lv_iconst (v := nI 1) hx hb dX6_markAt_5 (by decide) ?_
  refine km_ci (va_runV (As := [.int (bI true), .int (nI 1)]) (rest := []) ⟨hx, hb, hml, hown, hts⟩ (m_X6_start l dC dI am M true 1 (by omega)) (cwV 2 hts gX6_markAt_X6_start rfl rfl rfl hdX6_start_2 ⟨Nat.le_of_ble_eq_true rfl, Nat.le_of_ble_eq_true rfl⟩) (hX.preObj) rfl rfl hl.1 rfl (lv_room (Nat.le_of_ble_eq_true rfl)) dX6_markAt_6 ⟨Nat.le_of_ble_eq_true rfl, Nat.le_of_ble_eq_true rfl⟩) hX (fun _ h => h) (fun r_ S_ H locs hw hX => ?_)
  obtain ⟨rfl, rfl⟩ := hw
  refine kb_if_ne (tgt := 32) hx hb dX6_markAt_9 (by decide) (fun k_1 => ?_) (fun k_1 => absurd k_1 (by decide))
  refine lv_iconst (v := nI 0) hx hb dX6_markAt_32 (by decide) ?_
  refine lv_goto (tgt := 44) hx hb dX6_markAt_33 (by decide) ?_
  exact W.iret (v := nI 0) hx hb hr (fun t9 ht9 hW9 => ⟨⟨_, (mN M (1, M.2.2.2.1, M.2.2.2.2.1, M.2.2.2.2.2)), rfl, rfl, hX.P ht9 hW9⟩, hX.2.2.2.F ht9⟩) hX.2.2.2.2.2 dX6_markAt_44
set_option maxHeartbeats 4000000 in
set_option maxRecDepth 100000 in
theorem o_X6_markAt_2 (l : Launch) (dC : Nat → ClassId) (dI : Nat → Nat → Nat) (am : Nat → Nat) (M : MS) (i : Nat) (x9 : Int32) (hi : i < 3) (hb9 : x9 < 0 ∨ nI (M.1 i).2.2 ≤ x9) (hI : InvM M) : Met l yX6_markAt wsX6_markAt ({ frames := 2, cells := 0, slots := 0, locals := 44 } : Room) (va_Pc [.ref (am 0), .int (nI i), .int x9] (PM dC dI am M)) (va_Qi (fun r M' => M' = thM M 1) (PM dC dI am) (AM am)) 0 0 (AM am) := by
  refine Met.ofW (cc := cX6_markAt) (maxL := 3) (ret := (some .int)) pl_X6 rfl ?_
  intro p e s m args below meth c s₁ B hml hv
  obtain ⟨rfl, hPX⟩ := hv
  have hx := B.exec
  have hb := B.bytes
  have hr := B.returns
  have hts := atoms_spec (ws := wsX6_markAt) B.pre
  have hown : s.vm.findClass RX6 = some m.cls := findClass_of_methodNamed B.named
  have hlocks := B.notSynchronized
  have hin6 : ∀ w ∈ u_ws RX6 TX6 10, w ∈ wsX6_markAt := tu 1331 (by decide +kernel) rfl
  have hX := WM.of hPX
  have hl := lv_entry ([.ref (am 0), .int (nI i), .int x9]) (n := 3) (Nat.le_of_ble_eq_true rfl)
  rw [lg_entry_eq]
  generalize (lg_sl ([.ref (am 0), .int (nI i), .int x9]) ++ List.replicate (3 - (lg_sl ([.ref (am 0), .int (nI i), .int x9])).length) Slot.unset).toArray = ls at hl ⊢
  have hl : lv_has ls 3 [(0, .ref (am 0)), (1, .int (nI i)), (2, .int x9)] := hl
  show W p l e ({ frames := 2, cells := 0, slots := 0, locals := 44 } : Room) s m ([.ref (am 0), .int (nI i), .int x9]).toArray below meth c s.heap [] 0 0 (MQ below (va_Qi (fun r M' => M' = thM M 1) (PM dC dI am) (AM am)) ([.ref (am 0), .int (nI i), .int x9]).toArray s 0 0 (AM am)) (F0 m 0 ls [])
  have hn := (hI.1 i (by omega)).1
  refine lv_aload_n hx hb dX6_markAt_0 rfl (lv_at hl 0 rfl) ?_
  refine lv_iload_n hx hb dX6_markAt_1 rfl (lv_at hl 1 rfl) ?_
  refine kx_cr (v := bI false) (va_runS (As := [.int (nI i)]) (rest := [.ref (am 0)]) ⟨hx, hb, hml, hown, hts⟩ (m_X6_isNoRow l dC dI am M (nI i)) (va_cwS 1 hts gX6_markAt_X6_isNoRow rfl rfl rfl hdX6_isNoRow_1.2 ⟨Nat.le_of_ble_eq_true rfl, Nat.le_of_ble_eq_true rfl⟩) hX.preS rfl rfl hl.1 rfl (lv_room (Nat.le_of_ble_eq_true rfl)) dX6_markAt_2 ⟨Nat.le_of_ble_eq_true rfl, Nat.le_of_ble_eq_true rfl⟩) (fun _ h => h.trans (isNo_ok (by omega) (by omega))) ?_
  refine lv_iconst (v := nI 1) hx hb dX6_markAt_5 (by decide) ?_
  refine km_ci (va_runV (As := [.int (bI false), .int (nI 1)]) (rest := []) ⟨hx, hb, hml, hown, hts⟩ (m_X6_start l dC dI am M false 1 (by omega)) (cwV 2 hts gX6_markAt_X6_start rfl rfl rfl hdX6_start_2 ⟨Nat.le_of_ble_eq_true rfl, Nat.le_of_ble_eq_true rfl⟩) (hX.preObj) rfl rfl hl.1 rfl (lv_room (Nat.le_of_ble_eq_true rfl)) dX6_markAt_6 ⟨Nat.le_of_ble_eq_true rfl, Nat.le_of_ble_eq_true rfl⟩) hX (fun _ h => h) (fun r_ S_ H locs hw hX => ?_)
  obtain ⟨rfl, rfl⟩ := hw
  refine kb_if_ne (tgt := 32) hx hb dX6_markAt_9 (by decide) (fun k_1 => absurd k_1 (by decide)) (fun k_1 => ?_)
  refine lv_aload_n hx hb dX6_markAt_12 rfl (lv_at hl 0 rfl) ?_
  refine lv_iload_n hx hb dX6_markAt_13 rfl (lv_at hl 2 rfl) ?_
  refine lv_aload_n hx hb dX6_markAt_14 rfl (lv_at hl 0 rfl) ?_
  refine km_gsizes hx hb hts hin6 hown hX (hts (.fieldLink RX6 17 "OrderlatticeModel" "sizes" "[I") (tm 681 (by decide +kernel) rfl)) dX6_markAt_15 ?_
  refine lv_iload_n hx hb dX6_markAt_18 rfl (lv_at hl 1 rfl) ?_
  refine km_lz (v := (M.1 i).2.2) hx hb hX (by omega) rfl dX6_markAt_19 ?_
  refine lv_iconst (v := nI 1) hx hb dX6_markAt_20 (by decide) ?_
  refine lv_isub hx hb dX6_markAt_21 ?_
  refine kx_cr (v := bI true) (va_runS (As := [.int x9, .int (nI ((M.1 i).2.2) - nI 1)]) (rest := [.ref (am 0)]) ⟨hx, hb, hml, hown, hts⟩ (m_X6_isNo l dC dI am (mN M (0, M.2.2.2.1, M.2.2.2.2.1, M.2.2.2.2.2)) x9 (nI ((M.1 i).2.2) - nI 1)) (va_cwS 2 hts gX6_markAt_X6_isNo rfl rfl rfl hdX6_isNo_2.2 ⟨Nat.le_of_ble_eq_true rfl, Nat.le_of_ble_eq_true rfl⟩) hX.preS rfl rfl hl.1 rfl (lv_room (Nat.le_of_ble_eq_true rfl)) dX6_markAt_22 ⟨Nat.le_of_ble_eq_true rfl, Nat.le_of_ble_eq_true rfl⟩) (fun _ h => h.trans (isNo_bad (isNo_pl (by omega) hb9))) ?_
  refine lv_iconst (v := nI 1) hx hb dX6_markAt_25 (by decide) ?_
  refine km_ci (va_runV (As := [.int (bI true), .int (nI 1)]) (rest := []) ⟨hx, hb, hml, hown, hts⟩ (m_X6_refuse l dC dI am (mN M (0, M.2.2.2.1, M.2.2.2.2.1, M.2.2.2.2.2)) true 1 (by omega) rfl) (cwV 2 hts gX6_markAt_X6_refuse rfl rfl rfl hdX6_refuse_2 ⟨Nat.le_of_ble_eq_true rfl, Nat.le_of_ble_eq_true rfl⟩) (hX.preObj) rfl rfl hl.1 rfl (lv_room (Nat.le_of_ble_eq_true rfl)) dX6_markAt_26 ⟨Nat.le_of_ble_eq_true rfl, Nat.le_of_ble_eq_true rfl⟩) hX (fun _ h => h) (fun r_ S_ H locs hw hX => ?_)
  obtain ⟨rfl, rfl⟩ := hw
  refine kb_if_eq (tgt := 36) hx hb dX6_markAt_29 (by decide) (fun k_2 => absurd k_2 (by decide)) (fun k_2 => ?_)
  refine lv_iconst (v := nI 0) hx hb dX6_markAt_32 (by decide) ?_
  refine lv_goto (tgt := 44) hx hb dX6_markAt_33 (by decide) ?_
  exact W.iret (v := nI 0) hx hb hr (fun t9 ht9 hW9 => ⟨⟨_, (mN M (1, M.2.2.2.1, M.2.2.2.2.1, M.2.2.2.2.2)), rfl, rfl, hX.P ht9 hW9⟩, hX.2.2.2.F ht9⟩) hX.2.2.2.2.2 dX6_markAt_44
set_option maxHeartbeats 4000000 in
set_option maxRecDepth 100000 in
theorem o_X6_extreme_1 (l : Launch) (dC : Nat → ClassId) (dI : Nat → Nat → Nat) (am : Nat → Nat) (M : MS) (x9 : Int32) (y1 : Int32) (z : Bool) (hb9 : x9 < 0 ∨ nI 3 ≤ x9) (hI : InvM M) : Met l yX6_extreme wsX6_extreme ({ frames := 4, cells := 0, slots := 0, locals := 94 } : Room) (va_Pc [.ref (am 0), .int x9, .int y1, .int (bI z)] (PM dC dI am M)) (va_Qi (fun r M' => M' = thM M 1) (PM dC dI am) (AM am)) 0 0 (AM am) := by
  refine Met.ofW (cc := cX6_extreme) (maxL := 7) (ret := (some .int)) pl_X6 rfl ?_
  intro p e s m args below meth c s₁ B hml hv
  obtain ⟨rfl, hPX⟩ := hv
  have hx := B.exec
  have hb := B.bytes
  have hr := B.returns
  have hts := atoms_spec (ws := wsX6_extreme) B.pre
  have hown : s.vm.findClass RX6 = some m.cls := findClass_of_methodNamed B.named
  have hlocks := B.notSynchronized
  have hin6 : ∀ w ∈ u_ws RX6 TX6 10, w ∈ wsX6_extreme := tu 1331 (by decide +kernel) rfl
  have hX := WM.of hPX
  have hl := lv_entry ([.ref (am 0), .int x9, .int y1, .int (bI z)]) (n := 7) (Nat.le_of_ble_eq_true rfl)
  rw [lg_entry_eq]
  generalize (lg_sl ([.ref (am 0), .int x9, .int y1, .int (bI z)]) ++ List.replicate (7 - (lg_sl ([.ref (am 0), .int x9, .int y1, .int (bI z)])).length) Slot.unset).toArray = ls at hl ⊢
  have hl : lv_has ls 7 [(0, .ref (am 0)), (1, .int x9), (2, .int y1), (3, .int (bI z))] := hl
  show W p l e ({ frames := 4, cells := 0, slots := 0, locals := 94 } : Room) s m ([.ref (am 0), .int x9, .int y1, .int (bI z)]).toArray below meth c s.heap [] 0 0 (MQ below (va_Qi (fun r M' => M' = thM M 1) (PM dC dI am) (AM am)) ([.ref (am 0), .int x9, .int y1, .int (bI z)]).toArray s 0 0 (AM am)) (F0 m 0 ls [])
  refine lv_aload_n hx hb dX6_extreme_0 rfl (lv_at hl 0 rfl) ?_
  refine lv_iload_n hx hb dX6_extreme_1 rfl (lv_at hl 1 rfl) ?_
  refine kx_cr (v := bI true) (va_runS (As := [.int x9]) (rest := [.ref (am 0)]) ⟨hx, hb, hml, hown, hts⟩ (m_X6_isNoRow l dC dI am M x9) (va_cwS 1 hts gX6_extreme_X6_isNoRow rfl rfl rfl hdX6_isNoRow_1.2 ⟨Nat.le_of_ble_eq_true rfl, Nat.le_of_ble_eq_true rfl⟩) hX.preS rfl rfl hl.1 rfl (lv_room (Nat.le_of_ble_eq_true rfl)) dX6_extreme_2 ⟨Nat.le_of_ble_eq_true rfl, Nat.le_of_ble_eq_true rfl⟩) (fun _ h => h.trans (isNo_bad (isNo_r hb9))) ?_
  refine kb_if_ne (tgt := 15) hx hb dX6_extreme_5 (by decide) (fun k_1 => ?_) (fun k_1 => absurd k_1 (by decide))
  refine lv_iconst (v := nI 1) hx hb dX6_extreme_15 (by decide) ?_
  refine lv_goto (tgt := 20) hx hb dX6_extreme_16 (by decide) ?_
  refine lv_iconst (v := nI 1) hx hb dX6_extreme_20 (by decide) ?_
  refine km_ci (va_runV (As := [.int (nI 1), .int (nI 1)]) (rest := []) ⟨hx, hb, hml, hown, hts⟩ (m_X6_start l dC dI am M true 1 (by omega)) (cwV 2 hts gX6_extreme_X6_start rfl rfl rfl hdX6_start_2 ⟨Nat.le_of_ble_eq_true rfl, Nat.le_of_ble_eq_true rfl⟩) (hX.preObj) rfl rfl hl.1 rfl (lv_room (Nat.le_of_ble_eq_true rfl)) dX6_extreme_21 ⟨Nat.le_of_ble_eq_true rfl, Nat.le_of_ble_eq_true rfl⟩) hX (fun _ h => h) (fun r_ S_ H locs hw hX => ?_)
  obtain ⟨rfl, rfl⟩ := hw
  refine kb_if_eq (tgt := 29) hx hb dX6_extreme_24 (by decide) (fun k_2 => absurd k_2 (by decide)) (fun k_2 => ?_)
  refine lv_iconst (v := nI 0) hx hb dX6_extreme_27 (by decide) ?_
  exact W.iret (v := nI 0) hx hb hr (fun t9 ht9 hW9 => ⟨⟨_, (mN M (1, M.2.2.2.1, M.2.2.2.2.1, M.2.2.2.2.2)), rfl, rfl, hX.P ht9 hW9⟩, hX.2.2.2.F ht9⟩) hX.2.2.2.2.2 dX6_extreme_28
set_option maxHeartbeats 4000000 in
set_option maxRecDepth 100000 in
theorem o_X6_extreme_2 (l : Launch) (dC : Nat → ClassId) (dI : Nat → Nat → Nat) (am : Nat → Nat) (M : MS) (i : Nat) (x9 : Int32) (z : Bool) (hi : i < 3) (hb9 : x9 < 0 ∨ nI 4 ≤ x9) (hI : InvM M) : Met l yX6_extreme wsX6_extreme ({ frames := 4, cells := 0, slots := 0, locals := 94 } : Room) (va_Pc [.ref (am 0), .int (nI i), .int x9, .int (bI z)] (PM dC dI am M)) (va_Qi (fun r M' => M' = thM M 1) (PM dC dI am) (AM am)) 0 0 (AM am) := by
  refine Met.ofW (cc := cX6_extreme) (maxL := 7) (ret := (some .int)) pl_X6 rfl ?_
  intro p e s m args below meth c s₁ B hml hv
  obtain ⟨rfl, hPX⟩ := hv
  have hx := B.exec
  have hb := B.bytes
  have hr := B.returns
  have hts := atoms_spec (ws := wsX6_extreme) B.pre
  have hown : s.vm.findClass RX6 = some m.cls := findClass_of_methodNamed B.named
  have hlocks := B.notSynchronized
  have hin6 : ∀ w ∈ u_ws RX6 TX6 10, w ∈ wsX6_extreme := tu 1331 (by decide +kernel) rfl
  have hX := WM.of hPX
  have hl := lv_entry ([.ref (am 0), .int (nI i), .int x9, .int (bI z)]) (n := 7) (Nat.le_of_ble_eq_true rfl)
  rw [lg_entry_eq]
  generalize (lg_sl ([.ref (am 0), .int (nI i), .int x9, .int (bI z)]) ++ List.replicate (7 - (lg_sl ([.ref (am 0), .int (nI i), .int x9, .int (bI z)])).length) Slot.unset).toArray = ls at hl ⊢
  have hl : lv_has ls 7 [(0, .ref (am 0)), (1, .int (nI i)), (2, .int x9), (3, .int (bI z))] := hl
  show W p l e ({ frames := 4, cells := 0, slots := 0, locals := 94 } : Room) s m ([.ref (am 0), .int (nI i), .int x9, .int (bI z)]).toArray below meth c s.heap [] 0 0 (MQ below (va_Qi (fun r M' => M' = thM M 1) (PM dC dI am) (AM am)) ([.ref (am 0), .int (nI i), .int x9, .int (bI z)]).toArray s 0 0 (AM am)) (F0 m 0 ls [])
  refine lv_aload_n hx hb dX6_extreme_0 rfl (lv_at hl 0 rfl) ?_
  refine lv_iload_n hx hb dX6_extreme_1 rfl (lv_at hl 1 rfl) ?_
  refine kx_cr (v := bI false) (va_runS (As := [.int (nI i)]) (rest := [.ref (am 0)]) ⟨hx, hb, hml, hown, hts⟩ (m_X6_isNoRow l dC dI am M (nI i)) (va_cwS 1 hts gX6_extreme_X6_isNoRow rfl rfl rfl hdX6_isNoRow_1.2 ⟨Nat.le_of_ble_eq_true rfl, Nat.le_of_ble_eq_true rfl⟩) hX.preS rfl rfl hl.1 rfl (lv_room (Nat.le_of_ble_eq_true rfl)) dX6_extreme_2 ⟨Nat.le_of_ble_eq_true rfl, Nat.le_of_ble_eq_true rfl⟩) (fun _ h => h.trans (isNo_ok (by omega) (by omega))) ?_
  refine kb_if_ne (tgt := 15) hx hb dX6_extreme_5 (by decide) (fun k_1 => absurd k_1 (by decide)) (fun k_1 => ?_)
  refine lv_iload_n hx hb dX6_extreme_8 rfl (lv_at hl 2 rfl) ?_
  refine kx_cr (v := bI true) (va_runS (As := [.int x9]) (rest := [.ref (am 0)]) ⟨hx, hb, hml, hown, hts⟩ (m_X6_isNoOrder l dC dI am M x9) (va_cwS 1 hts gX6_extreme_X6_isNoOrder rfl rfl rfl hdX6_isNoOrder_1.2 ⟨Nat.le_of_ble_eq_true rfl, Nat.le_of_ble_eq_true rfl⟩) hX.preS rfl rfl hl.1 rfl (lv_room (Nat.le_of_ble_eq_true rfl)) dX6_extreme_9 ⟨Nat.le_of_ble_eq_true rfl, Nat.le_of_ble_eq_true rfl⟩) (fun _ h => h.trans (isNo_bad (isNo_o hb9))) ?_
  refine kb_if_eq (tgt := 19) hx hb dX6_extreme_12 (by decide) (fun k_2 => absurd k_2 (by decide)) (fun k_2 => ?_)
  refine lv_iconst (v := nI 1) hx hb dX6_extreme_15 (by decide) ?_
  refine lv_goto (tgt := 20) hx hb dX6_extreme_16 (by decide) ?_
  refine lv_iconst (v := nI 1) hx hb dX6_extreme_20 (by decide) ?_
  refine km_ci (va_runV (As := [.int (nI 1), .int (nI 1)]) (rest := []) ⟨hx, hb, hml, hown, hts⟩ (m_X6_start l dC dI am M true 1 (by omega)) (cwV 2 hts gX6_extreme_X6_start rfl rfl rfl hdX6_start_2 ⟨Nat.le_of_ble_eq_true rfl, Nat.le_of_ble_eq_true rfl⟩) (hX.preObj) rfl rfl hl.1 rfl (lv_room (Nat.le_of_ble_eq_true rfl)) dX6_extreme_21 ⟨Nat.le_of_ble_eq_true rfl, Nat.le_of_ble_eq_true rfl⟩) hX (fun _ h => h) (fun r_ S_ H locs hw hX => ?_)
  obtain ⟨rfl, rfl⟩ := hw
  refine kb_if_eq (tgt := 29) hx hb dX6_extreme_24 (by decide) (fun k_3 => absurd k_3 (by decide)) (fun k_3 => ?_)
  refine lv_iconst (v := nI 0) hx hb dX6_extreme_27 (by decide) ?_
  exact W.iret (v := nI 0) hx hb hr (fun t9 ht9 hW9 => ⟨⟨_, (mN M (1, M.2.2.2.1, M.2.2.2.2.1, M.2.2.2.2.2)), rfl, rfl, hX.P ht9 hW9⟩, hX.2.2.2.F ht9⟩) hX.2.2.2.2.2 dX6_extreme_28
set_option maxHeartbeats 4000000 in
set_option maxRecDepth 100000 in
theorem o_X6_search_1 (l : Launch) (dC : Nat → ClassId) (dI : Nat → Nat → Nat) (am : Nat → Nat) (M : MS) (x9 : Int32) (y1 : Int32) (y2 : Int32) (hb9 : x9 < 0 ∨ nI 3 ≤ x9) (hI : InvM M) : Met l yX6_search wsX6_search ({ frames := 3, cells := 0, slots := 0, locals := 70 } : Room) (va_Pc [.ref (am 0), .int x9, .int y1, .int y2] (PM dC dI am M)) (va_Qi (fun r M' => M' = thM M 1) (PM dC dI am) (AM am)) 0 0 (AM am) := by
  refine Met.ofW (cc := cX6_search) (maxL := 7) (ret := (some .int)) pl_X6 rfl ?_
  intro p e s m args below meth c s₁ B hml hv
  obtain ⟨rfl, hPX⟩ := hv
  have hx := B.exec
  have hb := B.bytes
  have hr := B.returns
  have hts := atoms_spec (ws := wsX6_search) B.pre
  have hown : s.vm.findClass RX6 = some m.cls := findClass_of_methodNamed B.named
  have hlocks := B.notSynchronized
  have hin6 : ∀ w ∈ u_ws RX6 TX6 10, w ∈ wsX6_search := tu 1331 (by decide +kernel) rfl
  have hX := WM.of hPX
  have hl := lv_entry ([.ref (am 0), .int x9, .int y1, .int y2]) (n := 7) (Nat.le_of_ble_eq_true rfl)
  rw [lg_entry_eq]
  generalize (lg_sl ([.ref (am 0), .int x9, .int y1, .int y2]) ++ List.replicate (7 - (lg_sl ([.ref (am 0), .int x9, .int y1, .int y2])).length) Slot.unset).toArray = ls at hl ⊢
  have hl : lv_has ls 7 [(0, .ref (am 0)), (1, .int x9), (2, .int y1), (3, .int y2)] := hl
  show W p l e ({ frames := 3, cells := 0, slots := 0, locals := 70 } : Room) s m ([.ref (am 0), .int x9, .int y1, .int y2]).toArray below meth c s.heap [] 0 0 (MQ below (va_Qi (fun r M' => M' = thM M 1) (PM dC dI am) (AM am)) ([.ref (am 0), .int x9, .int y1, .int y2]).toArray s 0 0 (AM am)) (F0 m 0 ls [])
  refine lv_aload_n hx hb dX6_search_0 rfl (lv_at hl 0 rfl) ?_
  refine lv_iload_n hx hb dX6_search_1 rfl (lv_at hl 1 rfl) ?_
  refine kx_cr (v := bI true) (va_runS (As := [.int x9]) (rest := [.ref (am 0)]) ⟨hx, hb, hml, hown, hts⟩ (m_X6_isNoRow l dC dI am M x9) (va_cwS 1 hts gX6_search_X6_isNoRow rfl rfl rfl hdX6_isNoRow_1.2 ⟨Nat.le_of_ble_eq_true rfl, Nat.le_of_ble_eq_true rfl⟩) hX.preS rfl rfl hl.1 rfl (lv_room (Nat.le_of_ble_eq_true rfl)) dX6_search_2 ⟨Nat.le_of_ble_eq_true rfl, Nat.le_of_ble_eq_true rfl⟩) (fun _ h => h.trans (isNo_bad (isNo_r hb9))) ?_
  refine kb_if_ne (tgt := 15) hx hb dX6_search_5 (by decide) (fun k_1 => ?_) (fun k_1 => absurd k_1 (by decide))
  refine lv_iconst (v := nI 1) hx hb dX6_search_15 (by decide) ?_
  refine lv_goto (tgt := 20) hx hb dX6_search_16 (by decide) ?_
  refine lv_iconst (v := nI 1) hx hb dX6_search_20 (by decide) ?_
  refine km_ci (va_runV (As := [.int (nI 1), .int (nI 1)]) (rest := []) ⟨hx, hb, hml, hown, hts⟩ (m_X6_start l dC dI am M true 1 (by omega)) (cwV 2 hts gX6_search_X6_start rfl rfl rfl hdX6_start_2 ⟨Nat.le_of_ble_eq_true rfl, Nat.le_of_ble_eq_true rfl⟩) (hX.preObj) rfl rfl hl.1 rfl (lv_room (Nat.le_of_ble_eq_true rfl)) dX6_search_21 ⟨Nat.le_of_ble_eq_true rfl, Nat.le_of_ble_eq_true rfl⟩) hX (fun _ h => h) (fun r_ S_ H locs hw hX => ?_)
  obtain ⟨rfl, rfl⟩ := hw
  refine kb_if_ne (tgt := 39) hx hb dX6_search_24 (by decide) (fun k_2 => ?_) (fun k_2 => absurd k_2 (by decide))
  refine lv_iconst (v := nI 0) hx hb dX6_search_39 (by decide) ?_
  exact W.iret (v := nI 0) hx hb hr (fun t9 ht9 hW9 => ⟨⟨_, (mN M (1, M.2.2.2.1, M.2.2.2.2.1, M.2.2.2.2.2)), rfl, rfl, hX.P ht9 hW9⟩, hX.2.2.2.F ht9⟩) hX.2.2.2.2.2 dX6_search_40
set_option maxHeartbeats 4000000 in
set_option maxRecDepth 100000 in
theorem o_X6_search_2 (l : Launch) (dC : Nat → ClassId) (dI : Nat → Nat → Nat) (am : Nat → Nat) (M : MS) (i : Nat) (x9 : Int32) (y2 : Int32) (hi : i < 3) (hb9 : x9 < 0 ∨ nI 4 ≤ x9) (hI : InvM M) : Met l yX6_search wsX6_search ({ frames := 3, cells := 0, slots := 0, locals := 70 } : Room) (va_Pc [.ref (am 0), .int (nI i), .int x9, .int y2] (PM dC dI am M)) (va_Qi (fun r M' => M' = thM M 1) (PM dC dI am) (AM am)) 0 0 (AM am) := by
  refine Met.ofW (cc := cX6_search) (maxL := 7) (ret := (some .int)) pl_X6 rfl ?_
  intro p e s m args below meth c s₁ B hml hv
  obtain ⟨rfl, hPX⟩ := hv
  have hx := B.exec
  have hb := B.bytes
  have hr := B.returns
  have hts := atoms_spec (ws := wsX6_search) B.pre
  have hown : s.vm.findClass RX6 = some m.cls := findClass_of_methodNamed B.named
  have hlocks := B.notSynchronized
  have hin6 : ∀ w ∈ u_ws RX6 TX6 10, w ∈ wsX6_search := tu 1331 (by decide +kernel) rfl
  have hX := WM.of hPX
  have hl := lv_entry ([.ref (am 0), .int (nI i), .int x9, .int y2]) (n := 7) (Nat.le_of_ble_eq_true rfl)
  rw [lg_entry_eq]
  generalize (lg_sl ([.ref (am 0), .int (nI i), .int x9, .int y2]) ++ List.replicate (7 - (lg_sl ([.ref (am 0), .int (nI i), .int x9, .int y2])).length) Slot.unset).toArray = ls at hl ⊢
  have hl : lv_has ls 7 [(0, .ref (am 0)), (1, .int (nI i)), (2, .int x9), (3, .int y2)] := hl
  show W p l e ({ frames := 3, cells := 0, slots := 0, locals := 70 } : Room) s m ([.ref (am 0), .int (nI i), .int x9, .int y2]).toArray below meth c s.heap [] 0 0 (MQ below (va_Qi (fun r M' => M' = thM M 1) (PM dC dI am) (AM am)) ([.ref (am 0), .int (nI i), .int x9, .int y2]).toArray s 0 0 (AM am)) (F0 m 0 ls [])
  refine lv_aload_n hx hb dX6_search_0 rfl (lv_at hl 0 rfl) ?_
  refine lv_iload_n hx hb dX6_search_1 rfl (lv_at hl 1 rfl) ?_
  refine kx_cr (v := bI false) (va_runS (As := [.int (nI i)]) (rest := [.ref (am 0)]) ⟨hx, hb, hml, hown, hts⟩ (m_X6_isNoRow l dC dI am M (nI i)) (va_cwS 1 hts gX6_search_X6_isNoRow rfl rfl rfl hdX6_isNoRow_1.2 ⟨Nat.le_of_ble_eq_true rfl, Nat.le_of_ble_eq_true rfl⟩) hX.preS rfl rfl hl.1 rfl (lv_room (Nat.le_of_ble_eq_true rfl)) dX6_search_2 ⟨Nat.le_of_ble_eq_true rfl, Nat.le_of_ble_eq_true rfl⟩) (fun _ h => h.trans (isNo_ok (by omega) (by omega))) ?_
  refine kb_if_ne (tgt := 15) hx hb dX6_search_5 (by decide) (fun k_1 => absurd k_1 (by decide)) (fun k_1 => ?_)
  refine lv_iload_n hx hb dX6_search_8 rfl (lv_at hl 2 rfl) ?_
  refine kx_cr (v := bI true) (va_runS (As := [.int x9]) (rest := [.ref (am 0)]) ⟨hx, hb, hml, hown, hts⟩ (m_X6_isNoOrder l dC dI am M x9) (va_cwS 1 hts gX6_search_X6_isNoOrder rfl rfl rfl hdX6_isNoOrder_1.2 ⟨Nat.le_of_ble_eq_true rfl, Nat.le_of_ble_eq_true rfl⟩) hX.preS rfl rfl hl.1 rfl (lv_room (Nat.le_of_ble_eq_true rfl)) dX6_search_9 ⟨Nat.le_of_ble_eq_true rfl, Nat.le_of_ble_eq_true rfl⟩) (fun _ h => h.trans (isNo_bad (isNo_o hb9))) ?_
  refine kb_if_eq (tgt := 19) hx hb dX6_search_12 (by decide) (fun k_2 => absurd k_2 (by decide)) (fun k_2 => ?_)
  refine lv_iconst (v := nI 1) hx hb dX6_search_15 (by decide) ?_
  refine lv_goto (tgt := 20) hx hb dX6_search_16 (by decide) ?_
  refine lv_iconst (v := nI 1) hx hb dX6_search_20 (by decide) ?_
  refine km_ci (va_runV (As := [.int (nI 1), .int (nI 1)]) (rest := []) ⟨hx, hb, hml, hown, hts⟩ (m_X6_start l dC dI am M true 1 (by omega)) (cwV 2 hts gX6_search_X6_start rfl rfl rfl hdX6_start_2 ⟨Nat.le_of_ble_eq_true rfl, Nat.le_of_ble_eq_true rfl⟩) (hX.preObj) rfl rfl hl.1 rfl (lv_room (Nat.le_of_ble_eq_true rfl)) dX6_search_21 ⟨Nat.le_of_ble_eq_true rfl, Nat.le_of_ble_eq_true rfl⟩) hX (fun _ h => h) (fun r_ S_ H locs hw hX => ?_)
  obtain ⟨rfl, rfl⟩ := hw
  refine kb_if_ne (tgt := 39) hx hb dX6_search_24 (by decide) (fun k_3 => ?_) (fun k_3 => absurd k_3 (by decide))
  refine lv_iconst (v := nI 0) hx hb dX6_search_39 (by decide) ?_
  exact W.iret (v := nI 0) hx hb hr (fun t9 ht9 hW9 => ⟨⟨_, (mN M (1, M.2.2.2.1, M.2.2.2.2.1, M.2.2.2.2.2)), rfl, rfl, hX.P ht9 hW9⟩, hX.2.2.2.F ht9⟩) hX.2.2.2.2.2 dX6_search_40
set_option maxHeartbeats 4000000 in
set_option maxRecDepth 100000 in
theorem o_X6_search_3 (l : Launch) (dC : Nat → ClassId) (dI : Nat → Nat → Nat) (am : Nat → Nat) (M : MS) (i : Nat) (j : Nat) (x9 : Int32) (hi : i < 3) (hj : j < 4) (hb9 : x9 < 0 ∨ nI 15 < x9) (hI : InvM M) : Met l yX6_search wsX6_search ({ frames := 3, cells := 0, slots := 0, locals := 70 } : Room) (va_Pc [.ref (am 0), .int (nI i), .int (nI j), .int x9] (PM dC dI am M)) (va_Qi (fun r M' => M' = thM M 2) (PM dC dI am) (AM am)) 0 0 (AM am) := by
  refine Met.ofW (cc := cX6_search) (maxL := 7) (ret := (some .int)) pl_X6 rfl ?_
  intro p e s m args below meth c s₁ B hml hv
  obtain ⟨rfl, hPX⟩ := hv
  have hx := B.exec
  have hb := B.bytes
  have hr := B.returns
  have hts := atoms_spec (ws := wsX6_search) B.pre
  have hown : s.vm.findClass RX6 = some m.cls := findClass_of_methodNamed B.named
  have hlocks := B.notSynchronized
  have hin6 : ∀ w ∈ u_ws RX6 TX6 10, w ∈ wsX6_search := tu 1331 (by decide +kernel) rfl
  have hX := WM.of hPX
  have hl := lv_entry ([.ref (am 0), .int (nI i), .int (nI j), .int x9]) (n := 7) (Nat.le_of_ble_eq_true rfl)
  rw [lg_entry_eq]
  generalize (lg_sl ([.ref (am 0), .int (nI i), .int (nI j), .int x9]) ++ List.replicate (7 - (lg_sl ([.ref (am 0), .int (nI i), .int (nI j), .int x9])).length) Slot.unset).toArray = ls at hl ⊢
  have hl : lv_has ls 7 [(0, .ref (am 0)), (1, .int (nI i)), (2, .int (nI j)), (3, .int x9)] := hl
  show W p l e ({ frames := 3, cells := 0, slots := 0, locals := 70 } : Room) s m ([.ref (am 0), .int (nI i), .int (nI j), .int x9]).toArray below meth c s.heap [] 0 0 (MQ below (va_Qi (fun r M' => M' = thM M 2) (PM dC dI am) (AM am)) ([.ref (am 0), .int (nI i), .int (nI j), .int x9]).toArray s 0 0 (AM am)) (F0 m 0 ls [])
  refine lv_aload_n hx hb dX6_search_0 rfl (lv_at hl 0 rfl) ?_
  refine lv_iload_n hx hb dX6_search_1 rfl (lv_at hl 1 rfl) ?_
  refine kx_cr (v := bI false) (va_runS (As := [.int (nI i)]) (rest := [.ref (am 0)]) ⟨hx, hb, hml, hown, hts⟩ (m_X6_isNoRow l dC dI am M (nI i)) (va_cwS 1 hts gX6_search_X6_isNoRow rfl rfl rfl hdX6_isNoRow_1.2 ⟨Nat.le_of_ble_eq_true rfl, Nat.le_of_ble_eq_true rfl⟩) hX.preS rfl rfl hl.1 rfl (lv_room (Nat.le_of_ble_eq_true rfl)) dX6_search_2 ⟨Nat.le_of_ble_eq_true rfl, Nat.le_of_ble_eq_true rfl⟩) (fun _ h => h.trans (isNo_ok (by omega) (by omega))) ?_
  refine kb_if_ne (tgt := 15) hx hb dX6_search_5 (by decide) (fun k_1 => absurd k_1 (by decide)) (fun k_1 => ?_)
  refine lv_iload_n hx hb dX6_search_8 rfl (lv_at hl 2 rfl) ?_
  refine kx_cr (v := bI false) (va_runS (As := [.int (nI j)]) (rest := [.ref (am 0)]) ⟨hx, hb, hml, hown, hts⟩ (m_X6_isNoOrder l dC dI am M (nI j)) (va_cwS 1 hts gX6_search_X6_isNoOrder rfl rfl rfl hdX6_isNoOrder_1.2 ⟨Nat.le_of_ble_eq_true rfl, Nat.le_of_ble_eq_true rfl⟩) hX.preS rfl rfl hl.1 rfl (lv_room (Nat.le_of_ble_eq_true rfl)) dX6_search_9 ⟨Nat.le_of_ble_eq_true rfl, Nat.le_of_ble_eq_true rfl⟩) (fun _ h => h.trans (isNo_ok (by omega) (by omega))) ?_
  refine kb_if_eq (tgt := 19) hx hb dX6_search_12 (by decide) (fun k_2 => ?_) (fun k_2 => absurd k_2 (by decide))
  refine lv_iconst (v := nI 0) hx hb dX6_search_19 (by decide) ?_
  refine lv_iconst (v := nI 1) hx hb dX6_search_20 (by decide) ?_
  refine km_ci (va_runV (As := [.int (nI 0), .int (nI 1)]) (rest := []) ⟨hx, hb, hml, hown, hts⟩ (m_X6_start l dC dI am M false 1 (by omega)) (cwV 2 hts gX6_search_X6_start rfl rfl rfl hdX6_start_2 ⟨Nat.le_of_ble_eq_true rfl, Nat.le_of_ble_eq_true rfl⟩) (hX.preObj) rfl rfl hl.1 rfl (lv_room (Nat.le_of_ble_eq_true rfl)) dX6_search_21 ⟨Nat.le_of_ble_eq_true rfl, Nat.le_of_ble_eq_true rfl⟩) hX (fun _ h => h) (fun r_ S_ H locs hw hX => ?_)
  obtain ⟨rfl, rfl⟩ := hw
  refine kb_if_ne (tgt := 39) hx hb dX6_search_24 (by decide) (fun k_3 => absurd k_3 (by decide)) (fun k_3 => ?_)
  refine lv_aload_n hx hb dX6_search_27 rfl (lv_at hl 0 rfl) ?_
  refine lv_iload_n hx hb dX6_search_28 rfl (lv_at hl 3 rfl) ?_
  refine kx_cr (v := bI true) (va_runS (As := [.int x9]) (rest := [.ref (am 0)]) ⟨hx, hb, hml, hown, hts⟩ (m_X6_isNoValue l dC dI am (mN M (0, M.2.2.2.1, M.2.2.2.2.1, M.2.2.2.2.2)) x9) (va_cwS 1 hts gX6_search_X6_isNoValue rfl rfl rfl hdX6_isNoValue_1.2 ⟨Nat.le_of_ble_eq_true rfl, Nat.le_of_ble_eq_true rfl⟩) hX.preS rfl rfl hl.1 rfl (lv_room (Nat.le_of_ble_eq_true rfl)) dX6_search_29 ⟨Nat.le_of_ble_eq_true rfl, Nat.le_of_ble_eq_true rfl⟩) (fun _ h => h.trans (isNo_bad hb9)) ?_
  refine lv_iconst (v := nI 2) hx hb dX6_search_32 (by decide) ?_
  refine km_ci (va_runV (As := [.int (bI true), .int (nI 2)]) (rest := []) ⟨hx, hb, hml, hown, hts⟩ (m_X6_refuse l dC dI am (mN M (0, M.2.2.2.1, M.2.2.2.2.1, M.2.2.2.2.2)) true 2 (by omega) rfl) (cwV 2 hts gX6_search_X6_refuse rfl rfl rfl hdX6_refuse_2 ⟨Nat.le_of_ble_eq_true rfl, Nat.le_of_ble_eq_true rfl⟩) (hX.preObj) rfl rfl hl.1 rfl (lv_room (Nat.le_of_ble_eq_true rfl)) dX6_search_33 ⟨Nat.le_of_ble_eq_true rfl, Nat.le_of_ble_eq_true rfl⟩) hX (fun _ h => h) (fun r_ S_ H locs hw hX => ?_)
  obtain ⟨rfl, rfl⟩ := hw
  refine kb_if_eq (tgt := 41) hx hb dX6_search_36 (by decide) (fun k_4 => absurd k_4 (by decide)) (fun k_4 => ?_)
  refine lv_iconst (v := nI 0) hx hb dX6_search_39 (by decide) ?_
  exact W.iret (v := nI 0) hx hb hr (fun t9 ht9 hW9 => ⟨⟨_, (mN M (2, M.2.2.2.1, M.2.2.2.2.1, M.2.2.2.2.2)), rfl, rfl, hX.P ht9 hW9⟩, hX.2.2.2.F ht9⟩) hX.2.2.2.2.2 dX6_search_40
set_option maxHeartbeats 4000000 in
set_option maxRecDepth 100000 in
theorem o_X6_kinds_1 (l : Launch) (dC : Nat → ClassId) (dI : Nat → Nat → Nat) (am : Nat → Nat) (M : MS) (x9 : Int32) (y1 : Int32) (hb9 : x9 < 0 ∨ nI 3 ≤ x9) (hI : InvM M) : Met l yX6_kinds wsX6_kinds ({ frames := 4, cells := 0, slots := 0, locals := 95 } : Room) (va_Pc [.ref (am 0), .int x9, .int y1] (PM dC dI am M)) (va_Qi (fun r M' => M' = thM M 1) (PM dC dI am) (AM am)) 0 0 (AM am) := by
  refine Met.ofW (cc := cX6_kinds) (maxL := 3) (ret := (some .int)) pl_X6 rfl ?_
  intro p e s m args below meth c s₁ B hml hv
  obtain ⟨rfl, hPX⟩ := hv
  have hx := B.exec
  have hb := B.bytes
  have hr := B.returns
  have hts := atoms_spec (ws := wsX6_kinds) B.pre
  have hown : s.vm.findClass RX6 = some m.cls := findClass_of_methodNamed B.named
  have hlocks := B.notSynchronized
  have hX := WM.of hPX
  have hl := lv_entry ([.ref (am 0), .int x9, .int y1]) (n := 3) (Nat.le_of_ble_eq_true rfl)
  rw [lg_entry_eq]
  generalize (lg_sl ([.ref (am 0), .int x9, .int y1]) ++ List.replicate (3 - (lg_sl ([.ref (am 0), .int x9, .int y1])).length) Slot.unset).toArray = ls at hl ⊢
  have hl : lv_has ls 3 [(0, .ref (am 0)), (1, .int x9), (2, .int y1)] := hl
  show W p l e ({ frames := 4, cells := 0, slots := 0, locals := 95 } : Room) s m ([.ref (am 0), .int x9, .int y1]).toArray below meth c s.heap [] 0 0 (MQ below (va_Qi (fun r M' => M' = thM M 1) (PM dC dI am) (AM am)) ([.ref (am 0), .int x9, .int y1]).toArray s 0 0 (AM am)) (F0 m 0 ls [])
  refine lv_aload_n hx hb dX6_kinds_0 rfl (lv_at hl 0 rfl) ?_
  refine lv_iload_n hx hb dX6_kinds_1 rfl (lv_at hl 1 rfl) ?_
  refine kx_cr (v := bI true) (va_runS (As := [.int x9]) (rest := [.ref (am 0)]) ⟨hx, hb, hml, hown, hts⟩ (m_X6_isNoRow l dC dI am M x9) (va_cwS 1 hts gX6_kinds_X6_isNoRow rfl rfl rfl hdX6_isNoRow_1.2 ⟨Nat.le_of_ble_eq_true rfl, Nat.le_of_ble_eq_true rfl⟩) hX.preS rfl rfl hl.1 rfl (lv_room (Nat.le_of_ble_eq_true rfl)) dX6_kinds_2 ⟨Nat.le_of_ble_eq_true rfl, Nat.le_of_ble_eq_true rfl⟩) (fun _ h => h.trans (isNo_bad (isNo_r hb9))) ?_
  refine kb_if_ne (tgt := 15) hx hb dX6_kinds_5 (by decide) (fun k_1 => ?_) (fun k_1 => absurd k_1 (by decide))
  refine lv_iconst (v := nI 1) hx hb dX6_kinds_15 (by decide) ?_
  refine lv_goto (tgt := 20) hx hb dX6_kinds_16 (by decide) ?_
  refine lv_iconst (v := nI 1) hx hb dX6_kinds_20 (by decide) ?_
  refine km_ci (va_runV (As := [.int (nI 1), .int (nI 1)]) (rest := []) ⟨hx, hb, hml, hown, hts⟩ (m_X6_start l dC dI am M true 1 (by omega)) (cwV 2 hts gX6_kinds_X6_start rfl rfl rfl hdX6_start_2 ⟨Nat.le_of_ble_eq_true rfl, Nat.le_of_ble_eq_true rfl⟩) (hX.preObj) rfl rfl hl.1 rfl (lv_room (Nat.le_of_ble_eq_true rfl)) dX6_kinds_21 ⟨Nat.le_of_ble_eq_true rfl, Nat.le_of_ble_eq_true rfl⟩) hX (fun _ h => h) (fun r_ S_ H locs hw hX => ?_)
  obtain ⟨rfl, rfl⟩ := hw
  refine kb_if_eq (tgt := 31) hx hb dX6_kinds_24 (by decide) (fun k_2 => absurd k_2 (by decide)) (fun k_2 => ?_)
  refine lv_iconst (v := nI 0) hx hb dX6_kinds_27 (by decide) ?_
  refine lv_goto (tgt := 37) hx hb dX6_kinds_28 (by decide) ?_
  exact W.iret (v := nI 0) hx hb hr (fun t9 ht9 hW9 => ⟨⟨_, (mN M (1, M.2.2.2.1, M.2.2.2.2.1, M.2.2.2.2.2)), rfl, rfl, hX.P ht9 hW9⟩, hX.2.2.2.F ht9⟩) hX.2.2.2.2.2 dX6_kinds_37
set_option maxHeartbeats 4000000 in
set_option maxRecDepth 100000 in
theorem o_X6_kinds_2 (l : Launch) (dC : Nat → ClassId) (dI : Nat → Nat → Nat) (am : Nat → Nat) (M : MS) (i : Nat) (x9 : Int32) (hi : i < 3) (hb9 : x9 < 0 ∨ nI 4 ≤ x9) (hI : InvM M) : Met l yX6_kinds wsX6_kinds ({ frames := 4, cells := 0, slots := 0, locals := 95 } : Room) (va_Pc [.ref (am 0), .int (nI i), .int x9] (PM dC dI am M)) (va_Qi (fun r M' => M' = thM M 1) (PM dC dI am) (AM am)) 0 0 (AM am) := by
  refine Met.ofW (cc := cX6_kinds) (maxL := 3) (ret := (some .int)) pl_X6 rfl ?_
  intro p e s m args below meth c s₁ B hml hv
  obtain ⟨rfl, hPX⟩ := hv
  have hx := B.exec
  have hb := B.bytes
  have hr := B.returns
  have hts := atoms_spec (ws := wsX6_kinds) B.pre
  have hown : s.vm.findClass RX6 = some m.cls := findClass_of_methodNamed B.named
  have hlocks := B.notSynchronized
  have hX := WM.of hPX
  have hl := lv_entry ([.ref (am 0), .int (nI i), .int x9]) (n := 3) (Nat.le_of_ble_eq_true rfl)
  rw [lg_entry_eq]
  generalize (lg_sl ([.ref (am 0), .int (nI i), .int x9]) ++ List.replicate (3 - (lg_sl ([.ref (am 0), .int (nI i), .int x9])).length) Slot.unset).toArray = ls at hl ⊢
  have hl : lv_has ls 3 [(0, .ref (am 0)), (1, .int (nI i)), (2, .int x9)] := hl
  show W p l e ({ frames := 4, cells := 0, slots := 0, locals := 95 } : Room) s m ([.ref (am 0), .int (nI i), .int x9]).toArray below meth c s.heap [] 0 0 (MQ below (va_Qi (fun r M' => M' = thM M 1) (PM dC dI am) (AM am)) ([.ref (am 0), .int (nI i), .int x9]).toArray s 0 0 (AM am)) (F0 m 0 ls [])
  refine lv_aload_n hx hb dX6_kinds_0 rfl (lv_at hl 0 rfl) ?_
  refine lv_iload_n hx hb dX6_kinds_1 rfl (lv_at hl 1 rfl) ?_
  refine kx_cr (v := bI false) (va_runS (As := [.int (nI i)]) (rest := [.ref (am 0)]) ⟨hx, hb, hml, hown, hts⟩ (m_X6_isNoRow l dC dI am M (nI i)) (va_cwS 1 hts gX6_kinds_X6_isNoRow rfl rfl rfl hdX6_isNoRow_1.2 ⟨Nat.le_of_ble_eq_true rfl, Nat.le_of_ble_eq_true rfl⟩) hX.preS rfl rfl hl.1 rfl (lv_room (Nat.le_of_ble_eq_true rfl)) dX6_kinds_2 ⟨Nat.le_of_ble_eq_true rfl, Nat.le_of_ble_eq_true rfl⟩) (fun _ h => h.trans (isNo_ok (by omega) (by omega))) ?_
  refine kb_if_ne (tgt := 15) hx hb dX6_kinds_5 (by decide) (fun k_1 => absurd k_1 (by decide)) (fun k_1 => ?_)
  refine lv_iload_n hx hb dX6_kinds_8 rfl (lv_at hl 2 rfl) ?_
  refine kx_cr (v := bI true) (va_runS (As := [.int x9]) (rest := [.ref (am 0)]) ⟨hx, hb, hml, hown, hts⟩ (m_X6_isNoOrder l dC dI am M x9) (va_cwS 1 hts gX6_kinds_X6_isNoOrder rfl rfl rfl hdX6_isNoOrder_1.2 ⟨Nat.le_of_ble_eq_true rfl, Nat.le_of_ble_eq_true rfl⟩) hX.preS rfl rfl hl.1 rfl (lv_room (Nat.le_of_ble_eq_true rfl)) dX6_kinds_9 ⟨Nat.le_of_ble_eq_true rfl, Nat.le_of_ble_eq_true rfl⟩) (fun _ h => h.trans (isNo_bad (isNo_o hb9))) ?_
  refine kb_if_eq (tgt := 19) hx hb dX6_kinds_12 (by decide) (fun k_2 => absurd k_2 (by decide)) (fun k_2 => ?_)
  refine lv_iconst (v := nI 1) hx hb dX6_kinds_15 (by decide) ?_
  refine lv_goto (tgt := 20) hx hb dX6_kinds_16 (by decide) ?_
  refine lv_iconst (v := nI 1) hx hb dX6_kinds_20 (by decide) ?_
  refine km_ci (va_runV (As := [.int (nI 1), .int (nI 1)]) (rest := []) ⟨hx, hb, hml, hown, hts⟩ (m_X6_start l dC dI am M true 1 (by omega)) (cwV 2 hts gX6_kinds_X6_start rfl rfl rfl hdX6_start_2 ⟨Nat.le_of_ble_eq_true rfl, Nat.le_of_ble_eq_true rfl⟩) (hX.preObj) rfl rfl hl.1 rfl (lv_room (Nat.le_of_ble_eq_true rfl)) dX6_kinds_21 ⟨Nat.le_of_ble_eq_true rfl, Nat.le_of_ble_eq_true rfl⟩) hX (fun _ h => h) (fun r_ S_ H locs hw hX => ?_)
  obtain ⟨rfl, rfl⟩ := hw
  refine kb_if_eq (tgt := 31) hx hb dX6_kinds_24 (by decide) (fun k_3 => absurd k_3 (by decide)) (fun k_3 => ?_)
  refine lv_iconst (v := nI 0) hx hb dX6_kinds_27 (by decide) ?_
  refine lv_goto (tgt := 37) hx hb dX6_kinds_28 (by decide) ?_
  exact W.iret (v := nI 0) hx hb hr (fun t9 ht9 hW9 => ⟨⟨_, (mN M (1, M.2.2.2.1, M.2.2.2.2.1, M.2.2.2.2.2)), rfl, rfl, hX.P ht9 hW9⟩, hX.2.2.2.F ht9⟩) hX.2.2.2.2.2 dX6_kinds_37
set_option maxHeartbeats 4000000 in
set_option maxRecDepth 100000 in
theorem o_X6_ahead_1 (l : Launch) (dC : Nat → ClassId) (dI : Nat → Nat → Nat) (am : Nat → Nat) (M : MS) (x9 : Int32) (y1 : Int32) (y2 : Int32) (hb9 : x9 < 0 ∨ nI 3 ≤ x9) (hI : InvM M) : Met l yX6_ahead wsX6_ahead ({ frames := 3, cells := 0, slots := 0, locals := 71 } : Room) (va_Pc [.ref (am 0), .int x9, .int y1, .int y2] (PM dC dI am M)) (va_Qi (fun r M' => M' = thM M 1) (PM dC dI am) (AM am)) 0 0 (AM am) := by
  refine Met.ofW (cc := cX6_ahead) (maxL := 6) (ret := (some .int)) pl_X6 rfl ?_
  intro p e s m args below meth c s₁ B hml hv
  obtain ⟨rfl, hPX⟩ := hv
  have hx := B.exec
  have hb := B.bytes
  have hr := B.returns
  have hts := atoms_spec (ws := wsX6_ahead) B.pre
  have hown : s.vm.findClass RX6 = some m.cls := findClass_of_methodNamed B.named
  have hlocks := B.notSynchronized
  have hin6 : ∀ w ∈ u_ws RX6 TX6 10, w ∈ wsX6_ahead := tu 1331 (by decide +kernel) rfl
  have hX := WM.of hPX
  have hl := lv_entry ([.ref (am 0), .int x9, .int y1, .int y2]) (n := 6) (Nat.le_of_ble_eq_true rfl)
  rw [lg_entry_eq]
  generalize (lg_sl ([.ref (am 0), .int x9, .int y1, .int y2]) ++ List.replicate (6 - (lg_sl ([.ref (am 0), .int x9, .int y1, .int y2])).length) Slot.unset).toArray = ls at hl ⊢
  have hl : lv_has ls 6 [(0, .ref (am 0)), (1, .int x9), (2, .int y1), (3, .int y2)] := hl
  show W p l e ({ frames := 3, cells := 0, slots := 0, locals := 71 } : Room) s m ([.ref (am 0), .int x9, .int y1, .int y2]).toArray below meth c s.heap [] 0 0 (MQ below (va_Qi (fun r M' => M' = thM M 1) (PM dC dI am) (AM am)) ([.ref (am 0), .int x9, .int y1, .int y2]).toArray s 0 0 (AM am)) (F0 m 0 ls [])
  refine lv_aload_n hx hb dX6_ahead_0 rfl (lv_at hl 0 rfl) ?_
  refine lv_iload_n hx hb dX6_ahead_1 rfl (lv_at hl 1 rfl) ?_
  refine kx_cr (v := bI true) (va_runS (As := [.int x9]) (rest := [.ref (am 0)]) ⟨hx, hb, hml, hown, hts⟩ (m_X6_isNoRow l dC dI am M x9) (va_cwS 1 hts gX6_ahead_X6_isNoRow rfl rfl rfl hdX6_isNoRow_1.2 ⟨Nat.le_of_ble_eq_true rfl, Nat.le_of_ble_eq_true rfl⟩) hX.preS rfl rfl hl.1 rfl (lv_room (Nat.le_of_ble_eq_true rfl)) dX6_ahead_2 ⟨Nat.le_of_ble_eq_true rfl, Nat.le_of_ble_eq_true rfl⟩) (fun _ h => h.trans (isNo_bad (isNo_r hb9))) ?_
  refine kb_if_ne (tgt := 15) hx hb dX6_ahead_5 (by decide) (fun k_1 => ?_) (fun k_1 => absurd k_1 (by decide))
  refine lv_iconst (v := nI 1) hx hb dX6_ahead_15 (by decide) ?_
  refine lv_goto (tgt := 20) hx hb dX6_ahead_16 (by decide) ?_
  refine lv_iconst (v := nI 1) hx hb dX6_ahead_20 (by decide) ?_
  refine km_ci (va_runV (As := [.int (nI 1), .int (nI 1)]) (rest := []) ⟨hx, hb, hml, hown, hts⟩ (m_X6_start l dC dI am M true 1 (by omega)) (cwV 2 hts gX6_ahead_X6_start rfl rfl rfl hdX6_start_2 ⟨Nat.le_of_ble_eq_true rfl, Nat.le_of_ble_eq_true rfl⟩) (hX.preObj) rfl rfl hl.1 rfl (lv_room (Nat.le_of_ble_eq_true rfl)) dX6_ahead_21 ⟨Nat.le_of_ble_eq_true rfl, Nat.le_of_ble_eq_true rfl⟩) hX (fun _ h => h) (fun r_ S_ H locs hw hX => ?_)
  obtain ⟨rfl, rfl⟩ := hw
  refine kb_if_ne (tgt := 39) hx hb dX6_ahead_24 (by decide) (fun k_2 => ?_) (fun k_2 => absurd k_2 (by decide))
  refine lv_iconst (v := nI 0) hx hb dX6_ahead_39 (by decide) ?_
  exact W.iret (v := nI 0) hx hb hr (fun t9 ht9 hW9 => ⟨⟨_, (mN M (1, M.2.2.2.1, M.2.2.2.2.1, M.2.2.2.2.2)), rfl, rfl, hX.P ht9 hW9⟩, hX.2.2.2.F ht9⟩) hX.2.2.2.2.2 dX6_ahead_40
set_option maxHeartbeats 4000000 in
set_option maxRecDepth 100000 in
theorem o_X6_ahead_2 (l : Launch) (dC : Nat → ClassId) (dI : Nat → Nat → Nat) (am : Nat → Nat) (M : MS) (i : Nat) (x9 : Int32) (y2 : Int32) (hi : i < 3) (hb9 : x9 < 0 ∨ nI 4 ≤ x9) (hI : InvM M) : Met l yX6_ahead wsX6_ahead ({ frames := 3, cells := 0, slots := 0, locals := 71 } : Room) (va_Pc [.ref (am 0), .int (nI i), .int x9, .int y2] (PM dC dI am M)) (va_Qi (fun r M' => M' = thM M 1) (PM dC dI am) (AM am)) 0 0 (AM am) := by
  refine Met.ofW (cc := cX6_ahead) (maxL := 6) (ret := (some .int)) pl_X6 rfl ?_
  intro p e s m args below meth c s₁ B hml hv
  obtain ⟨rfl, hPX⟩ := hv
  have hx := B.exec
  have hb := B.bytes
  have hr := B.returns
  have hts := atoms_spec (ws := wsX6_ahead) B.pre
  have hown : s.vm.findClass RX6 = some m.cls := findClass_of_methodNamed B.named
  have hlocks := B.notSynchronized
  have hin6 : ∀ w ∈ u_ws RX6 TX6 10, w ∈ wsX6_ahead := tu 1331 (by decide +kernel) rfl
  have hX := WM.of hPX
  have hl := lv_entry ([.ref (am 0), .int (nI i), .int x9, .int y2]) (n := 6) (Nat.le_of_ble_eq_true rfl)
  rw [lg_entry_eq]
  generalize (lg_sl ([.ref (am 0), .int (nI i), .int x9, .int y2]) ++ List.replicate (6 - (lg_sl ([.ref (am 0), .int (nI i), .int x9, .int y2])).length) Slot.unset).toArray = ls at hl ⊢
  have hl : lv_has ls 6 [(0, .ref (am 0)), (1, .int (nI i)), (2, .int x9), (3, .int y2)] := hl
  show W p l e ({ frames := 3, cells := 0, slots := 0, locals := 71 } : Room) s m ([.ref (am 0), .int (nI i), .int x9, .int y2]).toArray below meth c s.heap [] 0 0 (MQ below (va_Qi (fun r M' => M' = thM M 1) (PM dC dI am) (AM am)) ([.ref (am 0), .int (nI i), .int x9, .int y2]).toArray s 0 0 (AM am)) (F0 m 0 ls [])
  refine lv_aload_n hx hb dX6_ahead_0 rfl (lv_at hl 0 rfl) ?_
  refine lv_iload_n hx hb dX6_ahead_1 rfl (lv_at hl 1 rfl) ?_
  refine kx_cr (v := bI false) (va_runS (As := [.int (nI i)]) (rest := [.ref (am 0)]) ⟨hx, hb, hml, hown, hts⟩ (m_X6_isNoRow l dC dI am M (nI i)) (va_cwS 1 hts gX6_ahead_X6_isNoRow rfl rfl rfl hdX6_isNoRow_1.2 ⟨Nat.le_of_ble_eq_true rfl, Nat.le_of_ble_eq_true rfl⟩) hX.preS rfl rfl hl.1 rfl (lv_room (Nat.le_of_ble_eq_true rfl)) dX6_ahead_2 ⟨Nat.le_of_ble_eq_true rfl, Nat.le_of_ble_eq_true rfl⟩) (fun _ h => h.trans (isNo_ok (by omega) (by omega))) ?_
  refine kb_if_ne (tgt := 15) hx hb dX6_ahead_5 (by decide) (fun k_1 => absurd k_1 (by decide)) (fun k_1 => ?_)
  refine lv_iload_n hx hb dX6_ahead_8 rfl (lv_at hl 2 rfl) ?_
  refine kx_cr (v := bI true) (va_runS (As := [.int x9]) (rest := [.ref (am 0)]) ⟨hx, hb, hml, hown, hts⟩ (m_X6_isNoOrder l dC dI am M x9) (va_cwS 1 hts gX6_ahead_X6_isNoOrder rfl rfl rfl hdX6_isNoOrder_1.2 ⟨Nat.le_of_ble_eq_true rfl, Nat.le_of_ble_eq_true rfl⟩) hX.preS rfl rfl hl.1 rfl (lv_room (Nat.le_of_ble_eq_true rfl)) dX6_ahead_9 ⟨Nat.le_of_ble_eq_true rfl, Nat.le_of_ble_eq_true rfl⟩) (fun _ h => h.trans (isNo_bad (isNo_o hb9))) ?_
  refine kb_if_eq (tgt := 19) hx hb dX6_ahead_12 (by decide) (fun k_2 => absurd k_2 (by decide)) (fun k_2 => ?_)
  refine lv_iconst (v := nI 1) hx hb dX6_ahead_15 (by decide) ?_
  refine lv_goto (tgt := 20) hx hb dX6_ahead_16 (by decide) ?_
  refine lv_iconst (v := nI 1) hx hb dX6_ahead_20 (by decide) ?_
  refine km_ci (va_runV (As := [.int (nI 1), .int (nI 1)]) (rest := []) ⟨hx, hb, hml, hown, hts⟩ (m_X6_start l dC dI am M true 1 (by omega)) (cwV 2 hts gX6_ahead_X6_start rfl rfl rfl hdX6_start_2 ⟨Nat.le_of_ble_eq_true rfl, Nat.le_of_ble_eq_true rfl⟩) (hX.preObj) rfl rfl hl.1 rfl (lv_room (Nat.le_of_ble_eq_true rfl)) dX6_ahead_21 ⟨Nat.le_of_ble_eq_true rfl, Nat.le_of_ble_eq_true rfl⟩) hX (fun _ h => h) (fun r_ S_ H locs hw hX => ?_)
  obtain ⟨rfl, rfl⟩ := hw
  refine kb_if_ne (tgt := 39) hx hb dX6_ahead_24 (by decide) (fun k_3 => ?_) (fun k_3 => absurd k_3 (by decide))
  refine lv_iconst (v := nI 0) hx hb dX6_ahead_39 (by decide) ?_
  exact W.iret (v := nI 0) hx hb hr (fun t9 ht9 hW9 => ⟨⟨_, (mN M (1, M.2.2.2.1, M.2.2.2.2.1, M.2.2.2.2.2)), rfl, rfl, hX.P ht9 hW9⟩, hX.2.2.2.F ht9⟩) hX.2.2.2.2.2 dX6_ahead_40
set_option maxHeartbeats 4000000 in
set_option maxRecDepth 100000 in
theorem o_X6_ahead_3 (l : Launch) (dC : Nat → ClassId) (dI : Nat → Nat → Nat) (am : Nat → Nat) (M : MS) (i : Nat) (j : Nat) (x9 : Int32) (hi : i < 3) (hj : j < 4) (hb9 : x9 < 0 ∨ nI 15 < x9) (hI : InvM M) : Met l yX6_ahead wsX6_ahead ({ frames := 3, cells := 0, slots := 0, locals := 71 } : Room) (va_Pc [.ref (am 0), .int (nI i), .int (nI j), .int x9] (PM dC dI am M)) (va_Qi (fun r M' => M' = thM M 2) (PM dC dI am) (AM am)) 0 0 (AM am) := by
  refine Met.ofW (cc := cX6_ahead) (maxL := 6) (ret := (some .int)) pl_X6 rfl ?_
  intro p e s m args below meth c s₁ B hml hv
  obtain ⟨rfl, hPX⟩ := hv
  have hx := B.exec
  have hb := B.bytes
  have hr := B.returns
  have hts := atoms_spec (ws := wsX6_ahead) B.pre
  have hown : s.vm.findClass RX6 = some m.cls := findClass_of_methodNamed B.named
  have hlocks := B.notSynchronized
  have hin6 : ∀ w ∈ u_ws RX6 TX6 10, w ∈ wsX6_ahead := tu 1331 (by decide +kernel) rfl
  have hX := WM.of hPX
  have hl := lv_entry ([.ref (am 0), .int (nI i), .int (nI j), .int x9]) (n := 6) (Nat.le_of_ble_eq_true rfl)
  rw [lg_entry_eq]
  generalize (lg_sl ([.ref (am 0), .int (nI i), .int (nI j), .int x9]) ++ List.replicate (6 - (lg_sl ([.ref (am 0), .int (nI i), .int (nI j), .int x9])).length) Slot.unset).toArray = ls at hl ⊢
  have hl : lv_has ls 6 [(0, .ref (am 0)), (1, .int (nI i)), (2, .int (nI j)), (3, .int x9)] := hl
  show W p l e ({ frames := 3, cells := 0, slots := 0, locals := 71 } : Room) s m ([.ref (am 0), .int (nI i), .int (nI j), .int x9]).toArray below meth c s.heap [] 0 0 (MQ below (va_Qi (fun r M' => M' = thM M 2) (PM dC dI am) (AM am)) ([.ref (am 0), .int (nI i), .int (nI j), .int x9]).toArray s 0 0 (AM am)) (F0 m 0 ls [])
  refine lv_aload_n hx hb dX6_ahead_0 rfl (lv_at hl 0 rfl) ?_
  refine lv_iload_n hx hb dX6_ahead_1 rfl (lv_at hl 1 rfl) ?_
  refine kx_cr (v := bI false) (va_runS (As := [.int (nI i)]) (rest := [.ref (am 0)]) ⟨hx, hb, hml, hown, hts⟩ (m_X6_isNoRow l dC dI am M (nI i)) (va_cwS 1 hts gX6_ahead_X6_isNoRow rfl rfl rfl hdX6_isNoRow_1.2 ⟨Nat.le_of_ble_eq_true rfl, Nat.le_of_ble_eq_true rfl⟩) hX.preS rfl rfl hl.1 rfl (lv_room (Nat.le_of_ble_eq_true rfl)) dX6_ahead_2 ⟨Nat.le_of_ble_eq_true rfl, Nat.le_of_ble_eq_true rfl⟩) (fun _ h => h.trans (isNo_ok (by omega) (by omega))) ?_
  refine kb_if_ne (tgt := 15) hx hb dX6_ahead_5 (by decide) (fun k_1 => absurd k_1 (by decide)) (fun k_1 => ?_)
  refine lv_iload_n hx hb dX6_ahead_8 rfl (lv_at hl 2 rfl) ?_
  refine kx_cr (v := bI false) (va_runS (As := [.int (nI j)]) (rest := [.ref (am 0)]) ⟨hx, hb, hml, hown, hts⟩ (m_X6_isNoOrder l dC dI am M (nI j)) (va_cwS 1 hts gX6_ahead_X6_isNoOrder rfl rfl rfl hdX6_isNoOrder_1.2 ⟨Nat.le_of_ble_eq_true rfl, Nat.le_of_ble_eq_true rfl⟩) hX.preS rfl rfl hl.1 rfl (lv_room (Nat.le_of_ble_eq_true rfl)) dX6_ahead_9 ⟨Nat.le_of_ble_eq_true rfl, Nat.le_of_ble_eq_true rfl⟩) (fun _ h => h.trans (isNo_ok (by omega) (by omega))) ?_
  refine kb_if_eq (tgt := 19) hx hb dX6_ahead_12 (by decide) (fun k_2 => ?_) (fun k_2 => absurd k_2 (by decide))
  refine lv_iconst (v := nI 0) hx hb dX6_ahead_19 (by decide) ?_
  refine lv_iconst (v := nI 1) hx hb dX6_ahead_20 (by decide) ?_
  refine km_ci (va_runV (As := [.int (nI 0), .int (nI 1)]) (rest := []) ⟨hx, hb, hml, hown, hts⟩ (m_X6_start l dC dI am M false 1 (by omega)) (cwV 2 hts gX6_ahead_X6_start rfl rfl rfl hdX6_start_2 ⟨Nat.le_of_ble_eq_true rfl, Nat.le_of_ble_eq_true rfl⟩) (hX.preObj) rfl rfl hl.1 rfl (lv_room (Nat.le_of_ble_eq_true rfl)) dX6_ahead_21 ⟨Nat.le_of_ble_eq_true rfl, Nat.le_of_ble_eq_true rfl⟩) hX (fun _ h => h) (fun r_ S_ H locs hw hX => ?_)
  obtain ⟨rfl, rfl⟩ := hw
  refine kb_if_ne (tgt := 39) hx hb dX6_ahead_24 (by decide) (fun k_3 => absurd k_3 (by decide)) (fun k_3 => ?_)
  refine lv_aload_n hx hb dX6_ahead_27 rfl (lv_at hl 0 rfl) ?_
  refine lv_iload_n hx hb dX6_ahead_28 rfl (lv_at hl 3 rfl) ?_
  refine kx_cr (v := bI true) (va_runS (As := [.int x9]) (rest := [.ref (am 0)]) ⟨hx, hb, hml, hown, hts⟩ (m_X6_isNoValue l dC dI am (mN M (0, M.2.2.2.1, M.2.2.2.2.1, M.2.2.2.2.2)) x9) (va_cwS 1 hts gX6_ahead_X6_isNoValue rfl rfl rfl hdX6_isNoValue_1.2 ⟨Nat.le_of_ble_eq_true rfl, Nat.le_of_ble_eq_true rfl⟩) hX.preS rfl rfl hl.1 rfl (lv_room (Nat.le_of_ble_eq_true rfl)) dX6_ahead_29 ⟨Nat.le_of_ble_eq_true rfl, Nat.le_of_ble_eq_true rfl⟩) (fun _ h => h.trans (isNo_bad hb9)) ?_
  refine lv_iconst (v := nI 2) hx hb dX6_ahead_32 (by decide) ?_
  refine km_ci (va_runV (As := [.int (bI true), .int (nI 2)]) (rest := []) ⟨hx, hb, hml, hown, hts⟩ (m_X6_refuse l dC dI am (mN M (0, M.2.2.2.1, M.2.2.2.2.1, M.2.2.2.2.2)) true 2 (by omega) rfl) (cwV 2 hts gX6_ahead_X6_refuse rfl rfl rfl hdX6_refuse_2 ⟨Nat.le_of_ble_eq_true rfl, Nat.le_of_ble_eq_true rfl⟩) (hX.preObj) rfl rfl hl.1 rfl (lv_room (Nat.le_of_ble_eq_true rfl)) dX6_ahead_33 ⟨Nat.le_of_ble_eq_true rfl, Nat.le_of_ble_eq_true rfl⟩) hX (fun _ h => h) (fun r_ S_ H locs hw hX => ?_)
  obtain ⟨rfl, rfl⟩ := hw
  refine kb_if_eq (tgt := 41) hx hb dX6_ahead_36 (by decide) (fun k_4 => absurd k_4 (by decide)) (fun k_4 => ?_)
  refine lv_iconst (v := nI 0) hx hb dX6_ahead_39 (by decide) ?_
  exact W.iret (v := nI 0) hx hb hr (fun t9 ht9 hW9 => ⟨⟨_, (mN M (2, M.2.2.2.1, M.2.2.2.2.1, M.2.2.2.2.2)), rfl, rfl, hX.P ht9 hW9⟩, hX.2.2.2.F ht9⟩) hX.2.2.2.2.2 dX6_ahead_40
