section
/-! the reference itself is made -/
def PI (dC : Nat → ClassId) (dI : Nat → Nat → Nat) (z : Nat) (G : va_W) (U : State) : Prop := va_P (dC, dI) vwCl G U.heap ∧ va_K (dC, dI) vwCl (tyM dC) U ∧ va_D (zB z) G ∧ z ≤ U.heap.size
def WI (dC : Nat → ClassId) (dI : Nat → Nat → Nat) (z : Nat) (G : va_W) (s : State) (H : Heap) (locs : List Loc) : Prop := va_P (dC, dI) vwCl G H ∧ va_K (dC, dI) vwCl (tyM dC) s ∧ va_D (zB z) G ∧ va_S (zB z) s.heap H locs ∧ z ≤ s.heap.size
section KI
variable {dC : Nat → ClassId} {dI : Nat → Nat → Nat} {z : Nat} {G : va_W} {s : State} {H : Heap} {locs : List Loc}
theorem WI.of (h : PI dC dI z G s) : WI dC dI z G s s.heap [] := ⟨h.1, h.2.1, h.2.2.1, va_S.rf, h.2.2.2⟩
theorem WI.F {t : State} (h : WI dC dI z G s H locs) (ht : t.heap = H) : va_F (zB z) s t := h.2.2.2.1.F ht
theorem WI.L (h : WI dC dI z G s H locs) : ∀ q ∈ locs, zB z q.base := h.2.2.2.1.2.2
theorem PI.call {U : State} {g : JFrame} {mk : MethodId} {a : Array Value} (h : PI dC dI z G U) : PI dC dI z G (U.calling g mk a) := ⟨h.1, va_K.moved (u := U) (U := U.calling g mk a) (Vm.Alike.refl U.vm) h.2.1, h.2.2.1, h.2.2.2⟩
theorem PI.blind {av : List Value} : FrameBlind (va_Pc av (PI dC dI z G)) := fun _ _ _ _ h => ⟨h.1, h.2.call⟩
theorem WI.to {G' : va_W} {H1 : Heap} {locs1 : List Loc} (h : WI dC dI z G s H locs) (h1 : va_P (dC, dI) vwCl G' H1) (h2 : va_D (zB z) G') (h3 : va_S (zB z) s.heap H1 locs1) : WI dC dI z G' s H1 locs1 := ⟨h1, h.2.1, h2, h3, h.2.2.2.2⟩
theorem WI.eqG {G' : va_W} (e : G = G') (h : WI dC dI z G s H locs) : WI dC dI z G' s H locs := e ▸ h
end KI
theorem mna_pl {l : List Nat} {f : Nat → va_E} {e : va_E} : va_pl ([] ++ l) (vr_up f l e) = l.map (fun a => (a, e)) := by
  unfold va_pl
  rw [List.nil_append]
  exact List.map_congr_left (fun a ha => by rw [vr_up_in ha])
section KI2
variable {p : Program} {l : Launch} {e : Env} {R : Room} {s : State} {m : MethodId} {args : Array Value} {below : List Frame} {meth : Method} {c : Code} {H : Heap} {locs : List Loc} {cells slots : Nat} {Q : State → Prop}
variable {cc : ByteArray} {pc : Nat} {ls : Array Slot} {rest : List Value} {dC : Nat → ClassId} {dI : Nat → Nat → Nat} {z : Nat} {G : va_W} {index n k : Nat} {own : String}
theorem ki_newI (hx : p.tables.exec = Jvm.exec) (hb : c.code = cc) (harr : (Cond.arrayClass .int).before args s = true) (hC : WI dC dI z G s H locs) (hn : n ≤ 65536) (hcells : cells + 1 ≤ R.cells) (hslots : slots + n ≤ R.slots) (hdg : decode cc pc = .ok (.newarray .int, 2))
    (kk : ∀ (q : Nat) (H1 : Heap), WI dC dI z (G ++ [(q, .inl (dC 20, n, .inl (fun _ => nI 0)))]) s H1 locs → W p l e R s m args below meth c H1 locs (cells + 1) (slots + n) Q (F0 m (pc + 2) ls (.ref q :: rest))) : W p l e R s m args below meth c H locs cells slots Q (F0 m pc ls (.int (nI n) :: rest)) := by
  refine va_newa (atype := .int) (ty := .int) (a0 := (n, .inl (fun _ => nI 0))) hx hb harr rfl hC.2.1 hC.1 hC.2.2.1 hC.2.2.2.1 (fun q hq => Nat.le_trans hC.2.2.2.2 hq) (fun cA => ?_) (nI_pos (by omega)) (nI_clamp (by omega)) (by show n * 4 ≤ 536870912; omega) hcells hslots hdg (fun q cA H1 hK1 h1 h2 h3 => ?_)
  · rfl
  · have e0 : cA = dC 20 := by
      have e1 := (hK1.2 0 (dC 20, .int) rfl).2
      have e2 := (hK1.2 4 (cA, .int) rfl).2
      exact Option.some.inj (e2.symm.trans e1)
    subst e0
    exact kk q H1 (hC.to h1 h2 h3)
theorem ki_mnaI (hx : p.tables.exec = Jvm.exec) (hb : c.code = cc) (hown : s.vm.findClass own = some m.cls) (hcl : (Cond.classLink own index "[[I").before args s = true) (hO : va_AOA .int s) (harr : (Cond.arrayClass .int).before args s = true) (hC : WI dC dI z G s H locs) (hn : n ≤ 100) (hk : k ≤ 100) (hcells : cells + (1 + n) ≤ R.cells) (hslots : slots + (n + n * k) ≤ R.slots) (hdg : decode cc pc = .ok (.multianewarray index 2, 4))
    (kk : ∀ (q : Nat) (r : Nat → Nat) (H1 : Heap), WI dC dI z ((G ++ [(q, .inl (dC 25, n, .inr (.inr (.inr (.inr (fun i => if i < n then some (r i) else none))))))]) ++ ((List.range n).map r).map (fun a => (a, .inl (dC 20, k, .inl (fun _ => nI 0))))) s H1 locs → W p l e R s m args below meth c H1 locs (cells + 1 + n) (slots + n + n * k) Q (F0 m (pc + 4) ls (.ref q :: rest))) : W p l e R s m args below meth c H locs cells slots Q (F0 m pc ls (.int (nI k) :: .int (nI n) :: rest)) := by
  refine va_mna (X := G) (L := []) (f := fun _ => .inl (dC 20, 0, .inl (fun _ => nI 0))) (ty := .int) (cy := dC 20) (z := (k, .inl (fun _ => nI 0))) hx hb hown hcl hO harr (hC.2.1.2 0 (dC 20, .int) rfl).2 hC.2.1 (by show va_P _ _ (G ++ []) H; rw [List.append_nil]; exact hC.1) (by show va_D _ (G ++ []); rw [List.append_nil]; exact hC.2.2.1) hC.2.2.2.1 (fun q hq => Nat.le_trans hC.2.2.2.2 hq) (nI_pos (by omega)) (nI_pos (by omega)) (nI_clamp (by omega)) (nI_clamp (by omega)) (by omega) (by show k * 4 ≤ 536870912; omega) (by omega) rfl rfl hcells hslots (fun c => arrV_new c k (.int (nI 0))) hdg (fun q r cA H1 _ _ hK1 hP1 hD1 hS1 => ?_)
  have e0 : cA = dC 25 := by
    have e1 := (hK1.2 2 (dC 25, .array .int) rfl).2
    have e2 := (hK1.2 4 (cA, .array .int) rfl).2
    exact Option.some.inj (e2.symm.trans e1)
  subst e0
  rw [mna_pl] at hP1 hD1
  exact kk q r H1 (hC.to hP1 hD1 hS1)
theorem ki_mnaZ (hx : p.tables.exec = Jvm.exec) (hb : c.code = cc) (hown : s.vm.findClass own = some m.cls) (hcl : (Cond.classLink own index "[[Z").before args s = true) (hO : va_AOA .boolean s) (harr : (Cond.arrayClass .boolean).before args s = true) (hC : WI dC dI z G s H locs) (hn : n ≤ 100) (hk : k ≤ 100) (hcells : cells + (1 + n) ≤ R.cells) (hslots : slots + (n + n * k) ≤ R.slots) (hdg : decode cc pc = .ok (.multianewarray index 2, 4))
    (kk : ∀ (q : Nat) (r : Nat → Nat) (H1 : Heap), WI dC dI z ((G ++ [(q, .inl (dC 26, n, .inr (.inr (.inr (.inr (fun i => if i < n then some (r i) else none))))))]) ++ ((List.range n).map r).map (fun a => (a, .inl (dC 21, k, .inl (fun _ => bI false))))) s H1 locs → W p l e R s m args below meth c H1 locs (cells + 1 + n) (slots + n + n * k) Q (F0 m (pc + 4) ls (.ref q :: rest))) : W p l e R s m args below meth c H locs cells slots Q (F0 m pc ls (.int (nI k) :: .int (nI n) :: rest)) := by
  refine va_mna (X := G) (L := []) (f := fun _ => .inl (dC 20, 0, .inl (fun _ => nI 0))) (ty := .boolean) (cy := dC 21) (z := (k, .inl (fun _ => bI false))) hx hb hown hcl hO harr (hC.2.1.2 1 (dC 21, .boolean) rfl).2 hC.2.1 (by show va_P _ _ (G ++ []) H; rw [List.append_nil]; exact hC.1) (by show va_D _ (G ++ []); rw [List.append_nil]; exact hC.2.2.1) hC.2.2.2.1 (fun q hq => Nat.le_trans hC.2.2.2.2 hq) (nI_pos (by omega)) (nI_pos (by omega)) (nI_clamp (by omega)) (nI_clamp (by omega)) (by omega) (by show k * 1 ≤ 536870912; omega) (by omega) rfl rfl hcells hslots (fun c => arrV_new c k (.int (bI false))) hdg (fun q r cA H1 _ _ hK1 hP1 hD1 hS1 => ?_)
  have e0 : cA = dC 26 := by
    have e1 := (hK1.2 3 (dC 26, .array .boolean) rfl).2
    have e2 := (hK1.2 4 (cA, .array .boolean) rfl).2
    exact Option.some.inj (e2.symm.trans e1)
  subst e0
  rw [mna_pl] at hP1 hD1
  exact kk q r H1 (hC.to hP1 hD1 hS1)
end KI2
def M00 : MS := (fun _ => (fun _ => 0, fun _ => 0, 0), fun _ => (fun _ => 0, fun _ => false, 0), 0, 0, 0, 0)
theorem InvM_0 : InvM M00 := ⟨fun i _ => ⟨Nat.zero_le _, fun k _ => ⟨by show 0 < 16; omega, by show 0 < 1000000; omega⟩⟩, fun j _ => ⟨Nat.zero_le _, fun k _ => by show 0 < 8; omega⟩⟩
theorem wM_of {dC : Nat → ClassId} {dI : Nat → Nat → Nat} {am : Nat → Nat} {M : MS} {z : Nat} {H : Heap} {G : va_W} (P Q : Nat → Nat) (hi : ∀ k, k < 21 → Q (P k) = k) (hP : va_P (dC, dI) vwCl G H) (hD : va_D (zB z) G) (hk : ∀ k, k < 21 → ∃ e, G[P k]? = some (am k, e) ∧ (va_at (dC, dI) vwCl (am k, e) H → va_at (dC, dI) vwCl (am k, kM dC am M k) H)) : va_P (dC, dI) vwCl (wM dC am M) H ∧ va_D (AM am) (wM dC am M) ∧ ∀ q, AM am q → zB z q := by
  refine ⟨fun k q hq => ?_, ⟨fun i j p q hi9 hj9 e => ?_, fun k q hq => ?_⟩, ?_⟩
  · obtain ⟨h1, h2⟩ := wM_in k q hq
    rw [wM_get h1] at hq
    cases hq
    obtain ⟨e, h3, h4⟩ := hk k h1
    exact h4 (hP _ _ h3)
  · obtain ⟨h1, h2⟩ := wM_in i p hi9
    obtain ⟨h3, h4⟩ := wM_in j q hj9
    obtain ⟨e1, h5, -⟩ := hk i h1
    obtain ⟨e2, h6, -⟩ := hk j h3
    have h7 := hD.1 _ _ _ _ h5 h6 (by rw [← h2, ← h4, e])
    rw [← hi i h1, ← hi j h3, h7]
  · obtain ⟨h1, h2⟩ := wM_in k q hq
    exact ⟨k, h1, h2⟩
  · rintro q ⟨k, h1, rfl⟩
    obtain ⟨e, h3, -⟩ := hk k h1
    exact hD.2 _ _ h3
theorem dec21 {p : Nat → Bool} (h : (List.range 21).all p = true) : ∀ k, k < 21 → p k = true := fun k hk => List.all_eq_true.mp h k (List.mem_range.mpr hk)
def adM (r q1 q2 q3 q4 q5 q6 : Nat) (r1 r2 r4 r5 : Nat → Nat) : List Nat := [r, q1, q2, q3, q4, q5, q6, r1 0, r1 1, r1 2, r2 0, r2 1, r2 2, r4 0, r4 1, r4 2, r4 3, r5 0, r5 1, r5 2, r5 3]
set_option maxHeartbeats 4000000 in
set_option maxRecDepth 100000 in
theorem X6_fin {dC : Nat → ClassId} {dI : Nat → Nat → Nat} {z : Nat} {H : Heap} {G : va_W} {k : Nat} (r q1 q2 q3 q4 q5 q6 : Nat) (r1 r2 r4 r5 : Nat → Nat) (hG0 : G = [(r, .inr (8, [.int (nI 0), .null, .null, .null, .null, .null, .null, .int (nI 0), .int (nI 0), .int (nI 0)]))] ∧ k = 0) (hP : va_P (dC, dI) vwCl (G.set k (r, .inr (8, [.int (nI 0), .ref q1, .ref q2, .ref q3, .ref q4, .ref q5, .ref q6, .int (nI 0), .int (nI 0), .int (nI 0)])) ++ [(q1, .inl (dC 25, 3, .inr (.inr (.inr (.inr (fun i => if i < 3 then some (r1 i) else none)))))), (r1 0, .inl (dC 20, 12, .inl (fun _ => nI 0))), (r1 1, .inl (dC 20, 12, .inl (fun _ => nI 0))), (r1 2, .inl (dC 20, 12, .inl (fun _ => nI 0))), (q2, .inl (dC 25, 3, .inr (.inr (.inr (.inr (fun i => if i < 3 then some (r2 i) else none)))))), (r2 0, .inl (dC 20, 12, .inl (fun _ => nI 0))), (r2 1, .inl (dC 20, 12, .inl (fun _ => nI 0))), (r2 2, .inl (dC 20, 12, .inl (fun _ => nI 0))), (q3, .inl (dC 20, 3, .inl (fun _ => nI 0))), (q4, .inl (dC 25, 4, .inr (.inr (.inr (.inr (fun i => if i < 4 then some (r4 i) else none)))))), (r4 0, .inl (dC 20, 5, .inl (fun _ => nI 0))), (r4 1, .inl (dC 20, 5, .inl (fun _ => nI 0))), (r4 2, .inl (dC 20, 5, .inl (fun _ => nI 0))), (r4 3, .inl (dC 20, 5, .inl (fun _ => nI 0))), (q5, .inl (dC 26, 4, .inr (.inr (.inr (.inr (fun i => if i < 4 then some (r5 i) else none)))))), (r5 0, .inl (dC 21, 5, .inl (fun _ => bI false))), (r5 1, .inl (dC 21, 5, .inl (fun _ => bI false))), (r5 2, .inl (dC 21, 5, .inl (fun _ => bI false))), (r5 3, .inl (dC 21, 5, .inl (fun _ => bI false))), (q6, .inl (dC 20, 4, .inl (fun _ => nI 0)))]) H) (hD : va_D (zB z) (G.set k (r, .inr (8, [.int (nI 0), .ref q1, .ref q2, .ref q3, .ref q4, .ref q5, .ref q6, .int (nI 0), .int (nI 0), .int (nI 0)])) ++ [(q1, .inl (dC 25, 3, .inr (.inr (.inr (.inr (fun i => if i < 3 then some (r1 i) else none)))))), (r1 0, .inl (dC 20, 12, .inl (fun _ => nI 0))), (r1 1, .inl (dC 20, 12, .inl (fun _ => nI 0))), (r1 2, .inl (dC 20, 12, .inl (fun _ => nI 0))), (q2, .inl (dC 25, 3, .inr (.inr (.inr (.inr (fun i => if i < 3 then some (r2 i) else none)))))), (r2 0, .inl (dC 20, 12, .inl (fun _ => nI 0))), (r2 1, .inl (dC 20, 12, .inl (fun _ => nI 0))), (r2 2, .inl (dC 20, 12, .inl (fun _ => nI 0))), (q3, .inl (dC 20, 3, .inl (fun _ => nI 0))), (q4, .inl (dC 25, 4, .inr (.inr (.inr (.inr (fun i => if i < 4 then some (r4 i) else none)))))), (r4 0, .inl (dC 20, 5, .inl (fun _ => nI 0))), (r4 1, .inl (dC 20, 5, .inl (fun _ => nI 0))), (r4 2, .inl (dC 20, 5, .inl (fun _ => nI 0))), (r4 3, .inl (dC 20, 5, .inl (fun _ => nI 0))), (q5, .inl (dC 26, 4, .inr (.inr (.inr (.inr (fun i => if i < 4 then some (r5 i) else none)))))), (r5 0, .inl (dC 21, 5, .inl (fun _ => bI false))), (r5 1, .inl (dC 21, 5, .inl (fun _ => bI false))), (r5 2, .inl (dC 21, 5, .inl (fun _ => bI false))), (r5 3, .inl (dC 21, 5, .inl (fun _ => bI false))), (q6, .inl (dC 20, 4, .inl (fun _ => nI 0)))])) : ∃ am : Nat → Nat, am 0 = r ∧ (∀ q, AM am q → zB z q) ∧ va_P (dC, dI) vwCl (wM dC am M00) H ∧ va_D (AM am) (wM dC am M00) := by
  obtain ⟨rfl, rfl⟩ := hG0
  have h := wM_of (am := adl (adM r q1 q2 q3 q4 q5 q6 r1 r2 r4 r5)) (M := M00) (adl [0, 1, 5, 9, 10, 15, 20, 2, 3, 4, 6, 7, 8, 11, 12, 13, 14, 16, 17, 18, 19]) (adl [0, 1, 7, 8, 9, 2, 10, 11, 12, 3, 4, 13, 14, 15, 16, 5, 17, 18, 19, 20, 6]) (fun k hk => of_decide_eq_true (dec21 (p := fun k => decide (adl [0, 1, 7, 8, 9, 2, 10, 11, 12, 3, 4, 13, 14, 15, 16, 5, 17, 18, 19, 20, 6] (adl [0, 1, 5, 9, 10, 15, 20, 2, 3, 4, 6, 7, 8, 11, 12, 13, 14, 16, 17, 18, 19] k) = k)) (by decide +kernel) k hk)) hP hD (al (al (al (al (al (al (al (al (al (al (al (al (al (al (al (al (al (al (al (al (al al0 ⟨_, rfl, (fun h => h)⟩) ⟨_, rfl, (fun h => at_arr (fun j hj => by rcases (show j = 0 ∨ j = 1 ∨ j = 2 by omega) with rfl | rfl | rfl <;> rfl) h)⟩) ⟨_, rfl, (fun h => at_arr (fun j hj => by rcases (show j = 0 ∨ j = 1 ∨ j = 2 by omega) with rfl | rfl | rfl <;> rfl) h)⟩) ⟨_, rfl, (fun h => h)⟩) ⟨_, rfl, (fun h => at_arr (fun j hj => by rcases (show j = 0 ∨ j = 1 ∨ j = 2 ∨ j = 3 by omega) with rfl | rfl | rfl | rfl <;> rfl) h)⟩) ⟨_, rfl, (fun h => at_arr (fun j hj => by rcases (show j = 0 ∨ j = 1 ∨ j = 2 ∨ j = 3 by omega) with rfl | rfl | rfl | rfl <;> rfl) h)⟩) ⟨_, rfl, (fun h => h)⟩) ⟨_, rfl, (fun h => h)⟩) ⟨_, rfl, (fun h => h)⟩) ⟨_, rfl, (fun h => h)⟩) ⟨_, rfl, (fun h => h)⟩) ⟨_, rfl, (fun h => h)⟩) ⟨_, rfl, (fun h => h)⟩) ⟨_, rfl, (fun h => h)⟩) ⟨_, rfl, (fun h => h)⟩) ⟨_, rfl, (fun h => h)⟩) ⟨_, rfl, (fun h => h)⟩) ⟨_, rfl, (fun h => h)⟩) ⟨_, rfl, (fun h => h)⟩) ⟨_, rfl, (fun h => h)⟩) ⟨_, rfl, (fun h => h)⟩)
  exact ⟨_, rfl, h.2.2, h.1, h.2.1⟩
set_option maxHeartbeats 4000000 in
set_option maxRecDepth 100000 in
theorem m_X6_init (l : Launch) (dC : Nat → ClassId) (dI : Nat → Nat → Nat) (z : Nat) (G : va_W) (k r : Nat) (hG : G[k]? = some (r, .inr (8, [.int (nI 0), .null, .null, .null, .null, .null, .null, .int (nI 0), .int (nI 0), .int (nI 0)]))) (hG0 : G = [(r, .inr (8, [.int (nI 0), .null, .null, .null, .null, .null, .null, .int (nI 0), .int (nI 0), .int (nI 0)]))] ∧ k = 0) : Met l yX6_init wsX6_init ({ frames := 1, cells := 30, slots := 200, locals := 20 } : Room) (va_Pc [.ref r] (fun U => PI dC dI z G U ∧ va_AOA .int U ∧ va_AOA .boolean U)) (va_Qv (fun am : Nat → Nat => am 0 = r ∧ ∀ q, AM am q → zB z q) (fun am t => PM dC dI am M00 t) (zB z)) 30 200 (zB z) := by
  refine ofWF (cc := cX6_init) (maxL := 1) (ret := none) (by decide +kernel) rfl ?_
  intro p e s m args below meth c s₁ B hml hv
  obtain ⟨rfl, hPC, hAI, hAZ⟩ := hv
  have hx := B.exec
  have hb := B.bytes
  have hr := B.returns
  have hts := atoms_spec (ws := wsX6_init) B.pre
  have hown : s.vm.findClass RX6 = some m.cls := findClass_of_methodNamed B.named
  have hlocks := B.notSynchronized
  have hin2 : meth.name = "<init>" := (name_of_methodNamed B.named B.method).1
  have hinX6 : ∀ w ∈ u_ws RX6 TX6 10, w ∈ wsX6_init := tu 1331 (by decide +kernel) rfl
  have hk : k < G.length := (List.getElem?_eq_some_iff.mp hG).1
  have hC : WI dC dI z (G.set k (r, .inr (8, [.int (nI 0), .null, .null, .null, .null, .null, .null, .int (nI 0), .int (nI 0), .int (nI 0)])) ++ []) s s.heap [] := (WI.of hPC).eqG (by rw [set_same hG, List.append_nil])
  have hl := lv_entry ([.ref r]) (n := 1) (Nat.le_of_ble_eq_true rfl)
  rw [lg_entry_eq]
  generalize (lg_sl ([.ref r]) ++ List.replicate (1 - (lg_sl ([.ref r])).length) Slot.unset).toArray = ls at hl ⊢
  have hl : lv_has ls 1 [(0, .ref r)] := hl
  show W p l e ({ frames := 1, cells := 30, slots := 200, locals := 20 } : Room) s m ([.ref r]).toArray below meth c s.heap [] 0 0 (MQ below (va_Qv (fun am : Nat → Nat => am 0 = r ∧ ∀ q, AM am q → zB z q) (fun am t => PM dC dI am M00 t) (zB z)) [.ref r].toArray s 30 200 (zB z)) (F0 m 0 ls [])
  refine lv_aload_n hx hb dX6_init_0 rfl (lv_at hl 0 rfl) ?_
  refine W.objInit hx hb hown (hts (.methodLink RX6 1 objectInit) (tm 985 (by decide +kernel) rfl)) (hts (.instanceMethod objectInit) (tm 1 (by decide +kernel) rfl)) (hts (.code objectInit ⟨#[0xb1]⟩ 1 none) (tm 2 (by decide +kernel) rfl)) (g := F0 m 1 ls [.ref r]) rfl (by rw [hml]; exact hl.1) rfl dX6_init_1 (Nat.le_of_ble_eq_true rfl) (Nat.le_of_ble_eq_true rfl) ?_
  show W p l e _ s m _ below meth c _ _ _ _ _ (F0 m 4 ls [])
  refine lv_aload_n hx hb dX6_init_4 rfl (lv_at hl 0 rfl) ?_
  refine lv_iconst (v := nI 3) hx hb dX6_init_5 (by decide) ?_
  refine lv_bipush (v := nI 12) hx hb dX6_init_6 (by decide) ?_
  refine ki_mnaI hx hb hown (hts (.classLink RX6 9 "[[I") (tm 986 (by decide +kernel) rfl)) hAI (hts (.arrayClass .int) (tm 24 (by decide +kernel) rfl)) hC (by omega) (by omega) (Nat.le_of_ble_eq_true rfl) (Nat.le_of_ble_eq_true rfl) dX6_init_8 (fun q1 r2 H hC => ?_)
  replace hC : WI dC dI z (G.set k (r, .inr (8, [.int (nI 0), .null, .null, .null, .null, .null, .null, .int (nI 0), .int (nI 0), .int (nI 0)])) ++ [(q1, .inl (dC 25, 3, .inr (.inr (.inr (.inr (fun i => if i < 3 then some (r2 i) else none)))))), (r2 0, .inl (dC 20, 12, .inl (fun _ => nI 0))), (r2 1, .inl (dC 20, 12, .inl (fun _ => nI 0))), (r2 2, .inl (dC 20, 12, .inl (fun _ => nI 0)))]) s H _ := hC.eqG (by rw [List.append_assoc, List.append_assoc]; rfl)
  refine va_putF (D := (dC, dI)) (ci := 8) (C := RX6) (T := TX6) (N := 10) (fs := [.int (nI 0), .null, .null, .null, .null, .null, .null, .int (nI 0), .int (nI 0), .int (nI 0)]) hx hb hts hinX6 tyX6 tyX6_ok nmX6 hown hC.2.1 hC.1 hC.2.2.1 hC.2.2.2.1 k (cs_k hk) rfl 1 (by decide) (hts (.fieldLink RX6 11 "OrderlatticeModel" "values" "[[I") (tm 710 (by decide +kernel) rfl)) (fun _ h => h) rfl hin2 rfl rfl rfl rfl (Nat.le_of_ble_eq_true rfl) dX6_init_12 (fun H locs h1 h2 h3 => ?_)
  replace hC : WI dC dI z (G.set k (r, .inr (8, [.int (nI 0), .ref q1, .null, .null, .null, .null, .null, .int (nI 0), .int (nI 0), .int (nI 0)])) ++ [(q1, .inl (dC 25, 3, .inr (.inr (.inr (.inr (fun i => if i < 3 then some (r2 i) else none)))))), (r2 0, .inl (dC 20, 12, .inl (fun _ => nI 0))), (r2 1, .inl (dC 20, 12, .inl (fun _ => nI 0))), (r2 2, .inl (dC 20, 12, .inl (fun _ => nI 0)))]) s H locs := (hC.to h1 h2 h3).eqG (by rw [cs_kset hk]; rfl)
  refine lv_aload_n hx hb dX6_init_15 rfl (lv_at hl 0 rfl) ?_
  refine lv_iconst (v := nI 3) hx hb dX6_init_16 (by decide) ?_
  refine lv_bipush (v := nI 12) hx hb dX6_init_17 (by decide) ?_
  refine ki_mnaI hx hb hown (hts (.classLink RX6 9 "[[I") (tm 986 (by decide +kernel) rfl)) hAI (hts (.arrayClass .int) (tm 24 (by decide +kernel) rfl)) hC (by omega) (by omega) (Nat.le_of_ble_eq_true rfl) (Nat.le_of_ble_eq_true rfl) dX6_init_19 (fun q3 r4 H hC => ?_)
  replace hC : WI dC dI z (G.set k (r, .inr (8, [.int (nI 0), .ref q1, .null, .null, .null, .null, .null, .int (nI 0), .int (nI 0), .int (nI 0)])) ++ [(q1, .inl (dC 25, 3, .inr (.inr (.inr (.inr (fun i => if i < 3 then some (r2 i) else none)))))), (r2 0, .inl (dC 20, 12, .inl (fun _ => nI 0))), (r2 1, .inl (dC 20, 12, .inl (fun _ => nI 0))), (r2 2, .inl (dC 20, 12, .inl (fun _ => nI 0))), (q3, .inl (dC 25, 3, .inr (.inr (.inr (.inr (fun i => if i < 3 then some (r4 i) else none)))))), (r4 0, .inl (dC 20, 12, .inl (fun _ => nI 0))), (r4 1, .inl (dC 20, 12, .inl (fun _ => nI 0))), (r4 2, .inl (dC 20, 12, .inl (fun _ => nI 0)))]) s H _ := hC.eqG (by rw [List.append_assoc, List.append_assoc]; rfl)
  refine va_putF (D := (dC, dI)) (ci := 8) (C := RX6) (T := TX6) (N := 10) (fs := [.int (nI 0), .ref q1, .null, .null, .null, .null, .null, .int (nI 0), .int (nI 0), .int (nI 0)]) hx hb hts hinX6 tyX6 tyX6_ok nmX6 hown hC.2.1 hC.1 hC.2.2.1 hC.2.2.2.1 k (cs_k hk) rfl 2 (by decide) (hts (.fieldLink RX6 14 "OrderlatticeModel" "marks" "[[I") (tm 711 (by decide +kernel) rfl)) (fun _ h => h) rfl hin2 rfl rfl rfl rfl (Nat.le_of_ble_eq_true rfl) dX6_init_23 (fun H locs h1 h2 h3 => ?_)
  replace hC : WI dC dI z (G.set k (r, .inr (8, [.int (nI 0), .ref q1, .ref q3, .null, .null, .null, .null, .int (nI 0), .int (nI 0), .int (nI 0)])) ++ [(q1, .inl (dC 25, 3, .inr (.inr (.inr (.inr (fun i => if i < 3 then some (r2 i) else none)))))), (r2 0, .inl (dC 20, 12, .inl (fun _ => nI 0))), (r2 1, .inl (dC 20, 12, .inl (fun _ => nI 0))), (r2 2, .inl (dC 20, 12, .inl (fun _ => nI 0))), (q3, .inl (dC 25, 3, .inr (.inr (.inr (.inr (fun i => if i < 3 then some (r4 i) else none)))))), (r4 0, .inl (dC 20, 12, .inl (fun _ => nI 0))), (r4 1, .inl (dC 20, 12, .inl (fun _ => nI 0))), (r4 2, .inl (dC 20, 12, .inl (fun _ => nI 0)))]) s H locs := (hC.to h1 h2 h3).eqG (by rw [cs_kset hk]; rfl)
  refine lv_aload_n hx hb dX6_init_26 rfl (lv_at hl 0 rfl) ?_
  refine lv_iconst (v := nI 3) hx hb dX6_init_27 (by decide) ?_
  refine ki_newI hx hb (hts (.arrayClass .int) (tm 24 (by decide +kernel) rfl)) hC (by omega) (Nat.le_of_ble_eq_true rfl) (Nat.le_of_ble_eq_true rfl) dX6_init_28 (fun q5 H hC => ?_)
  replace hC : WI dC dI z (G.set k (r, .inr (8, [.int (nI 0), .ref q1, .ref q3, .null, .null, .null, .null, .int (nI 0), .int (nI 0), .int (nI 0)])) ++ [(q1, .inl (dC 25, 3, .inr (.inr (.inr (.inr (fun i => if i < 3 then some (r2 i) else none)))))), (r2 0, .inl (dC 20, 12, .inl (fun _ => nI 0))), (r2 1, .inl (dC 20, 12, .inl (fun _ => nI 0))), (r2 2, .inl (dC 20, 12, .inl (fun _ => nI 0))), (q3, .inl (dC 25, 3, .inr (.inr (.inr (.inr (fun i => if i < 3 then some (r4 i) else none)))))), (r4 0, .inl (dC 20, 12, .inl (fun _ => nI 0))), (r4 1, .inl (dC 20, 12, .inl (fun _ => nI 0))), (r4 2, .inl (dC 20, 12, .inl (fun _ => nI 0))), (q5, .inl (dC 20, 3, .inl (fun _ => nI 0)))]) s H _ := hC.eqG (by rw [List.append_assoc]; rfl)
  refine va_putF (D := (dC, dI)) (ci := 8) (C := RX6) (T := TX6) (N := 10) (fs := [.int (nI 0), .ref q1, .ref q3, .null, .null, .null, .null, .int (nI 0), .int (nI 0), .int (nI 0)]) hx hb hts hinX6 tyX6 tyX6_ok nmX6 hown hC.2.1 hC.1 hC.2.2.1 hC.2.2.2.1 k (cs_k hk) rfl 3 (by decide) (hts (.fieldLink RX6 17 "OrderlatticeModel" "sizes" "[I") (tm 681 (by decide +kernel) rfl)) (fun _ h => h) rfl hin2 rfl rfl rfl rfl (Nat.le_of_ble_eq_true rfl) dX6_init_30 (fun H locs h1 h2 h3 => ?_)
  replace hC : WI dC dI z (G.set k (r, .inr (8, [.int (nI 0), .ref q1, .ref q3, .ref q5, .null, .null, .null, .int (nI 0), .int (nI 0), .int (nI 0)])) ++ [(q1, .inl (dC 25, 3, .inr (.inr (.inr (.inr (fun i => if i < 3 then some (r2 i) else none)))))), (r2 0, .inl (dC 20, 12, .inl (fun _ => nI 0))), (r2 1, .inl (dC 20, 12, .inl (fun _ => nI 0))), (r2 2, .inl (dC 20, 12, .inl (fun _ => nI 0))), (q3, .inl (dC 25, 3, .inr (.inr (.inr (.inr (fun i => if i < 3 then some (r4 i) else none)))))), (r4 0, .inl (dC 20, 12, .inl (fun _ => nI 0))), (r4 1, .inl (dC 20, 12, .inl (fun _ => nI 0))), (r4 2, .inl (dC 20, 12, .inl (fun _ => nI 0))), (q5, .inl (dC 20, 3, .inl (fun _ => nI 0)))]) s H locs := (hC.to h1 h2 h3).eqG (by rw [cs_kset hk]; rfl)
  refine lv_aload_n hx hb dX6_init_33 rfl (lv_at hl 0 rfl) ?_
  refine lv_iconst (v := nI 4) hx hb dX6_init_34 (by decide) ?_
  refine lv_iconst (v := nI 5) hx hb dX6_init_35 (by decide) ?_
  refine ki_mnaI hx hb hown (hts (.classLink RX6 9 "[[I") (tm 986 (by decide +kernel) rfl)) hAI (hts (.arrayClass .int) (tm 24 (by decide +kernel) rfl)) hC (by omega) (by omega) (Nat.le_of_ble_eq_true rfl) (Nat.le_of_ble_eq_true rfl) dX6_init_36 (fun q6 r7 H hC => ?_)
  replace hC : WI dC dI z (G.set k (r, .inr (8, [.int (nI 0), .ref q1, .ref q3, .ref q5, .null, .null, .null, .int (nI 0), .int (nI 0), .int (nI 0)])) ++ [(q1, .inl (dC 25, 3, .inr (.inr (.inr (.inr (fun i => if i < 3 then some (r2 i) else none)))))), (r2 0, .inl (dC 20, 12, .inl (fun _ => nI 0))), (r2 1, .inl (dC 20, 12, .inl (fun _ => nI 0))), (r2 2, .inl (dC 20, 12, .inl (fun _ => nI 0))), (q3, .inl (dC 25, 3, .inr (.inr (.inr (.inr (fun i => if i < 3 then some (r4 i) else none)))))), (r4 0, .inl (dC 20, 12, .inl (fun _ => nI 0))), (r4 1, .inl (dC 20, 12, .inl (fun _ => nI 0))), (r4 2, .inl (dC 20, 12, .inl (fun _ => nI 0))), (q5, .inl (dC 20, 3, .inl (fun _ => nI 0))), (q6, .inl (dC 25, 4, .inr (.inr (.inr (.inr (fun i => if i < 4 then some (r7 i) else none)))))), (r7 0, .inl (dC 20, 5, .inl (fun _ => nI 0))), (r7 1, .inl (dC 20, 5, .inl (fun _ => nI 0))), (r7 2, .inl (dC 20, 5, .inl (fun _ => nI 0))), (r7 3, .inl (dC 20, 5, .inl (fun _ => nI 0)))]) s H _ := hC.eqG (by rw [List.append_assoc, List.append_assoc]; rfl)
  refine va_putF (D := (dC, dI)) (ci := 8) (C := RX6) (T := TX6) (N := 10) (fs := [.int (nI 0), .ref q1, .ref q3, .ref q5, .null, .null, .null, .int (nI 0), .int (nI 0), .int (nI 0)]) hx hb hts hinX6 tyX6 tyX6_ok nmX6 hown hC.2.1 hC.1 hC.2.2.1 hC.2.2.2.1 k (cs_k hk) rfl 4 (by decide) (hts (.fieldLink RX6 21 "OrderlatticeModel" "keys" "[[I") (tm 725 (by decide +kernel) rfl)) (fun _ h => h) rfl hin2 rfl rfl rfl rfl (Nat.le_of_ble_eq_true rfl) dX6_init_40 (fun H locs h1 h2 h3 => ?_)
  replace hC : WI dC dI z (G.set k (r, .inr (8, [.int (nI 0), .ref q1, .ref q3, .ref q5, .ref q6, .null, .null, .int (nI 0), .int (nI 0), .int (nI 0)])) ++ [(q1, .inl (dC 25, 3, .inr (.inr (.inr (.inr (fun i => if i < 3 then some (r2 i) else none)))))), (r2 0, .inl (dC 20, 12, .inl (fun _ => nI 0))), (r2 1, .inl (dC 20, 12, .inl (fun _ => nI 0))), (r2 2, .inl (dC 20, 12, .inl (fun _ => nI 0))), (q3, .inl (dC 25, 3, .inr (.inr (.inr (.inr (fun i => if i < 3 then some (r4 i) else none)))))), (r4 0, .inl (dC 20, 12, .inl (fun _ => nI 0))), (r4 1, .inl (dC 20, 12, .inl (fun _ => nI 0))), (r4 2, .inl (dC 20, 12, .inl (fun _ => nI 0))), (q5, .inl (dC 20, 3, .inl (fun _ => nI 0))), (q6, .inl (dC 25, 4, .inr (.inr (.inr (.inr (fun i => if i < 4 then some (r7 i) else none)))))), (r7 0, .inl (dC 20, 5, .inl (fun _ => nI 0))), (r7 1, .inl (dC 20, 5, .inl (fun _ => nI 0))), (r7 2, .inl (dC 20, 5, .inl (fun _ => nI 0))), (r7 3, .inl (dC 20, 5, .inl (fun _ => nI 0)))]) s H locs := (hC.to h1 h2 h3).eqG (by rw [cs_kset hk]; rfl)
  refine lv_aload_n hx hb dX6_init_43 rfl (lv_at hl 0 rfl) ?_
  refine lv_iconst (v := nI 4) hx hb dX6_init_44 (by decide) ?_
  refine lv_iconst (v := nI 5) hx hb dX6_init_45 (by decide) ?_
  refine ki_mnaZ hx hb hown (hts (.classLink RX6 24 "[[Z") (tm 987 (by decide +kernel) rfl)) hAZ (hts (.arrayClass .boolean) (tm 32 (by decide +kernel) rfl)) hC (by omega) (by omega) (Nat.le_of_ble_eq_true rfl) (Nat.le_of_ble_eq_true rfl) dX6_init_46 (fun q8 r9 H hC => ?_)
  replace hC : WI dC dI z (G.set k (r, .inr (8, [.int (nI 0), .ref q1, .ref q3, .ref q5, .ref q6, .null, .null, .int (nI 0), .int (nI 0), .int (nI 0)])) ++ [(q1, .inl (dC 25, 3, .inr (.inr (.inr (.inr (fun i => if i < 3 then some (r2 i) else none)))))), (r2 0, .inl (dC 20, 12, .inl (fun _ => nI 0))), (r2 1, .inl (dC 20, 12, .inl (fun _ => nI 0))), (r2 2, .inl (dC 20, 12, .inl (fun _ => nI 0))), (q3, .inl (dC 25, 3, .inr (.inr (.inr (.inr (fun i => if i < 3 then some (r4 i) else none)))))), (r4 0, .inl (dC 20, 12, .inl (fun _ => nI 0))), (r4 1, .inl (dC 20, 12, .inl (fun _ => nI 0))), (r4 2, .inl (dC 20, 12, .inl (fun _ => nI 0))), (q5, .inl (dC 20, 3, .inl (fun _ => nI 0))), (q6, .inl (dC 25, 4, .inr (.inr (.inr (.inr (fun i => if i < 4 then some (r7 i) else none)))))), (r7 0, .inl (dC 20, 5, .inl (fun _ => nI 0))), (r7 1, .inl (dC 20, 5, .inl (fun _ => nI 0))), (r7 2, .inl (dC 20, 5, .inl (fun _ => nI 0))), (r7 3, .inl (dC 20, 5, .inl (fun _ => nI 0))), (q8, .inl (dC 26, 4, .inr (.inr (.inr (.inr (fun i => if i < 4 then some (r9 i) else none)))))), (r9 0, .inl (dC 21, 5, .inl (fun _ => bI false))), (r9 1, .inl (dC 21, 5, .inl (fun _ => bI false))), (r9 2, .inl (dC 21, 5, .inl (fun _ => bI false))), (r9 3, .inl (dC 21, 5, .inl (fun _ => bI false)))]) s H _ := hC.eqG (by rw [List.append_assoc, List.append_assoc]; rfl)
  refine va_putF (D := (dC, dI)) (ci := 8) (C := RX6) (T := TX6) (N := 10) (fs := [.int (nI 0), .ref q1, .ref q3, .ref q5, .ref q6, .null, .null, .int (nI 0), .int (nI 0), .int (nI 0)]) hx hb hts hinX6 tyX6 tyX6_ok nmX6 hown hC.2.1 hC.1 hC.2.2.1 hC.2.2.2.1 k (cs_k hk) rfl 5 (by decide) (hts (.fieldLink RX6 26 "OrderlatticeModel" "downs" "[[Z") (tm 726 (by decide +kernel) rfl)) (fun _ h => h) rfl hin2 rfl rfl rfl rfl (Nat.le_of_ble_eq_true rfl) dX6_init_50 (fun H locs h1 h2 h3 => ?_)
  replace hC : WI dC dI z (G.set k (r, .inr (8, [.int (nI 0), .ref q1, .ref q3, .ref q5, .ref q6, .ref q8, .null, .int (nI 0), .int (nI 0), .int (nI 0)])) ++ [(q1, .inl (dC 25, 3, .inr (.inr (.inr (.inr (fun i => if i < 3 then some (r2 i) else none)))))), (r2 0, .inl (dC 20, 12, .inl (fun _ => nI 0))), (r2 1, .inl (dC 20, 12, .inl (fun _ => nI 0))), (r2 2, .inl (dC 20, 12, .inl (fun _ => nI 0))), (q3, .inl (dC 25, 3, .inr (.inr (.inr (.inr (fun i => if i < 3 then some (r4 i) else none)))))), (r4 0, .inl (dC 20, 12, .inl (fun _ => nI 0))), (r4 1, .inl (dC 20, 12, .inl (fun _ => nI 0))), (r4 2, .inl (dC 20, 12, .inl (fun _ => nI 0))), (q5, .inl (dC 20, 3, .inl (fun _ => nI 0))), (q6, .inl (dC 25, 4, .inr (.inr (.inr (.inr (fun i => if i < 4 then some (r7 i) else none)))))), (r7 0, .inl (dC 20, 5, .inl (fun _ => nI 0))), (r7 1, .inl (dC 20, 5, .inl (fun _ => nI 0))), (r7 2, .inl (dC 20, 5, .inl (fun _ => nI 0))), (r7 3, .inl (dC 20, 5, .inl (fun _ => nI 0))), (q8, .inl (dC 26, 4, .inr (.inr (.inr (.inr (fun i => if i < 4 then some (r9 i) else none)))))), (r9 0, .inl (dC 21, 5, .inl (fun _ => bI false))), (r9 1, .inl (dC 21, 5, .inl (fun _ => bI false))), (r9 2, .inl (dC 21, 5, .inl (fun _ => bI false))), (r9 3, .inl (dC 21, 5, .inl (fun _ => bI false)))]) s H locs := (hC.to h1 h2 h3).eqG (by rw [cs_kset hk]; rfl)
  refine lv_aload_n hx hb dX6_init_53 rfl (lv_at hl 0 rfl) ?_
  refine lv_iconst (v := nI 4) hx hb dX6_init_54 (by decide) ?_
  refine ki_newI hx hb (hts (.arrayClass .int) (tm 24 (by decide +kernel) rfl)) hC (by omega) (Nat.le_of_ble_eq_true rfl) (Nat.le_of_ble_eq_true rfl) dX6_init_55 (fun q10 H hC => ?_)
  replace hC : WI dC dI z (G.set k (r, .inr (8, [.int (nI 0), .ref q1, .ref q3, .ref q5, .ref q6, .ref q8, .null, .int (nI 0), .int (nI 0), .int (nI 0)])) ++ [(q1, .inl (dC 25, 3, .inr (.inr (.inr (.inr (fun i => if i < 3 then some (r2 i) else none)))))), (r2 0, .inl (dC 20, 12, .inl (fun _ => nI 0))), (r2 1, .inl (dC 20, 12, .inl (fun _ => nI 0))), (r2 2, .inl (dC 20, 12, .inl (fun _ => nI 0))), (q3, .inl (dC 25, 3, .inr (.inr (.inr (.inr (fun i => if i < 3 then some (r4 i) else none)))))), (r4 0, .inl (dC 20, 12, .inl (fun _ => nI 0))), (r4 1, .inl (dC 20, 12, .inl (fun _ => nI 0))), (r4 2, .inl (dC 20, 12, .inl (fun _ => nI 0))), (q5, .inl (dC 20, 3, .inl (fun _ => nI 0))), (q6, .inl (dC 25, 4, .inr (.inr (.inr (.inr (fun i => if i < 4 then some (r7 i) else none)))))), (r7 0, .inl (dC 20, 5, .inl (fun _ => nI 0))), (r7 1, .inl (dC 20, 5, .inl (fun _ => nI 0))), (r7 2, .inl (dC 20, 5, .inl (fun _ => nI 0))), (r7 3, .inl (dC 20, 5, .inl (fun _ => nI 0))), (q8, .inl (dC 26, 4, .inr (.inr (.inr (.inr (fun i => if i < 4 then some (r9 i) else none)))))), (r9 0, .inl (dC 21, 5, .inl (fun _ => bI false))), (r9 1, .inl (dC 21, 5, .inl (fun _ => bI false))), (r9 2, .inl (dC 21, 5, .inl (fun _ => bI false))), (r9 3, .inl (dC 21, 5, .inl (fun _ => bI false))), (q10, .inl (dC 20, 4, .inl (fun _ => nI 0)))]) s H _ := hC.eqG (by rw [List.append_assoc]; rfl)
  refine va_putF (D := (dC, dI)) (ci := 8) (C := RX6) (T := TX6) (N := 10) (fs := [.int (nI 0), .ref q1, .ref q3, .ref q5, .ref q6, .ref q8, .null, .int (nI 0), .int (nI 0), .int (nI 0)]) hx hb hts hinX6 tyX6 tyX6_ok nmX6 hown hC.2.1 hC.1 hC.2.2.1 hC.2.2.2.1 k (cs_k hk) rfl 6 (by decide) (hts (.fieldLink RX6 29 "OrderlatticeModel" "steps" "[I") (tm 724 (by decide +kernel) rfl)) (fun _ h => h) rfl hin2 rfl rfl rfl rfl (Nat.le_of_ble_eq_true rfl) dX6_init_57 (fun H locs h1 h2 h3 => ?_)
  replace hC : WI dC dI z (G.set k (r, .inr (8, [.int (nI 0), .ref q1, .ref q3, .ref q5, .ref q6, .ref q8, .ref q10, .int (nI 0), .int (nI 0), .int (nI 0)])) ++ [(q1, .inl (dC 25, 3, .inr (.inr (.inr (.inr (fun i => if i < 3 then some (r2 i) else none)))))), (r2 0, .inl (dC 20, 12, .inl (fun _ => nI 0))), (r2 1, .inl (dC 20, 12, .inl (fun _ => nI 0))), (r2 2, .inl (dC 20, 12, .inl (fun _ => nI 0))), (q3, .inl (dC 25, 3, .inr (.inr (.inr (.inr (fun i => if i < 3 then some (r4 i) else none)))))), (r4 0, .inl (dC 20, 12, .inl (fun _ => nI 0))), (r4 1, .inl (dC 20, 12, .inl (fun _ => nI 0))), (r4 2, .inl (dC 20, 12, .inl (fun _ => nI 0))), (q5, .inl (dC 20, 3, .inl (fun _ => nI 0))), (q6, .inl (dC 25, 4, .inr (.inr (.inr (.inr (fun i => if i < 4 then some (r7 i) else none)))))), (r7 0, .inl (dC 20, 5, .inl (fun _ => nI 0))), (r7 1, .inl (dC 20, 5, .inl (fun _ => nI 0))), (r7 2, .inl (dC 20, 5, .inl (fun _ => nI 0))), (r7 3, .inl (dC 20, 5, .inl (fun _ => nI 0))), (q8, .inl (dC 26, 4, .inr (.inr (.inr (.inr (fun i => if i < 4 then some (r9 i) else none)))))), (r9 0, .inl (dC 21, 5, .inl (fun _ => bI false))), (r9 1, .inl (dC 21, 5, .inl (fun _ => bI false))), (r9 2, .inl (dC 21, 5, .inl (fun _ => bI false))), (r9 3, .inl (dC 21, 5, .inl (fun _ => bI false))), (q10, .inl (dC 20, 4, .inl (fun _ => nI 0)))]) s H locs := (hC.to h1 h2 h3).eqG (by rw [cs_kset hk]; rfl)
  obtain ⟨am, h57, hA9, hP9, hD9⟩ := X6_fin r q1 q3 q5 q6 q8 q10 r2 r4 r7 r9 hG0 hC.1 hC.2.2.1
  exact W.widen (k := 30) (n := 200) (by simp) (by simp) (W.vret hx hb hr (fun t9 ht9 hW9 => ⟨⟨am, rfl, ⟨h57, hA9⟩, by rw [ht9]; exact hP9, va_K.moved hW9.alike hC.2.1, hD9⟩, hC.F ht9⟩) hC.L dX6_init_60)
end
section
/-! strings: what is known of one that nobody writes -/
def SV (A : Nat → Prop) (q n : Nat) (U : State) (H : Heap) : Prop := va_O RJ0 q A U H ∧ va_OF RJ0 "coder" "B" (.int (nI 0)) q A U H ∧ ∃ (t : Nat) (g : Nat → Int32), va_OF RJ0 "value" "[B" (.ref t) q A U H ∧ va_T .byte t n (fun j => .int (g j)) A U H ∧ ∀ j, j < n → fits .byte (.int (g j)) = true
theorem SV.kept {A : Nat → Prop} {q n : Nat} {U : State} {H H1 : Heap} (h : SV A q n U H) (hq : ∀ a : Nat, a < H.size → ¬ A a → H1[a]? = H[a]?) : SV A q n U H1 := by
  obtain ⟨h1, h2, t, g, h3, h4, h5⟩ := h
  exact ⟨h1.kept hq, h2.kept hq, t, g, h3.kept hq, h4.kept hq, h5⟩
theorem SV.moved {A : Nat → Prop} {q n : Nat} {u U : State} {H : Heap} (hvm : u.vm.Alike U.vm) (h : SV A q n u H) : SV A q n U H := by
  obtain ⟨h1, h2, t, g, h3, h4, h5⟩ := h
  exact ⟨h1.moved hvm, h2.moved hvm, t, g, h3.moved hvm, h4.moved hvm, h5⟩
theorem SV.narrow {A B : Nat → Prop} {q n : Nat} {U : State} {H : Heap} (h : SV A q n U H) (hAB : ∀ q, B q → A q) : SV B q n U H := by
  obtain ⟨h1, h2, t, g, h3, h4, h5⟩ := h
  exact ⟨h1.narrow hAB, h2.narrow hAB, t, g, h3.narrow hAB, h4.narrow hAB, h5⟩
def PV (dC : Nat → ClassId) (dI : Nat → Nat → Nat) (cB : ClassId) (z : Nat) (W : va_W) (q n : Nat) (U : State) : Prop := PB dC dI cB z W U ∧ SV (zB z) q n U U.heap
section KV
variable {dC : Nat → ClassId} {dI : Nat → Nat → Nat} {cB : ClassId} {z q n : Nat} {W : va_W} {s : State} {H : Heap} {locs : List Loc}
theorem PV.call {U : State} {g : JFrame} {mk : MethodId} {a : Array Value} (h : PV dC dI cB z W q n U) : PV dC dI cB z W q n (U.calling g mk a) := ⟨h.1.call, h.2.moved (u := U) (U := U.calling g mk a) (Vm.Alike.refl U.vm)⟩
theorem PV.blind {av : List Value} : FrameBlind (va_Pc av (PV dC dI cB z W q n)) := fun _ _ _ _ h => ⟨h.1, h.2.call⟩
theorem WB.V {U : State} (h : WB dC dI cB z W s H locs) (hV : SV (zB z) q n s s.heap) (hU : U.heap = H) (hW : s.WarmedH U.vm) : SV (zB z) q n U U.heap := by
  rw [hU]
  exact (hV.kept h.2.2.2.1.2.1).moved hW.alike
theorem WB.preQ {As : List Value} (h : WB dC dI cB z W s H locs) (hV : SV (zB z) q n s s.heap) : PreV s H RJ0 q (va_Pc (Value.ref q :: As) (PV dC dI cB z W q n)) As := by
  refine ⟨PV.blind, ?_, fun _ hU hW => ⟨rfl, h.P hU hW, h.V hV hU hW⟩⟩
  obtain ⟨cell, h1, h2, h3, -⟩ := hV.1.kept h.2.2.2.1.2.1
  exact ⟨cell, h1, h2, h3⟩
theorem WB.preVV {a : Nat} {fs : List Value} {ci : Nat} {r : vw_C} {As : List Value} (h : WB dC dI cB z W s H locs) (hV : SV (zB z) q n s s.heap) (hc : vwCl[ci]? = some r) (k : Nat) (he : W[k]? = some (a, .inr (ci, fs))) : PreV s H r.1 a (va_Pc (Value.ref a :: As) (PV dC dI cB z W q n)) As :=
  ⟨PV.blind, va_recv h.2.1 h.1 (ci := ci) (q0 := k) hc he, fun _ hU hW => ⟨rfl, h.P hU hW, h.V hV hU hW⟩⟩
end KV
theorem fit_cpT {g f : Nat → Int32} {i m : Nat} (hg : ∀ j, j < m → fits .byte (.int (g j)) = true) (hf : sb_Fit f) : sb_Fit (va_cpy g f 0 i m) := fun k => by
  unfold va_cpy
  by_cases h : i ≤ k ∧ k < i + m
  · rw [if_pos h]
    exact hg _ (by omega)
  · rw [if_neg h]
    exact hf k
section KV2
variable {p : Program} {l : Launch} {e : Env} {R : Room} {s : State} {m : MethodId} {args : Array Value} {below : List Frame} {meth : Method} {c : Code} {H : Heap} {locs : List Loc} {cells slots : Nat} {Q : State → Prop}
variable {cc : ByteArray} {pc : Nat} {ls : Array Slot} {rest st0 : List Value} {dC : Nat → ClassId} {dI : Nat → Nat → Nat} {cB : ClassId} {z : Nat} {G : va_W} {index : Nat} {own : String}
theorem ks_cpT (hx : p.tables.exec = Jvm.exec) (hb : c.code = cc) (hml : c.maxLocals = ls.size) (hown : s.vm.findClass own = some m.cls) (hlink : (Cond.methodLink own index arraycopyName).before args s = true) (hnat : (Cond.native arraycopyName).before args s = true) (hstat : (Cond.static arraycopyName).before args s = true) (hini : (Cond.initialized "java/lang/System").before args s = true)
    (hB : WB dC dI cB z G s H locs) {t0 n0 i a1 n1 : Nat} {g f : Nat → Int32} (hT : va_T .byte t0 n0 (fun j => .int (g j)) (zB z) s s.heap) (hg : ∀ j, j < n0 → fits .byte (.int (g j)) = true) (q1 : Nat) (ha1 : G[q1]? = some (a1, eBy cB n1 f)) (h5 : i + n0 ≤ n1) (hn : n1 ≤ 65536) (hframes : 1 ≤ R.frames) (hlocals : (rest.map fun v => v.category).sum + (nativeFrameWords "java/lang/System" "arraycopy" 5 + 11) ≤ R.locals) (hdg : decode cc pc = .ok (.invokestatic index, 3))
    (kk : ∀ (H1 : Heap) (locs1 : List Loc), WB dC dI cB z (G.set q1 (a1, eBy cB n1 (va_cpy g f 0 i n0))) s H1 locs1 → W p l e R s m args below meth c H1 locs1 cells slots Q (F0 m (pc + 3) ls rest)) : W p l e R s m args below meth c H locs cells slots Q (F0 m pc ls (.int (nI n0) :: .int (nI i) :: .ref a1 :: .int (nI 0) :: .ref t0 :: rest)) := by
  have e0 : (nI 0).toNatClampNeg = 0 := nI_clamp (by decide)
  have ei : (nI i).toNatClampNeg = i := nI_clamp (by omega)
  have en : (nI n0).toNatClampNeg = n0 := nI_clamp (by omega)
  refine vk_copyt hx hb hml hown hlink hnat hstat hini hB.2.1 hB.1 hB.2.2.1 hB.2.2.2.1 hT q1 0 ha1 rfl (nI_pos (by decide)) (nI_pos (by omega)) (nI_pos (by omega)) (by rw [e0, en]; omega) (by rw [ei, en]; omega) (fun k hk => by rw [e0]; rw [en] at hk; exact hg _ (by omega)) hframes hlocals hdg (fun H1 locs1 h1 h2 h3 => kk H1 locs1 ?_)
  rw [e0, ei, en] at h1 h2
  exact hB.to h1 h2 h3
end KV2
set_option maxHeartbeats 4000000 in
set_option maxRecDepth 100000 in
theorem m_J0_coder_7d493 (l : Launch) (dC : Nat → ClassId) (dI : Nat → Nat → Nat) (cB : ClassId) (z : Nat) (G : va_W) (q0 m0 : Nat) (hm0 : m0 ≤ 65536) : Met l yJ0_coder_7d493 wsJ0_coder_7d493 ({ frames := 0, cells := 0, slots := 0, locals := 0 } : Room) (va_Pc [.ref q0] (PV dC dI cB z G q0 m0)) (vp_Si (fun r => r = nI 0)) 0 0 (fun _ => False) := by
  refine ofWF (cc := cJ0_coder_7d493) (maxL := 1) (ret := (some .byte)) (by decide +kernel) rfl ?_
  intro p e s m args below meth c s₁ B hml hv
  obtain ⟨rfl, hPB, hV⟩ := hv
  obtain ⟨hV1, hV2, t9, g9, hV3, hV4, hV5⟩ := id hV
  have hx := B.exec
  have hb := B.bytes
  have hr := B.returns
  have hts := atoms_spec (ws := wsJ0_coder_7d493) B.pre
  have hown : s.vm.findClass RJ0 = some m.cls := findClass_of_methodNamed B.named
  have hlocks := B.notSynchronized
  have hB := WB.of hPB
  have hl := lv_entry ([.ref q0]) (n := 1) (Nat.le_of_ble_eq_true rfl)
  rw [lg_entry_eq]
  generalize (lg_sl ([.ref q0]) ++ List.replicate (1 - (lg_sl ([.ref q0])).length) Slot.unset).toArray = ls at hl ⊢
  have hl : lv_has ls 1 [(0, .ref q0)] := hl
  show W p l e ({ frames := 0, cells := 0, slots := 0, locals := 0 } : Room) s m ([.ref q0]).toArray below meth c s.heap [] 0 0 (MQ below (vp_Si (fun r => r = nI 0)) ([.ref q0]).toArray s 0 0 (fun _ => False)) (F0 m 0 ls [])
  refine va_gets hx hb hB.2.2.2.2.2.1 hB.2.2.2.1 hown (hts (.fieldLink RJ0 38 "java/lang/String" "COMPACT_STRINGS" "Z") (tm 387 (by decide +kernel) rfl)) (fun _ h => h) dJ0_coder_7d493_0 ?_
  refine kn_if_eq (tgt := 13) hx hb (by omega) dJ0_coder_7d493_3 (by decide) (fun k_1 => absurd k_1 (by omega)) (fun k_1 => ?_)
  refine lv_aload_n hx hb dJ0_coder_7d493_6 rfl (lv_at hl 0 rfl) ?_
  refine vk_getf hx hb hV2 hB.2.2.2.1 hown (hts (.fieldLink RJ0 15 "java/lang/String" "coder" "B") (tm 385 (by decide +kernel) rfl)) (fun _ h => h) dJ0_coder_7d493_7 ?_
  refine lv_goto (tgt := 14) hx hb dJ0_coder_7d493_10 (by decide) ?_
  exact W.zret (v := nI 0) hx hb hr rfl (fun t9 ht9 hW9 => ⟨_, rfl, rfl, ht9⟩) (fun _ h => nomatch h) dJ0_coder_7d493_14
set_option maxHeartbeats 4000000 in
set_option maxRecDepth 100000 in
theorem m_J0_length_8abf5 (l : Launch) (dC : Nat → ClassId) (dI : Nat → Nat → Nat) (cB : ClassId) (z : Nat) (G : va_W) (q0 m0 : Nat) (hm0 : m0 ≤ 65536) : Met l yJ0_length_8abf5 wsJ0_length_8abf5 ({ frames := 1, cells := 0, slots := 0, locals := 20 } : Room) (va_Pc [.ref q0] (PV dC dI cB z G q0 m0)) (vp_Si (fun r => r = nI m0)) 0 0 (fun _ => False) := by
  refine ofWF (cc := cJ0_length_8abf5) (maxL := 1) (ret := (some .int)) (by decide +kernel) rfl ?_
  intro p e s m args below meth c s₁ B hml hv
  obtain ⟨rfl, hPB, hV⟩ := hv
  obtain ⟨hV1, hV2, t9, g9, hV3, hV4, hV5⟩ := id hV
  have hx := B.exec
  have hb := B.bytes
  have hr := B.returns
  have hts := atoms_spec (ws := wsJ0_length_8abf5) B.pre
  have hown : s.vm.findClass RJ0 = some m.cls := findClass_of_methodNamed B.named
  have hlocks := B.notSynchronized
  have hB := WB.of hPB
  have hl := lv_entry ([.ref q0]) (n := 1) (Nat.le_of_ble_eq_true rfl)
  rw [lg_entry_eq]
  generalize (lg_sl ([.ref q0]) ++ List.replicate (1 - (lg_sl ([.ref q0])).length) Slot.unset).toArray = ls at hl ⊢
  have hl : lv_has ls 1 [(0, .ref q0)] := hl
  show W p l e ({ frames := 1, cells := 0, slots := 0, locals := 20 } : Room) s m ([.ref q0]).toArray below meth c s.heap [] 0 0 (MQ below (vp_Si (fun r => r = nI m0)) ([.ref q0]).toArray s 0 0 (fun _ => False)) (F0 m 0 ls [])
  refine lv_aload_n hx hb dJ0_length_8abf5_0 rfl (lv_at hl 0 rfl) ?_
  refine vk_getf hx hb hV3 hB.2.2.2.1 hown (hts (.fieldLink RJ0 9 "java/lang/String" "value" "[B") (tm 386 (by decide +kernel) rfl)) (fun _ h => h) dJ0_length_8abf5_1 ?_
  refine va_tlen hx hb hV4 hB.2.2.2.1 (v := nI m0) rfl dJ0_length_8abf5_4 ?_
  refine lv_aload_n hx hb dJ0_length_8abf5_5 rfl (lv_at hl 0 rfl) ?_
  refine kx_cr (v := nI 0) (va_runV (As := []) (rest := [.int (nI m0)]) ⟨hx, hb, hml, hown, hts⟩ (m_J0_coder_7d493 l dC dI cB z G q0 m0 hm0) (cwV 0 hts gJ0_length_8abf5_J0_coder_7d493 rfl rfl rfl hdJ0_coder_7d493_0 ⟨Nat.le_of_ble_eq_true rfl, Nat.le_of_ble_eq_true rfl⟩) (hB.preQ hV) rfl rfl hl.1 rfl (lv_room (Nat.le_of_ble_eq_true rfl)) dJ0_length_8abf5_6 ⟨Nat.le_of_ble_eq_true rfl, Nat.le_of_ble_eq_true rfl⟩) (fun _ h => h) ?_
  refine lv_ishr hx hb dJ0_length_8abf5_9 ?_
  rw [show (nI m0) >>> ((nI 0) &&& 31) = nI m0 from sb_shr0 _]
  exact W.iret (v := nI m0) hx hb hr (fun t9 ht9 hW9 => ⟨_, rfl, rfl, ht9⟩) (fun _ h => nomatch h) dJ0_length_8abf5_10
set_option maxHeartbeats 4000000 in
set_option maxRecDepth 100000 in
theorem m_J0_isEmpty_aae02 (l : Launch) (dC : Nat → ClassId) (dI : Nat → Nat → Nat) (cB : ClassId) (z : Nat) (G : va_W) (q0 m0 : Nat) (hm0 : m0 ≤ 65536) : Met l yJ0_isEmpty_aae02 wsJ0_isEmpty_aae02 ({ frames := 0, cells := 0, slots := 0, locals := 0 } : Room) (va_Pc [.ref q0] (PV dC dI cB z G q0 m0)) (vp_Si (fun r => r = bI (decide (m0 = 0)))) 0 0 (fun _ => False) := by
  refine ofWF (cc := cJ0_isEmpty_aae02) (maxL := 1) (ret := (some .boolean)) (by decide +kernel) rfl ?_
  intro p e s m args below meth c s₁ B hml hv
  obtain ⟨rfl, hPB, hV⟩ := hv
  obtain ⟨hV1, hV2, t9, g9, hV3, hV4, hV5⟩ := id hV
  have hx := B.exec
  have hb := B.bytes
  have hr := B.returns
  have hts := atoms_spec (ws := wsJ0_isEmpty_aae02) B.pre
  have hown : s.vm.findClass RJ0 = some m.cls := findClass_of_methodNamed B.named
  have hlocks := B.notSynchronized
  have hB := WB.of hPB
  have hl := lv_entry ([.ref q0]) (n := 1) (Nat.le_of_ble_eq_true rfl)
  rw [lg_entry_eq]
  generalize (lg_sl ([.ref q0]) ++ List.replicate (1 - (lg_sl ([.ref q0])).length) Slot.unset).toArray = ls at hl ⊢
  have hl : lv_has ls 1 [(0, .ref q0)] := hl
  show W p l e ({ frames := 0, cells := 0, slots := 0, locals := 0 } : Room) s m ([.ref q0]).toArray below meth c s.heap [] 0 0 (MQ below (vp_Si (fun r => r = bI (decide (m0 = 0)))) ([.ref q0]).toArray s 0 0 (fun _ => False)) (F0 m 0 ls [])
  refine lv_aload_n hx hb dJ0_isEmpty_aae02_0 rfl (lv_at hl 0 rfl) ?_
  refine vk_getf hx hb hV3 hB.2.2.2.1 hown (hts (.fieldLink RJ0 9 "java/lang/String" "value" "[B") (tm 386 (by decide +kernel) rfl)) (fun _ h => h) dJ0_isEmpty_aae02_1 ?_
  refine va_tlen hx hb hV4 hB.2.2.2.1 (v := nI m0) rfl dJ0_isEmpty_aae02_4 ?_
  refine kn_if_ne (tgt := 12) hx hb (by omega) dJ0_isEmpty_aae02_5 (by decide) (fun k_1 => ?_) (fun k_1 => ?_)
  · skip
    have h5 := k_1
    refine lv_iconst (v := nI 0) hx hb dJ0_isEmpty_aae02_12 (by decide) ?_
    exact W.zret (v := bI false) hx hb hr (bI_narrow _) (fun t9 ht9 hW9 => ⟨_, rfl, (kd_f h5), ht9⟩) (fun _ h => nomatch h) dJ0_isEmpty_aae02_13
  · skip
    have h5 := k_1
    refine lv_iconst (v := nI 1) hx hb dJ0_isEmpty_aae02_8 (by decide) ?_
    refine lv_goto (tgt := 13) hx hb dJ0_isEmpty_aae02_9 (by decide) ?_
    exact W.zret (v := bI true) hx hb hr (bI_narrow _) (fun t9 ht9 hW9 => ⟨_, rfl, (kd_t h5), ht9⟩) (fun _ h => nomatch h) dJ0_isEmpty_aae02_13
set_option maxHeartbeats 4000000 in
set_option maxRecDepth 100000 in
theorem m_J5_inflateIfNeededFor_a7421 (l : Launch) (dC : Nat → ClassId) (dI : Nat → Nat → Nat) (cB : ClassId) (z : Nat) (a b n cp : Nat) (f : Nat → Int32) (q0 m0 : Nat) (hm0 : m0 ≤ 65536) : Met l yJ5_inflateIfNeededFor_a7421 wsJ5_inflateIfNeededFor_a7421 ({ frames := 1, cells := 0, slots := 0, locals := 20 } : Room) (va_Pc [.ref a, .ref q0] (PV dC dI cB z [(a, eSB b n), (b, eBy cB cp f)] q0 m0)) (va_Sv (fun _ => True)) 0 0 (fun _ => False) := by
  refine ofWF (cc := cJ5_inflateIfNeededFor_a7421) (maxL := 2) (ret := none) (by decide +kernel) rfl ?_
  intro p e s m args below meth c s₁ B hml hv
  obtain ⟨rfl, hPB, hV⟩ := hv
  obtain ⟨hV1, hV2, t9, g9, hV3, hV4, hV5⟩ := id hV
  have hx := B.exec
  have hb := B.bytes
  have hr := B.returns
  have hts := atoms_spec (ws := wsJ5_inflateIfNeededFor_a7421) B.pre
  have hown : s.vm.findClass RJ5 = some m.cls := findClass_of_methodNamed B.named
  have hlocks := B.notSynchronized
  have hinJ4 : ∀ w ∈ u_ws RJ4 TJ4 4, w ∈ wsJ5_inflateIfNeededFor_a7421 := tu 1326 (by decide +kernel) rfl
  have hB := WB.of hPB
  have hl := lv_entry ([.ref a, .ref q0]) (n := 2) (Nat.le_of_ble_eq_true rfl)
  rw [lg_entry_eq]
  generalize (lg_sl ([.ref a, .ref q0]) ++ List.replicate (2 - (lg_sl ([.ref a, .ref q0])).length) Slot.unset).toArray = ls at hl ⊢
  have hl : lv_has ls 2 [(0, .ref a), (1, .ref q0)] := hl
  show W p l e ({ frames := 1, cells := 0, slots := 0, locals := 20 } : Room) s m ([.ref a, .ref q0]).toArray below meth c s.heap [] 0 0 (MQ below (va_Sv (fun _ => True)) ([.ref a, .ref q0]).toArray s 0 0 (fun _ => False)) (F0 m 0 ls [])
  refine va_gets hx hb hB.2.2.2.2.2.1 hB.2.2.2.1 hown (hts (.fieldLink RJ5 18 "java/lang/String" "COMPACT_STRINGS" "Z") (tm 283 (by decide +kernel) rfl)) (fun _ h => h) dJ5_inflateIfNeededFor_a7421_0 ?_
  refine kn_if_eq (tgt := 21) hx hb (by omega) dJ5_inflateIfNeededFor_a7421_3 (by decide) (fun k_1 => absurd k_1 (by omega)) (fun k_1 => ?_)
  refine lv_aload_n hx hb dJ5_inflateIfNeededFor_a7421_6 rfl (lv_at hl 0 rfl) ?_
  refine va_get (D := (dC, dI)) (ci := 1) (C := RJ4) (T := TJ4) (N := 4) (fs := [.ref b, .int (nI 0), .int (nI 0), .int (nI n)]) hx hb hts hinJ4 hown hB.2.1 hB.1 0 rfl rfl 1 (by decide) (hts (.fieldLink RJ5 22 "java/lang/AbstractStringBuilder" "coder" "B") (tm 217 (by decide +kernel) rfl)) (fun _ h => h) rfl dJ5_inflateIfNeededFor_a7421_7 ?_
  refine lv_aload_n hx hb dJ5_inflateIfNeededFor_a7421_10 rfl (lv_at hl 1 rfl) ?_
  refine kx_cr (v := nI 0) (va_runV (As := []) (rest := [.int (nI 0)]) ⟨hx, hb, hml, hown, hts⟩ (m_J0_coder_7d493 l dC dI cB z ([(a, eSB b n), (b, eBy cB cp f)]) q0 m0 hm0) (cwV 0 hts gJ5_inflateIfNeededFor_a7421_J0_coder_7d493 rfl rfl rfl hdJ0_coder_7d493_0 ⟨Nat.le_of_ble_eq_true rfl, Nat.le_of_ble_eq_true rfl⟩) (hB.preQ hV) rfl rfl hl.1 rfl (lv_room (Nat.le_of_ble_eq_true rfl)) dJ5_inflateIfNeededFor_a7421_11 ⟨Nat.le_of_ble_eq_true rfl, Nat.le_of_ble_eq_true rfl⟩) (fun _ h => h) ?_
  refine kn_icmp_eq (tgt := 21) hx hb (by omega) (by omega) dJ5_inflateIfNeededFor_a7421_14 (by decide) (fun k_2 => ?_) (fun k_2 => absurd k_2 (by omega))
  exact W.vret hx hb hr (fun t9 ht9 hW9 => ⟨rfl, trivial, ht9⟩) (fun _ h => nomatch h) dJ5_inflateIfNeededFor_a7421_21
set_option maxHeartbeats 4000000 in
set_option maxRecDepth 100000 in
theorem m_J0_getBytes_840e7 (l : Launch) (dC : Nat → ClassId) (dI : Nat → Nat → Nat) (cB : ClassId) (z : Nat) (a b n cp : Nat) (f : Nat → Int32) (q0 m0 : Nat) (hm0 : m0 ≤ 65536) (i : Nat) (hi9 : i + m0 ≤ cp) (hm : cp ≤ 65536) (hf : sb_Fit f) : Met l yJ0_getBytes_840e7 wsJ0_getBytes_840e7 ({ frames := 1, cells := 0, slots := 0, locals := 40 } : Room) (va_Pc [.ref q0, .ref b, .int (nI i), .int (nI 0)] (PV dC dI cB z [(a, eSB b n), (b, eBy cB cp f)] q0 m0)) (va_Qv (fun u : Nat → Int32 => sb_Fit u) (fun u t => PB dC dI cB z [(a, eSB b n), (b, eBy cB cp u)] t) (zB z)) 0 0 (zB z) := by
  refine ofWF (cc := cJ0_getBytes_840e7) (maxL := 4) (ret := none) (by decide +kernel) rfl ?_
  intro p e s m args below meth c s₁ B hml hv
  obtain ⟨rfl, hPB, hV⟩ := hv
  obtain ⟨hV1, hV2, t9, g9, hV3, hV4, hV5⟩ := id hV
  have hx := B.exec
  have hb := B.bytes
  have hr := B.returns
  have hts := atoms_spec (ws := wsJ0_getBytes_840e7) B.pre
  have hown : s.vm.findClass RJ0 = some m.cls := findClass_of_methodNamed B.named
  have hlocks := B.notSynchronized
  have hB := WB.of hPB
  have hl := lv_entry ([.ref q0, .ref b, .int (nI i), .int (nI 0)]) (n := 4) (Nat.le_of_ble_eq_true rfl)
  rw [lg_entry_eq]
  generalize (lg_sl ([.ref q0, .ref b, .int (nI i), .int (nI 0)]) ++ List.replicate (4 - (lg_sl ([.ref q0, .ref b, .int (nI i), .int (nI 0)])).length) Slot.unset).toArray = ls at hl ⊢
  have hl : lv_has ls 4 [(0, .ref q0), (1, .ref b), (2, .int (nI i)), (3, .int (nI 0))] := hl
  show W p l e ({ frames := 1, cells := 0, slots := 0, locals := 40 } : Room) s m ([.ref q0, .ref b, .int (nI i), .int (nI 0)]).toArray below meth c s.heap [] 0 0 (MQ below (va_Qv (fun u : Nat → Int32 => sb_Fit u) (fun u t => PB dC dI cB z [(a, eSB b n), (b, eBy cB cp u)] t) (zB z)) ([.ref q0, .ref b, .int (nI i), .int (nI 0)]).toArray s 0 0 (zB z)) (F0 m 0 ls [])
  refine lv_aload_n hx hb dJ0_getBytes_840e7_0 rfl (lv_at hl 0 rfl) ?_
  refine kx_cr (v := nI 0) (va_runV (As := []) (rest := []) ⟨hx, hb, hml, hown, hts⟩ (m_J0_coder_7d493 l dC dI cB z ([(a, eSB b n), (b, eBy cB cp f)]) q0 m0 hm0) (cwV 0 hts gJ0_getBytes_840e7_J0_coder_7d493 rfl rfl rfl hdJ0_coder_7d493_0 ⟨Nat.le_of_ble_eq_true rfl, Nat.le_of_ble_eq_true rfl⟩) (hB.preQ hV) rfl rfl hl.1 rfl (lv_room (Nat.le_of_ble_eq_true rfl)) dJ0_getBytes_840e7_1 ⟨Nat.le_of_ble_eq_true rfl, Nat.le_of_ble_eq_true rfl⟩) (fun _ h => h) ?_
  refine lv_iload_n hx hb dJ0_getBytes_840e7_4 rfl (lv_at hl 3 rfl) ?_
  refine kn_icmp_ne (tgt := 28) hx hb (by omega) (by omega) dJ0_getBytes_840e7_5 (by decide) (fun k_1 => absurd k_1 (by omega)) (fun k_1 => ?_)
  refine lv_aload_n hx hb dJ0_getBytes_840e7_8 rfl (lv_at hl 0 rfl) ?_
  refine vk_getf hx hb hV3 hB.2.2.2.1 hown (hts (.fieldLink RJ0 9 "java/lang/String" "value" "[B") (tm 386 (by decide +kernel) rfl)) (fun _ h => h) dJ0_getBytes_840e7_9 ?_
  refine lv_iconst (v := nI 0) hx hb dJ0_getBytes_840e7_12 (by decide) ?_
  refine lv_aload_n hx hb dJ0_getBytes_840e7_13 rfl (lv_at hl 1 rfl) ?_
  refine lv_iload_n hx hb dJ0_getBytes_840e7_14 rfl (lv_at hl 2 rfl) ?_
  refine lv_iload_n hx hb dJ0_getBytes_840e7_15 rfl (lv_at hl 3 rfl) ?_
  refine lv_ishl hx hb dJ0_getBytes_840e7_16 ?_
  rw [show (nI i) <<< ((nI 0) &&& 31) = nI i from sb_shl0 _]
  refine lv_aload_n hx hb dJ0_getBytes_840e7_17 rfl (lv_at hl 0 rfl) ?_
  refine vk_getf hx hb hV3 hB.2.2.2.1 hown (hts (.fieldLink RJ0 9 "java/lang/String" "value" "[B") (tm 386 (by decide +kernel) rfl)) (fun _ h => h) dJ0_getBytes_840e7_18 ?_
  refine va_tlen hx hb hV4 hB.2.2.2.1 (v := nI m0) rfl dJ0_getBytes_840e7_21 ?_
  refine ks_cpT hx hb (by rw [hml]; exact hl.1.symm) hown (hts (.methodLink RJ0 212 arraycopyName) (tm 745 (by decide +kernel) rfl)) (hts (.native arraycopyName) (tm 249 (by decide +kernel) rfl)) (hts (.static arraycopyName) (tm 250 (by decide +kernel) rfl)) (hts (.initialized "java/lang/System") (tm 251 (by decide +kernel) rfl)) hB hV4 hV5 1 (f := f) rfl (by omega) (by omega) (Nat.le_of_ble_eq_true rfl) (Nat.le_of_ble_eq_true rfl) dJ0_getBytes_840e7_22 (fun H locs hB => ?_)
  have hf : sb_Fit (va_cpy g9 f 0 i m0) := fit_cpT hV5 hf
  replace hB : WB dC dI cB z [(a, eSB b n), (b, eBy cB cp (va_cpy g9 f 0 i m0))] s H locs := hB
  refine lv_goto (tgt := 43) hx hb dJ0_getBytes_840e7_25 (by decide) ?_
  exact W.widen (k := 0) (n := 0) (Nat.le_refl _) (Nat.le_refl _) (W.vret hx hb hr (fun t9 ht9 hW9 => ⟨⟨(va_cpy g9 f 0 i m0), rfl, hf, hB.P ht9 hW9⟩, hB.F ht9⟩) hB.L dJ0_getBytes_840e7_43)
set_option maxHeartbeats 4000000 in
set_option maxRecDepth 100000 in
theorem m_J5_putStringAt_47b60 (l : Launch) (dC : Nat → ClassId) (dI : Nat → Nat → Nat) (cB : ClassId) (z : Nat) (a b n cp : Nat) (f : Nat → Int32) (q0 m0 : Nat) (hm0 : m0 ≤ 65536) (i : Nat) (hi9 : i + m0 ≤ cp) (hm : cp ≤ 65536) (hf : sb_Fit f) : Met l yJ5_putStringAt_47b60 wsJ5_putStringAt_47b60 ({ frames := 2, cells := 0, slots := 0, locals := 63 } : Room) (va_Pc [.ref a, .int (nI i), .ref q0] (PV dC dI cB z [(a, eSB b n), (b, eBy cB cp f)] q0 m0)) (va_Qv (fun u : Nat → Int32 => sb_Fit u) (fun u t => PB dC dI cB z [(a, eSB b n), (b, eBy cB cp u)] t) (zB z)) 0 0 (zB z) := by
  refine ofWF (cc := cJ5_putStringAt_47b60) (maxL := 3) (ret := none) (by decide +kernel) rfl ?_
  intro p e s m args below meth c s₁ B hml hv
  obtain ⟨rfl, hPB, hV⟩ := hv
  obtain ⟨hV1, hV2, t9, g9, hV3, hV4, hV5⟩ := id hV
  have hx := B.exec
  have hb := B.bytes
  have hr := B.returns
  have hts := atoms_spec (ws := wsJ5_putStringAt_47b60) B.pre
  have hown : s.vm.findClass RJ5 = some m.cls := findClass_of_methodNamed B.named
  have hlocks := B.notSynchronized
  have hinJ4 : ∀ w ∈ u_ws RJ4 TJ4 4, w ∈ wsJ5_putStringAt_47b60 := tu 1326 (by decide +kernel) rfl
  have hB := WB.of hPB
  have hl := lv_entry ([.ref a, .int (nI i), .ref q0]) (n := 3) (Nat.le_of_ble_eq_true rfl)
  rw [lg_entry_eq]
  generalize (lg_sl ([.ref a, .int (nI i), .ref q0]) ++ List.replicate (3 - (lg_sl ([.ref a, .int (nI i), .ref q0])).length) Slot.unset).toArray = ls at hl ⊢
  have hl : lv_has ls 3 [(0, .ref a), (1, .int (nI i)), (2, .ref q0)] := hl
  show W p l e ({ frames := 2, cells := 0, slots := 0, locals := 63 } : Room) s m ([.ref a, .int (nI i), .ref q0]).toArray below meth c s.heap [] 0 0 (MQ below (va_Qv (fun u : Nat → Int32 => sb_Fit u) (fun u t => PB dC dI cB z [(a, eSB b n), (b, eBy cB cp u)] t) (zB z)) ([.ref a, .int (nI i), .ref q0]).toArray s 0 0 (zB z)) (F0 m 0 ls [])
  refine lv_aload_n hx hb dJ5_putStringAt_47b60_0 rfl (lv_at hl 0 rfl) ?_
  refine lv_aload_n hx hb dJ5_putStringAt_47b60_1 rfl (lv_at hl 2 rfl) ?_
  refine va_csv (va_Run.run (va_runU (As := [.ref q0]) (rest := []) ⟨hx, hb, hml, hown, hts⟩ (m_J5_inflateIfNeededFor_a7421 l dC dI cB z a b n cp f q0 m0 hm0) (va_cwU 1 hts gJ5_putStringAt_47b60_J5_inflateIfNeededFor_a7421_u397J4 rfl rfl rfl rfl (by decide +kernel) ⟨Nat.le_of_ble_eq_true rfl, Nat.le_of_ble_eq_true rfl⟩) (hB.preVV hV (ci := 1) (r := (RJ4, TJ4, 4)) rfl 0 rfl) rfl rfl hl.1 rfl (lv_room (Nat.le_of_ble_eq_true rfl)) dJ5_putStringAt_47b60_2 ⟨Nat.le_of_ble_eq_true rfl, Nat.le_of_ble_eq_true rfl⟩)) (fun _ => ?_)
  refine lv_aload_n hx hb dJ5_putStringAt_47b60_5 rfl (lv_at hl 2 rfl) ?_
  refine lv_aload_n hx hb dJ5_putStringAt_47b60_6 rfl (lv_at hl 0 rfl) ?_
  refine va_get (D := (dC, dI)) (ci := 1) (C := RJ4) (T := TJ4) (N := 4) (fs := [.ref b, .int (nI 0), .int (nI 0), .int (nI n)]) hx hb hts hinJ4 hown hB.2.1 hB.1 0 rfl rfl 0 (by decide) (hts (.fieldLink RJ5 15 "java/lang/AbstractStringBuilder" "value" "[B") (tm 216 (by decide +kernel) rfl)) (fun _ h => h) rfl dJ5_putStringAt_47b60_7 ?_
  refine lv_iload_n hx hb dJ5_putStringAt_47b60_10 rfl (lv_at hl 1 rfl) ?_
  refine lv_aload_n hx hb dJ5_putStringAt_47b60_11 rfl (lv_at hl 0 rfl) ?_
  refine va_get (D := (dC, dI)) (ci := 1) (C := RJ4) (T := TJ4) (N := 4) (fs := [.ref b, .int (nI 0), .int (nI 0), .int (nI n)]) hx hb hts hinJ4 hown hB.2.1 hB.1 0 rfl rfl 1 (by decide) (hts (.fieldLink RJ5 22 "java/lang/AbstractStringBuilder" "coder" "B") (tm 217 (by decide +kernel) rfl)) (fun _ h => h) rfl dJ5_putStringAt_47b60_12 ?_
  refine kb_v (va_runV (As := [.ref b, .int (nI i), .int (nI 0)]) (rest := []) ⟨hx, hb, hml, hown, hts⟩ (m_J0_getBytes_840e7 l dC dI cB z a b n cp f q0 m0 hm0 i (by omega) (by omega) hf) (cwV 3 hts gJ5_putStringAt_47b60_J0_getBytes_840e7 rfl rfl rfl hdJ0_getBytes_840e7_3 ⟨Nat.le_of_ble_eq_true rfl, Nat.le_of_ble_eq_true rfl⟩) (hB.preQ hV) rfl rfl hl.1 rfl (lv_room (Nat.le_of_ble_eq_true rfl)) dJ5_putStringAt_47b60_15 ⟨Nat.le_of_ble_eq_true rfl, Nat.le_of_ble_eq_true rfl⟩) hB (fun u H locs hu hB => ?_)
  replace hB : WB dC dI cB z [(a, eSB b n), (b, eBy cB cp u)] s H locs := hB
  have hf : sb_Fit u := hu
  exact W.widen (k := 0) (n := 0) (Nat.le_refl _) (Nat.le_refl _) (W.vret hx hb hr (fun t9 ht9 hW9 => ⟨⟨u, rfl, hf, hB.P ht9 hW9⟩, hB.F ht9⟩) hB.L dJ5_putStringAt_47b60_18)
set_option maxHeartbeats 4000000 in
set_option maxRecDepth 100000 in
theorem m_J5_append_cf1ce (l : Launch) (dC : Nat → ClassId) (dI : Nat → Nat → Nat) (cB : ClassId) (z : Nat) (a b n cp : Nat) (f : Nat → Int32) (q0 m0 : Nat) (hm0 : m0 ≤ 65536) (hnm : n ≤ cp) (hm : cp ≤ 65536) (hf : sb_Fit f) (hnn : n + m0 ≤ 65536) (hcap : sb_cap (n + m0) cp ≤ 65536) : Met l yJ5_append_cf1ce wsJ5_append_cf1ce ({ frames := 4, cells := 1, slots := (gm (n + m0) cp), locals := 85 } : Room) (va_Pc [.ref a, .ref q0] (PV dC dI cB z [(a, eSB b n), (b, eBy cB cp f)] q0 m0)) (va_Qr (fun u : Nat × (Nat → Int32) => sb_Fit u.2) (fun u q9 t => q9 = a ∧ PB dC dI cB z [(a, eSB u.1 (n + m0)), (u.1, eBy cB (sb_cap (n + m0) cp) u.2)] t) (zB z)) 1 (gm (n + m0) cp) (zB z) := by
  refine ofWF (cc := cJ5_append_cf1ce) (maxL := 3) (ret := (some (.object "java/lang/AbstractStringBuilder"))) (by decide +kernel) rfl ?_
  intro p e s m args below meth c s₁ B hml hv
  obtain ⟨rfl, hPB, hV⟩ := hv
  obtain ⟨hV1, hV2, t9, g9, hV3, hV4, hV5⟩ := id hV
  have hx := B.exec
  have hb := B.bytes
  have hr := B.returns
  have hts := atoms_spec (ws := wsJ5_append_cf1ce) B.pre
  have hown : s.vm.findClass RJ5 = some m.cls := findClass_of_methodNamed B.named
  have hlocks := B.notSynchronized
  have hinJ4 : ∀ w ∈ u_ws RJ4 TJ4 4, w ∈ wsJ5_append_cf1ce := tu 1326 (by decide +kernel) rfl
  have hB := WB.of hPB
  have hl := lv_entry ([.ref a, .ref q0]) (n := 3) (Nat.le_of_ble_eq_true rfl)
  rw [lg_entry_eq]
  generalize (lg_sl ([.ref a, .ref q0]) ++ List.replicate (3 - (lg_sl ([.ref a, .ref q0])).length) Slot.unset).toArray = ls at hl ⊢
  have hl : lv_has ls 3 [(0, .ref a), (1, .ref q0)] := hl
  show W p l e ({ frames := 4, cells := 1, slots := (gm (n + m0) cp), locals := 85 } : Room) s m ([.ref a, .ref q0]).toArray below meth c s.heap [] 0 0 (MQ below (va_Qr (fun u : Nat × (Nat → Int32) => sb_Fit u.2) (fun u q9 t => q9 = a ∧ PB dC dI cB z [(a, eSB u.1 (n + m0)), (u.1, eBy cB (sb_cap (n + m0) cp) u.2)] t) (zB z)) ([.ref a, .ref q0]).toArray s 1 (gm (n + m0) cp) (zB z)) (F0 m 0 ls [])
  have hge9 := sb_cap_ge (n + m0) cp
  have hat := KatJ4 hPB
  refine lv_aload_n hx hb dJ5_append_cf1ce_0 rfl (lv_at hl 1 rfl) ?_
  refine lv_ifnonnull (tgt := 9) hx hb dJ5_append_cf1ce_1 (by decide) ?_
  refine lv_aload_n hx hb dJ5_append_cf1ce_9 rfl (lv_at hl 1 rfl) ?_
  refine kx_cr (v := nI m0) (va_runV (As := []) (rest := []) ⟨hx, hb, hml, hown, hts⟩ (m_J0_length_8abf5 l dC dI cB z ([(a, eSB b n), (b, eBy cB cp f)]) q0 m0 hm0) (cwV 0 hts gJ5_append_cf1ce_J0_length_8abf5 rfl rfl rfl hdJ0_length_8abf5_0 ⟨Nat.le_of_ble_eq_true rfl, Nat.le_of_ble_eq_true rfl⟩) (hB.preQ hV) rfl rfl hl.1 rfl (lv_room (Nat.le_of_ble_eq_true rfl)) dJ5_append_cf1ce_10 ⟨by simp, by simp⟩) (fun _ h => h) ?_
  refine lv_istore_n (lv' := [(2, .int (nI m0)), (0, .ref a), (1, .ref q0)]) hx hb dJ5_append_cf1ce_13 rfl hl (by decide) rfl (fun ls hl => ?_)
  refine lv_aload_n hx hb dJ5_append_cf1ce_14 rfl (lv_at hl 1 rfl) ?_
  refine lv_aload_n hx hb dJ5_append_cf1ce_15 rfl (lv_at hl 1 rfl) ?_
  refine va_get (D := (dC, dI)) (ci := 1) (C := RJ4) (T := TJ4) (N := 4) (fs := [.ref b, .int (nI 0), .int (nI 0), .int (nI n)]) hx hb hts hinJ4 hown hB.2.1 hB.1 0 rfl rfl 3 (by decide) (hts (.fieldLink RJ5 79 "java/lang/AbstractStringBuilder" "count" "I") (tm 277 (by decide +kernel) rfl)) (fun _ h => h) rfl dJ5_append_cf1ce_16 ?_
  refine lv_iload_n hx hb dJ5_append_cf1ce_19 rfl (lv_at hl 0 rfl) ?_
  refine kn_iadd hx hb dJ5_append_cf1ce_20 ?_
  refine kb_v (va_runU (As := [.int (nI (n + m0))]) (rest := []) ⟨hx, hb, hml, hown, hts⟩ (m_J5_ensureCapacityInternal_d00df l dC dI cB z a b n cp f (n + m0) (by omega) (by omega) hf hcap) (va_cwU 1 hts gJ5_append_cf1ce_J5_ensureCapacityInternal_d00df_u100J4 rfl rfl rfl rfl (by decide +kernel) ⟨Nat.le_of_ble_eq_true rfl, Nat.le_of_ble_eq_true rfl⟩) (hB.preV (ci := 1) (q := (RJ4, TJ4, 4)) rfl 0 rfl) rfl rfl hl.1 rfl (lv_room (Nat.le_of_ble_eq_true rfl)) dJ5_append_cf1ce_21 ⟨by simp, by simp⟩) hB (fun u H locs hu hB => ?_)
  obtain ⟨b2, f2⟩ := u
  replace hB : WB dC dI cB z [(a, eSB b2 n), (b2, eBy cB (sb_cap (n + m0) cp) f2)] s H locs := hB
  have hf : sb_Fit f2 := hu
  have hge := sb_cap_ge (n + m0) cp
  refine lv_aload_n hx hb dJ5_append_cf1ce_24 rfl (lv_at hl 1 rfl) ?_
  refine lv_aload_n hx hb dJ5_append_cf1ce_25 rfl (lv_at hl 1 rfl) ?_
  refine va_get (D := (dC, dI)) (ci := 1) (C := RJ4) (T := TJ4) (N := 4) (fs := [.ref b2, .int (nI 0), .int (nI 0), .int (nI n)]) hx hb hts hinJ4 hown hB.2.1 hB.1 0 rfl rfl 3 (by decide) (hts (.fieldLink RJ5 79 "java/lang/AbstractStringBuilder" "count" "I") (tm 277 (by decide +kernel) rfl)) (fun _ h => h) rfl dJ5_append_cf1ce_26 ?_
  refine lv_aload_n hx hb dJ5_append_cf1ce_29 rfl (lv_at hl 2 rfl) ?_
  refine kb_v (va_runU (As := [.int (nI n), .ref q0]) (rest := []) ⟨hx, hb, hml, hown, hts⟩ (m_J5_putStringAt_47b60 l dC dI cB z a b2 n (sb_cap (n + m0) cp) f2 q0 m0 hm0 n (by omega) (by omega) hf) (va_cwU 2 hts gJ5_append_cf1ce_J5_putStringAt_47b60_u208J4 rfl rfl rfl rfl (by decide +kernel) ⟨Nat.le_of_ble_eq_true rfl, Nat.le_of_ble_eq_true rfl⟩) (hB.preVV hV (ci := 1) (r := (RJ4, TJ4, 4)) rfl 0 rfl) rfl rfl hl.1 rfl (lv_room (Nat.le_of_ble_eq_true rfl)) dJ5_append_cf1ce_30 ⟨by simp, by simp⟩) hB (fun u H locs hu hB => ?_)
  replace hB : WB dC dI cB z [(a, eSB b2 n), (b2, eBy cB (sb_cap (n + m0) cp) u)] s H locs := hB
  have hf : sb_Fit u := hu
  refine lv_aload_n hx hb dJ5_append_cf1ce_33 rfl (lv_at hl 1 rfl) ?_
  refine lv_dup hx hb dJ5_append_cf1ce_34 rfl ?_
  refine va_get (D := (dC, dI)) (ci := 1) (C := RJ4) (T := TJ4) (N := 4) (fs := [.ref b2, .int (nI 0), .int (nI 0), .int (nI n)]) hx hb hts hinJ4 hown hB.2.1 hB.1 0 rfl rfl 3 (by decide) (hts (.fieldLink RJ5 79 "java/lang/AbstractStringBuilder" "count" "I") (tm 277 (by decide +kernel) rfl)) (fun _ h => h) rfl dJ5_append_cf1ce_35 ?_
  refine lv_iload_n hx hb dJ5_append_cf1ce_38 rfl (lv_at hl 0 rfl) ?_
  refine kn_iadd hx hb dJ5_append_cf1ce_39 ?_
  refine kb_put (fs := [.ref b2, .int (nI 0), .int (nI 0), .int (nI n)]) hx hb hts hinJ4 hown hB 0 rfl 3 (by decide) (hts (.fieldLink RJ5 79 "java/lang/AbstractStringBuilder" "count" "I") (tm 277 (by decide +kernel) rfl)) (fun _ h => h) rfl rfl rfl rfl (Nat.le_of_ble_eq_true rfl) dJ5_append_cf1ce_40 (fun H locs hB => ?_)
  replace hB : WB dC dI cB z [(a, eSB b2 (n + m0)), (b2, eBy cB (sb_cap (n + m0) cp) u)] s H locs := hB
  refine lv_aload_n hx hb dJ5_append_cf1ce_43 rfl (lv_at hl 1 rfl) ?_
  exact W.widen (k := 1) (n := (gm (n + m0) cp)) (by simp) (by simp) (W.aret (v := .ref a) hx hb hr (Or.inl ⟨_, rfl⟩) (Or.inr ⟨_, rfl⟩) (fun t9 ht9 hW9 => ⟨⟨(b2, u), _, rfl, hf, rfl, hB.P ht9 hW9⟩, hB.F ht9⟩) hB.L dJ5_append_cf1ce_44)
set_option maxHeartbeats 4000000 in
set_option maxRecDepth 100000 in
theorem m_J4_append_15ec4 (l : Launch) (dC : Nat → ClassId) (dI : Nat → Nat → Nat) (cB : ClassId) (z : Nat) (a b n cp : Nat) (f : Nat → Int32) (q0 m0 : Nat) (hm0 : m0 ≤ 65536) (hnm : n ≤ cp) (hm : cp ≤ 65536) (hf : sb_Fit f) (hnn : n + m0 ≤ 65536) (hcap : sb_cap (n + m0) cp ≤ 65536) : Met l yJ4_append_15ec4 wsJ4_append_15ec4 ({ frames := 5, cells := 1, slots := (gm (n + m0) cp), locals := 107 } : Room) (va_Pc [.ref a, .ref q0] (PV dC dI cB z [(a, eSB b n), (b, eBy cB cp f)] q0 m0)) (va_Qr (fun u : Nat × (Nat → Int32) => sb_Fit u.2) (fun u q9 t => q9 = a ∧ PB dC dI cB z [(a, eSB u.1 (n + m0)), (u.1, eBy cB (sb_cap (n + m0) cp) u.2)] t) (zB z)) 1 (gm (n + m0) cp) (zB z) := by
  refine ofWF (cc := cJ4_append_15ec4) (maxL := 2) (ret := (some (.object "java/lang/StringBuilder"))) (by decide +kernel) rfl ?_
  intro p e s m args below meth c s₁ B hml hv
  obtain ⟨rfl, hPB, hV⟩ := hv
  obtain ⟨hV1, hV2, t9, g9, hV3, hV4, hV5⟩ := id hV
  have hx := B.exec
  have hb := B.bytes
  have hr := B.returns
  have hts := atoms_spec (ws := wsJ4_append_15ec4) B.pre
  have hown : s.vm.findClass RJ4 = some m.cls := findClass_of_methodNamed B.named
  have hlocks := B.notSynchronized
  have hB := WB.of hPB
  have hl := lv_entry ([.ref a, .ref q0]) (n := 2) (Nat.le_of_ble_eq_true rfl)
  rw [lg_entry_eq]
  generalize (lg_sl ([.ref a, .ref q0]) ++ List.replicate (2 - (lg_sl ([.ref a, .ref q0])).length) Slot.unset).toArray = ls at hl ⊢
  have hl : lv_has ls 2 [(0, .ref a), (1, .ref q0)] := hl
  show W p l e ({ frames := 5, cells := 1, slots := (gm (n + m0) cp), locals := 107 } : Room) s m ([.ref a, .ref q0]).toArray below meth c s.heap [] 0 0 (MQ below (va_Qr (fun u : Nat × (Nat → Int32) => sb_Fit u.2) (fun u q9 t => q9 = a ∧ PB dC dI cB z [(a, eSB u.1 (n + m0)), (u.1, eBy cB (sb_cap (n + m0) cp) u.2)] t) (zB z)) ([.ref a, .ref q0]).toArray s 1 (gm (n + m0) cp) (zB z)) (F0 m 0 ls [])
  have hat := KatJ4 hPB
  refine lv_aload_n hx hb dJ4_append_15ec4_0 rfl (lv_at hl 0 rfl) ?_
  refine lv_aload_n hx hb dJ4_append_15ec4_1 rfl (lv_at hl 1 rfl) ?_
  refine kb_r (va_runSU (As := [.ref q0]) (rest := []) (C := RJ4) hat ⟨hx, hb, hml, hown, hts⟩ (m_J5_append_cf1ce l dC dI cB z a b n cp f q0 m0 hm0 (by omega) (by omega) hf (by omega) hcap) (va_cwSU 1 hts gJ4_append_15ec4_J5_append_cf1ce_s29 rfl rfl rfl (by decide +kernel) ⟨Nat.le_of_ble_eq_true rfl, Nat.le_of_ble_eq_true rfl⟩) (hB.preVV hV (ci := 1) (r := (RJ4, TJ4, 4)) rfl 0 rfl) rfl rfl hl.1 rfl (lv_room (Nat.le_of_ble_eq_true rfl)) dJ4_append_15ec4_2 ⟨by simp, by simp⟩) hB (fun u q9 H locs hu hq hB => ?_)
  obtain ⟨b3, f3⟩ := u
  rw [hq]
  replace hB : WB dC dI cB z [(a, eSB b3 (n + m0)), (b3, eBy cB (sb_cap (n + m0) cp) f3)] s H locs := hB
  have hf : sb_Fit f3 := hu
  refine lv_pop hx hb dJ4_append_15ec4_5 rfl ?_
  refine lv_aload_n hx hb dJ4_append_15ec4_6 rfl (lv_at hl 0 rfl) ?_
  exact W.widen (k := 1) (n := (gm (n + m0) cp)) (by simp) (by simp) (W.aret (v := .ref a) hx hb hr (Or.inl ⟨_, rfl⟩) (Or.inr ⟨_, rfl⟩) (fun t9 ht9 hW9 => ⟨⟨(b3, f3), _, rfl, hf, rfl, hB.P ht9 hW9⟩, hB.F ht9⟩) hB.L dJ4_append_15ec4_7)
set_option maxHeartbeats 4000000 in
set_option maxRecDepth 100000 in
theorem s_J0_init_db425 (l : Launch) (dC : Nat → ClassId) (dI : Nat → Nat → Nat) (cB : ClassId) (z : Nat) (a b n cp : Nat) (f : Nat → Int32) (r : Nat) (hnm : n ≤ cp) (hm : cp ≤ 65536) (hf : sb_Fit f) : Met l yJ0_init_db425 wsJ0_init_db425 ({ frames := 3, cells := 1, slots := n, locals := 86 } : Room) (va_Pc [.ref r, .ref a, .null] (PB dC dI cB z [(a, eSB b n), (b, eBy cB cp f), (r, .inr (0, [.null, .int (nI 0), .int (nI 0), .int (nI 0)]))])) (va_Qv (fun u : Nat × (Nat → Int32) => sb_Fit u.2) (fun u t => PB dC dI cB z [(a, eSB b n), (b, eBy cB cp f), (r, .inr (0, [.ref u.1, .int (nI 0), .int (nI 0), .int (nI 0)])), (u.1, eBy cB n u.2)] t) (zB z)) 1 n (zB z) := by
  refine ofWF (cc := cJ0_init_db425) (maxL := 5) (ret := none) (by decide +kernel) rfl ?_
  intro p e s m args below meth c s₁ B hml hv
  obtain ⟨rfl, hPB⟩ := hv
  have hx := B.exec
  have hb := B.bytes
  have hr := B.returns
  have hts := atoms_spec (ws := wsJ0_init_db425) B.pre
  have hown : s.vm.findClass RJ0 = some m.cls := findClass_of_methodNamed B.named
  have hlocks := B.notSynchronized
  have hB := WB.of hPB
  have hl := lv_entry ([.ref r, .ref a, .null]) (n := 5) (Nat.le_of_ble_eq_true rfl)
  rw [lg_entry_eq]
  generalize (lg_sl ([.ref r, .ref a, .null]) ++ List.replicate (5 - (lg_sl ([.ref r, .ref a, .null])).length) Slot.unset).toArray = ls at hl ⊢
  have hl : lv_has ls 5 [(0, .ref r), (1, .ref a), (2, .null)] := hl
  show W p l e ({ frames := 3, cells := 1, slots := n, locals := 86 } : Room) s m ([.ref r, .ref a, .null]).toArray below meth c s.heap [] 0 0 (MQ below (va_Qv (fun u : Nat × (Nat → Int32) => sb_Fit u.2) (fun u t => PB dC dI cB z [(a, eSB b n), (b, eBy cB cp f), (r, .inr (0, [.ref u.1, .int (nI 0), .int (nI 0), .int (nI 0)])), (u.1, eBy cB n u.2)] t) (zB z)) ([.ref r, .ref a, .null]).toArray s 1 n (zB z)) (F0 m 0 ls [])
  have hin2 : meth.name = "<init>" := (name_of_methodNamed B.named B.method).1
  have hinJ0 : ∀ w ∈ u_ws RJ0 TJ0 4, w ∈ wsJ0_init_db425 := tu 1327 (by decide +kernel) rfl
  have hat := KatJ4 hPB
  refine lv_aload_n hx hb dJ0_init_db425_0 rfl (lv_at hl 0 rfl) ?_
  refine W.objInit hx hb hown (hts (.methodLink RJ0 1 objectInit) (tm 384 (by decide +kernel) rfl)) (hts (.instanceMethod objectInit) (tm 1 (by decide +kernel) rfl)) (hts (.code objectInit ⟨#[0xb1]⟩ 1 none) (tm 2 (by decide +kernel) rfl)) (g := F0 m 1 ls [.ref r]) rfl (by rw [hml]; exact hl.1) rfl dJ0_init_db425_1 (Nat.le_of_ble_eq_true rfl) (Nat.le_of_ble_eq_true rfl) ?_
  show W p l e _ s m _ below meth c _ _ _ _ _ (F0 m 4 ls [])
  refine lv_aload_n hx hb dJ0_init_db425_4 rfl (lv_at hl 1 rfl) ?_
  refine va_csr (va_Run.run (va_runU (As := []) (rest := []) ⟨hx, hb, hml, hown, hts⟩ (m_J5_getValue_6d5f1 l dC dI cB z ([(a, eSB b n), (b, eBy cB cp f), (r, .inr (0, [.null, .int (nI 0), .int (nI 0), .int (nI 0)]))]) a b n rfl) (va_cwU 0 hts gJ0_init_db425_J5_getValue_6d5f1_u552J4 rfl rfl rfl rfl (by decide +kernel) ⟨Nat.le_of_ble_eq_true rfl, Nat.le_of_ble_eq_true rfl⟩) (hB.preV (ci := 1) (q := (RJ4, TJ4, 4)) rfl 0 rfl) rfl rfl hl.1 rfl (lv_room (Nat.le_of_ble_eq_true rfl)) dJ0_init_db425_5 ⟨Nat.le_of_ble_eq_true rfl, Nat.le_of_ble_eq_true rfl⟩)) (fun k_ hk_ => ?_)
  rw [hk_]
  refine lv_astore_n (lv' := [(3, .ref b), (0, .ref r), (1, .ref a), (2, .null)]) hx hb dJ0_init_db425_8 rfl hl (by decide) rfl (fun ls hl => ?_)
  refine lv_aload_n hx hb dJ0_init_db425_9 rfl (lv_at hl 2 rfl) ?_
  refine kx_cr (v := nI n) (va_runU (As := []) (rest := []) ⟨hx, hb, hml, hown, hts⟩ (m_J4_length_8abf5 l dC dI cB z ([(a, eSB b n), (b, eBy cB cp f), (r, .inr (0, [.null, .int (nI 0), .int (nI 0), .int (nI 0)]))]) a b n rfl) (va_cwO 0 hts gJ0_init_db425_J4_length_8abf5_u549J4 rfl rfl rfl (b0 := cJ5_length_8abf5) (m0 := 1) (r0 := some .int) (by decide +kernel) (by decide +kernel) ⟨Nat.le_of_ble_eq_true rfl, Nat.le_of_ble_eq_true rfl⟩) (hB.preV (ci := 1) (q := (RJ4, TJ4, 4)) rfl 0 rfl) rfl rfl hl.1 rfl (lv_room (Nat.le_of_ble_eq_true rfl)) dJ0_init_db425_10 ⟨Nat.le_of_ble_eq_true rfl, Nat.le_of_ble_eq_true rfl⟩) (fun _ h => h) ?_
  refine lv_istore (lv' := [(4, .int (nI n)), (3, .ref b), (0, .ref r), (1, .ref a), (2, .null)]) hx hb dJ0_init_db425_13 hl (by decide) rfl (fun ls hl => ?_)
  refine lv_aload_n hx hb dJ0_init_db425_15 rfl (lv_at hl 3 rfl) ?_
  refine kx_cr (v := bI true) (va_runU (As := []) (rest := []) ⟨hx, hb, hml, hown, hts⟩ (m_J5_isLatin1_aae02 l dC dI cB z ([(a, eSB b n), (b, eBy cB cp f), (r, .inr (0, [.null, .int (nI 0), .int (nI 0), .int (nI 0)]))]) a b n rfl) (va_cwU 0 hts gJ0_init_db425_J5_isLatin1_aae02_u1047J4 rfl rfl rfl rfl (by decide +kernel) ⟨Nat.le_of_ble_eq_true rfl, Nat.le_of_ble_eq_true rfl⟩) (hB.preV (ci := 1) (q := (RJ4, TJ4, 4)) rfl 0 rfl) rfl rfl hl.1 rfl (lv_room (Nat.le_of_ble_eq_true rfl)) dJ0_init_db425_16 ⟨Nat.le_of_ble_eq_true rfl, Nat.le_of_ble_eq_true rfl⟩) (fun _ h => h) ?_
  refine kb_if_eq (tgt := 41) hx hb dJ0_init_db425_19 (by decide) (fun k_1 => absurd k_1 (by decide)) (fun k_1 => ?_)
  refine lv_aload_n hx hb dJ0_init_db425_22 rfl (lv_at hl 2 rfl) ?_
  refine lv_iconst (v := nI 0) hx hb dJ0_init_db425_23 (by decide) ?_
  refine kb_pstr (fs := [.null, .int (nI 0), .int (nI 0), .int (nI 0)]) hx hb hts hinJ0 hown hB 2 rfl 1 (by decide) (hts (.fieldLink RJ0 15 "java/lang/String" "coder" "B") (tm 385 (by decide +kernel) rfl)) (fun _ h => h) rfl hin2 rfl rfl (by decide) (by decide) (Nat.le_of_ble_eq_true rfl) dJ0_init_db425_24 (fun H locs hB => ?_)
  replace hB : WB dC dI cB z [(a, eSB b n), (b, eBy cB cp f), (r, .inr (0, [.null, .int (nI 0), .int (nI 0), .int (nI 0)]))] s H locs := hB
  refine lv_aload_n hx hb dJ0_init_db425_27 rfl (lv_at hl 2 rfl) ?_
  refine lv_aload_n hx hb dJ0_init_db425_28 rfl (lv_at hl 1 rfl) ?_
  refine lv_iconst (v := nI 0) hx hb dJ0_init_db425_29 (by decide) ?_
  refine lv_iload hx hb dJ0_init_db425_30 (lv_at hl 0 rfl) ?_
  refine kb_r (va_runS (As := [.ref b, .int (nI 0), .int (nI n)]) (rest := [.ref r]) ⟨hx, hb, hml, hown, hts⟩ (m_J7_copyOfRange_39247 l dC dI cB z ([(a, eSB b n), (b, eBy cB cp f), (r, .inr (0, [.null, .int (nI 0), .int (nI 0), .int (nI 0)]))]) b cp f rfl n (by omega) (by omega) hf) (va_cwS 3 hts gJ0_init_db425_J7_copyOfRange_39247 rfl rfl rfl hdJ7_copyOfRange_39247_3.2 ⟨Nat.le_of_ble_eq_true rfl, Nat.le_of_ble_eq_true rfl⟩) (hB.preS) rfl rfl hl.1 rfl (lv_room (Nat.le_of_ble_eq_true rfl)) dJ0_init_db425_32 ⟨by simp, by simp⟩) hB (fun u q9 H locs hu hq hB => ?_)
  replace hB : WB dC dI cB z [(a, eSB b n), (b, eBy cB cp f), (r, .inr (0, [.null, .int (nI 0), .int (nI 0), .int (nI 0)])), (q9, eBy cB n u)] s H locs := hB
  refine kb_pstr (fs := [.null, .int (nI 0), .int (nI 0), .int (nI 0)]) hx hb hts hinJ0 hown hB 2 rfl 0 (by decide) (hts (.fieldLink RJ0 9 "java/lang/String" "value" "[B") (tm 386 (by decide +kernel) rfl)) (fun _ h => h) rfl hin2 rfl rfl rfl rfl (Nat.le_of_ble_eq_true rfl) dJ0_init_db425_35 (fun H locs hB => ?_)
  replace hB : WB dC dI cB z [(a, eSB b n), (b, eBy cB cp f), (r, .inr (0, [.ref q9, .int (nI 0), .int (nI 0), .int (nI 0)])), (q9, eBy cB n u)] s H locs := hB
  refine lv_goto (tgt := 97) hx hb dJ0_init_db425_38 (by decide) ?_
  exact W.widen (k := 1) (n := n) (by simp) (by simp) (W.vret hx hb hr (fun t9 ht9 hW9 => ⟨⟨(q9, u), rfl, hu, hB.P ht9 hW9⟩, hB.F ht9⟩) hB.L dJ0_init_db425_97)
set_option maxHeartbeats 4000000 in
set_option maxRecDepth 100000 in
theorem s_J0_init_81219 (l : Launch) (dC : Nat → ClassId) (dI : Nat → Nat → Nat) (cB : ClassId) (z : Nat) (a b n cp : Nat) (f : Nat → Int32) (r : Nat) (hnm : n ≤ cp) (hm : cp ≤ 65536) (hf : sb_Fit f) : Met l yJ0_init_81219 wsJ0_init_81219 ({ frames := 4, cells := 1, slots := n, locals := 110 } : Room) (va_Pc [.ref r, .ref a] (PB dC dI cB z [(a, eSB b n), (b, eBy cB cp f), (r, .inr (0, [.null, .int (nI 0), .int (nI 0), .int (nI 0)]))])) (va_Qv (fun u : Nat × (Nat → Int32) => sb_Fit u.2) (fun u t => PB dC dI cB z [(a, eSB b n), (b, eBy cB cp f), (r, .inr (0, [.ref u.1, .int (nI 0), .int (nI 0), .int (nI 0)])), (u.1, eBy cB n u.2)] t) (zB z)) 1 n (zB z) := by
  refine ofWF (cc := cJ0_init_81219) (maxL := 2) (ret := none) (by decide +kernel) rfl ?_
  intro p e s m args below meth c s₁ B hml hv
  obtain ⟨rfl, hPB⟩ := hv
  have hx := B.exec
  have hb := B.bytes
  have hr := B.returns
  have hts := atoms_spec (ws := wsJ0_init_81219) B.pre
  have hown : s.vm.findClass RJ0 = some m.cls := findClass_of_methodNamed B.named
  have hlocks := B.notSynchronized
  have hB := WB.of hPB
  have hl := lv_entry ([.ref r, .ref a]) (n := 2) (Nat.le_of_ble_eq_true rfl)
  rw [lg_entry_eq]
  generalize (lg_sl ([.ref r, .ref a]) ++ List.replicate (2 - (lg_sl ([.ref r, .ref a])).length) Slot.unset).toArray = ls at hl ⊢
  have hl : lv_has ls 2 [(0, .ref r), (1, .ref a)] := hl
  show W p l e ({ frames := 4, cells := 1, slots := n, locals := 110 } : Room) s m ([.ref r, .ref a]).toArray below meth c s.heap [] 0 0 (MQ below (va_Qv (fun u : Nat × (Nat → Int32) => sb_Fit u.2) (fun u t => PB dC dI cB z [(a, eSB b n), (b, eBy cB cp f), (r, .inr (0, [.ref u.1, .int (nI 0), .int (nI 0), .int (nI 0)])), (u.1, eBy cB n u.2)] t) (zB z)) ([.ref r, .ref a]).toArray s 1 n (zB z)) (F0 m 0 ls [])
  refine lv_aload_n hx hb dJ0_init_81219_0 rfl (lv_at hl 0 rfl) ?_
  refine lv_aload_n hx hb dJ0_init_81219_1 rfl (lv_at hl 1 rfl) ?_
  refine lv_null hx hb dJ0_init_81219_2 ?_
  refine kb_v (va_runI (As := [.ref a, .null]) (rest := []) ⟨hx, hb, hml, hown, hts⟩ (s_J0_init_db425 l dC dI cB z a b n cp f r hnm hm hf) (cwI 2 hts gJ0_init_81219_J0_init_db425 rfl rfl rfl (hts (.initialized yJ0_init_db425.cls) (tm 264 (by decide +kernel) rfl)) (hts (.methodLink RJ0 489 yJ0_init_db425) (tm 404 (by decide +kernel) rfl)) (hts (.instanceMethod yJ0_init_db425) (tm 405 (by decide +kernel) rfl)) rfl (by decide +kernel) ⟨Nat.le_of_ble_eq_true rfl, Nat.le_of_ble_eq_true rfl⟩) (hB.preS) rfl rfl hl.1 rfl (lv_room (Nat.le_of_ble_eq_true rfl)) dJ0_init_81219_3 ⟨by simp, by simp⟩) hB (fun u H locs hu hB => ?_)
  obtain ⟨v9, g9⟩ := u
  replace hB : WB dC dI cB z [(a, eSB b n), (b, eBy cB cp f), (r, .inr (0, [.ref v9, .int (nI 0), .int (nI 0), .int (nI 0)])), (v9, eBy cB n g9)] s H locs := hB
  have hg : sb_Fit g9 := hu
  exact W.widen (k := 1) (n := n) (by simp) (by simp) (W.vret hx hb hr (fun t9 ht9 hW9 => ⟨⟨(v9, g9), rfl, hg, hB.P ht9 hW9⟩, hB.F ht9⟩) hB.L dJ0_init_81219_6)
set_option maxHeartbeats 4000000 in
set_option maxRecDepth 100000 in
theorem s_J4_toString_0e30d (l : Launch) (dC : Nat → ClassId) (dI : Nat → Nat → Nat) (cB : ClassId) (z : Nat) (a b n cp : Nat) (f : Nat → Int32) (hnm : n ≤ cp) (hm : cp ≤ 65536) (hf : sb_Fit f) : Met l yJ4_toString_0e30d wsJ4_toString_0e30d ({ frames := 5, cells := 2, slots := (4 + n), locals := 131 } : Room) (va_Pc [.ref a] (PB dC dI cB z [(a, eSB b n), (b, eBy cB cp f)])) (va_Qr (fun u : Nat × (Nat → Int32) => sb_Fit u.2) (fun u q9 t => True ∧ PB dC dI cB z [(a, eSB b n), (b, eBy cB cp f), (q9, .inr (0, [.ref u.1, .int (nI 0), .int (nI 0), .int (nI 0)])), (u.1, eBy cB n u.2)] t) (zB z)) 2 (4 + n) (zB z) := by
  refine ofWF (cc := cJ4_toString_0e30d) (maxL := 1) (ret := (some (.object "java/lang/String"))) (by decide +kernel) rfl ?_
  intro p e s m args below meth c s₁ B hml hv
  obtain ⟨rfl, hPB⟩ := hv
  have hx := B.exec
  have hb := B.bytes
  have hr := B.returns
  have hts := atoms_spec (ws := wsJ4_toString_0e30d) B.pre
  have hown : s.vm.findClass RJ4 = some m.cls := findClass_of_methodNamed B.named
  have hlocks := B.notSynchronized
  have hB := WB.of hPB
  have hl := lv_entry ([.ref a]) (n := 1) (Nat.le_of_ble_eq_true rfl)
  rw [lg_entry_eq]
  generalize (lg_sl ([.ref a]) ++ List.replicate (1 - (lg_sl ([.ref a])).length) Slot.unset).toArray = ls at hl ⊢
  have hl : lv_has ls 1 [(0, .ref a)] := hl
  show W p l e ({ frames := 5, cells := 2, slots := (4 + n), locals := 131 } : Room) s m ([.ref a]).toArray below meth c s.heap [] 0 0 (MQ below (va_Qr (fun u : Nat × (Nat → Int32) => sb_Fit u.2) (fun u q9 t => True ∧ PB dC dI cB z [(a, eSB b n), (b, eBy cB cp f), (q9, .inr (0, [.ref u.1, .int (nI 0), .int (nI 0), .int (nI 0)])), (u.1, eBy cB n u.2)] t) (zB z)) ([.ref a]).toArray s 2 (4 + n) (zB z)) (F0 m 0 ls [])
  have hinJ0 : ∀ w ∈ u_ws RJ0 TJ0 4, w ∈ wsJ4_toString_0e30d := tu 1327 (by decide +kernel) rfl
  refine va_new (D := (dC, dI)) (ci := 0) (C := RJ0) (T := TJ0) (N := 4) (fs := [.null, .int (nI 0), .int (nI 0), .int (nI 0)]) hx hb hts hinJ0 tyJ0 tyJ0_ok hown (hts (.classLink RJ4 18 RJ0) (tm 407 (by decide +kernel) rfl)) (hts (.instantiable RJ0 4) (tm 408 (by decide +kernel) rfl)) (hts (.initialized RJ0) (tm 264 (by decide +kernel) rfl)) hB.2.1 hB.1 hB.2.2.1 hB.2.2.2.1 (fun q hq => Nat.le_trans hB.2.2.2.2.1 hq) rfl (fun j hj => by rcases (show j = 0 ∨ j = 1 ∨ j = 2 ∨ j = 3 by omega) with rfl | rfl | rfl | rfl <;> rfl) (by simp) (by simp) dJ4_toString_0e30d_0 (fun r H h1 h2 h3 => ?_)
  replace hB : WB dC dI cB z [(a, eSB b n), (b, eBy cB cp f), (r, .inr (0, [.null, .int (nI 0), .int (nI 0), .int (nI 0)]))] s H _ := hB.to h1 h2 h3
  refine lv_dup hx hb dJ4_toString_0e30d_3 rfl ?_
  refine lv_aload_n hx hb dJ4_toString_0e30d_4 rfl (lv_at hl 0 rfl) ?_
  refine kb_v (va_runI (As := [.ref a]) (rest := [.ref r]) ⟨hx, hb, hml, hown, hts⟩ (s_J0_init_81219 l dC dI cB z a b n cp f r hnm hm hf) (cwI 1 hts gJ4_toString_0e30d_J0_init_81219 rfl rfl rfl (hts (.initialized yJ0_init_81219.cls) (tm 264 (by decide +kernel) rfl)) (hts (.methodLink RJ4 137 yJ0_init_81219) (tm 409 (by decide +kernel) rfl)) (hts (.instanceMethod yJ0_init_81219) (tm 410 (by decide +kernel) rfl)) rfl (by decide +kernel) ⟨Nat.le_of_ble_eq_true rfl, Nat.le_of_ble_eq_true rfl⟩) (hB.preS) rfl rfl hl.1 rfl (lv_room (Nat.le_of_ble_eq_true rfl)) dJ4_toString_0e30d_5 ⟨by simp, by simp⟩) hB (fun u H locs hu hB => ?_)
  obtain ⟨v9, g9⟩ := u
  replace hB : WB dC dI cB z [(a, eSB b n), (b, eBy cB cp f), (r, .inr (0, [.ref v9, .int (nI 0), .int (nI 0), .int (nI 0)])), (v9, eBy cB n g9)] s H locs := hB
  have hg : sb_Fit g9 := hu
  exact W.widen (k := 2) (n := (4 + n)) (by simp) (by simp) (W.aret (v := .ref r) hx hb hr (Or.inl ⟨_, rfl⟩) (Or.inr ⟨_, rfl⟩) (fun t9 ht9 hW9 => ⟨⟨(v9, g9), _, rfl, hg, trivial, hB.P ht9 hW9⟩, hB.F ht9⟩) hB.L dJ4_toString_0e30d_8)
end
section
/-! the reference's texts: its world beside a builder's, from address z on -/
def TM (dC : Nat → ClassId) (dI : Nat → Nat → Nat) (cB : ClassId) (am : Nat → Nat) (z : Nat) (G : va_W) (s : State) (H : Heap) : Prop := va_P (dC, dI) vwCl G H ∧ va_D (zB z) G ∧ s.heap.size ≤ z ∧ z ≤ H.size
/-- what a text needs besides: bytes' class, statics, the reference's cells old -/
def KT (dC : Nat → ClassId) (dI : Nat → Nat → Nat) (cB : ClassId) (am : Nat → Nat) (s : State) : Prop := va_K (dC, dI) vwCl [(cB, .byte)] s ∧ ZBA (AY am s.heap.size) s s.heap ∧ ∀ q, AM am q → q < s.heap.size
def cmL : List (Nat × String × Nat) := [(95, "", 0), (104, " ", 1), (109, ".", 1), (131, ":", 1), (141, "-", 1), (143, "+", 1)]
def CM (A : Nat → Prop) (U : State) (H : Heap) : Prop := ∀ c ∈ cmL, ∃ a, vk_R RX6 c.1 c.2.1 a U ∧ SV A a c.2.2 U H
theorem CM.warm {A : Nat → Prop} {s U : State} {H : Heap} (hW : s.WarmedH U.vm) (h : CM A s H) : CM A U H := fun c hc => by
  obtain ⟨a, h1, h2⟩ := h c hc
  exact ⟨a, vk_R.warm hW h1, h2.moved hW.alike⟩
theorem CM.same {A : Nat → Prop} {s U : State} {H : Heap} (hv : U.vm = s.vm) (h : CM A s H) : CM A U H := fun c hc => by
  obtain ⟨a, h1, h2⟩ := h c hc
  exact ⟨a, vk_R.same hv h1, h2.moved (by rw [hv]; exact Vm.Alike.refl _)⟩
theorem CM.kept {A : Nat → Prop} {U : State} {H H1 : Heap} (h : CM A U H) (hq : ∀ a : Nat, a < H.size → ¬ A a → H1[a]? = H[a]?) : CM A U H1 := fun c hc => by
  obtain ⟨a, h1, h2⟩ := h c hc
  exact ⟨a, h1, h2.kept hq⟩
theorem CM.narrow {A B : Nat → Prop} {U : State} {H : Heap} (h : CM A U H) (hAB : ∀ q, B q → A q) : CM B U H := fun c hc => by
  obtain ⟨a, h1, h2⟩ := h c hc
  exact ⟨a, h1, h2.narrow hAB⟩
/-- before a call that makes a text -/
def PMT (dC : Nat → ClassId) (dI : Nat → Nat → Nat) (cB : ClassId) (am : Nat → Nat) (M : MS) (U : State) : Prop := PM dC dI am M U ∧ va_K (dC, dI) vwCl [(cB, .byte)] U ∧ ZBA (AY am U.heap.size) U U.heap ∧ CM (AY am U.heap.size) U U.heap
section KT1
variable {dC : Nat → ClassId} {dI : Nat → Nat → Nat} {cB : ClassId} {am : Nat → Nat} {z : Nat} {G : va_W} {M : MS} {s : State} {H : Heap} {locs : List Loc}
theorem PM.lt {U : State} (h : PM dC dI am M U) : ∀ q, AM am q → q < U.heap.size := by
  rintro q ⟨k, hk, rfl⟩
  exact (h.1 k _ (wM_get hk)).lt
theorem PMT.call {U : State} {g : JFrame} {mk : MethodId} {a : Array Value} (h : PMT dC dI cB am M U) : PMT dC dI cB am M (U.calling g mk a) := ⟨h.1.call, va_K.moved (u := U) (U := U.calling g mk a) (Vm.Alike.refl U.vm) h.2.1, ZBA.same (s := U) (U := U.calling g mk a) rfl h.2.2.1, CM.same (s := U) (U := U.calling g mk a) rfl h.2.2.2⟩
theorem PMT.blind {av : List Value} : FrameBlind (va_Pc av (PMT dC dI cB am M)) := fun _ _ _ _ h => ⟨h.1, h.2.call⟩
theorem KT.of (h : PMT dC dI cB am M s) : KT dC dI cB am s := ⟨h.2.1, h.2.2.1, h.1.lt⟩
/-- a constant, at any time -/
theorem CM.at {A : Nat → Prop} (hC : CM (AY am s.heap.size) s s.heap) (hX : WM dC dI am M [] (AY am s.heap.size) s H locs) {c : Nat × String × Nat} (hc : c ∈ cmL) (hA : ∀ q, A q → AY am s.heap.size q) : ∃ a, vk_R RX6 c.1 c.2.1 a s ∧ SV A a c.2.2 s H := by
  obtain ⟨a, h1, h2⟩ := hC c hc
  exact ⟨a, h1, (h2.kept hX.2.2.2.2.1).narrow hA⟩
theorem TM.toPB {U : State} (h : TM dC dI cB am z G s H) (hK : KT dC dI cB am s) (hX : WM dC dI am M [] (AY am s.heap.size) s H locs) (hU : U.heap = H) (hW : s.WarmedH U.vm) : PB dC dI cB z G U := by
  refine ⟨by rw [hU]; exact h.1, va_K.moved hW.alike hK.1, h.2.1, by rw [hU]; exact h.2.2.2, ?_⟩
  rw [hU]
  exact ((hK.2.1.kept hX.2.2.2.2.1).warm hW).narrow (fun q hq => Or.inr (Nat.le_trans h.2.2.1 hq))
theorem TM.preV {a ci : Nat} {r : vw_C} {fs As : List Value} (h : TM dC dI cB am z G s H) (hK : KT dC dI cB am s) (hX : WM dC dI am M [] (AY am s.heap.size) s H locs) (hc : vwCl[ci]? = some r) (k : Nat) (he : G[k]? = some (a, .inr (ci, fs))) : PreV s H r.1 a (va_Pc (Value.ref a :: As) (PB dC dI cB z G)) As :=
  ⟨PB.blind, va_recv hK.1 h.1 (ci := ci) (q0 := k) hc he, fun _ hU hW => ⟨rfl, h.toPB hK hX hU hW⟩⟩
theorem TM.preS {As : List Value} (h : TM dC dI cB am z G s H) (hK : KT dC dI cB am s) (hX : WM dC dI am M [] (AY am s.heap.size) s H locs) : PreS s H (va_Pc As (PB dC dI cB z G)) As := ⟨PB.blind, fun _ hU hW => ⟨rfl, h.toPB hK hX hU hW⟩⟩
theorem TM.preVV {a ci q n : Nat} {r : vw_C} {fs As : List Value} (h : TM dC dI cB am z G s H) (hK : KT dC dI cB am s) (hX : WM dC dI am M [] (AY am s.heap.size) s H locs) (hV : SV (zB z) q n s H) (hc : vwCl[ci]? = some r) (k : Nat) (he : G[k]? = some (a, .inr (ci, fs))) : PreV s H r.1 a (va_Pc (Value.ref a :: As) (PV dC dI cB z G q n)) As :=
  ⟨PV.blind, va_recv hK.1 h.1 (ci := ci) (q0 := k) hc he, fun _ hU hW => ⟨rfl, h.toPB hK hX hU hW, by rw [hU]; exact hV.moved hW.alike⟩⟩
theorem TM.preQ {q n : Nat} {As : List Value} (h : TM dC dI cB am z G s H) (hK : KT dC dI cB am s) (hX : WM dC dI am M [] (AY am s.heap.size) s H locs) (hV : SV (zB z) q n s H) : PreV s H RJ0 q (va_Pc (Value.ref q :: As) (PV dC dI cB z G q n)) As := by
  refine ⟨PV.blind, ?_, fun _ hU hW => ⟨rfl, h.toPB hK hX hU hW, by rw [hU]; exact hV.moved hW.alike⟩⟩
  obtain ⟨cell, h1, h2, h3, -⟩ := hV.1
  exact ⟨cell, h1, h2, h3⟩
theorem WM.keptZ {H1 : Heap} {locs1 : List Loc} (hX : WM dC dI am M [] (AY am s.heap.size) s H locs) (hK : KT dC dI cB am s) (hz : s.heap.size ≤ z) (hk : ∀ q, q < H.size → ¬ zB z q → H1[q]? = H[q]?) (hS : va_S (AY am s.heap.size) s.heap H1 locs1) : WM dC dI am M [] (AY am s.heap.size) s H1 locs1 :=
  ⟨hX.1.kept (fun k q hq => hk q.1 ((hX.1 k q hq).lt) (fun z9 => by
    rw [List.append_nil] at hq
    obtain ⟨hk6, e⟩ := wM_in k q hq
    have h1 := hK.2.2 q.1 ⟨k, hk6, e⟩
    have h2 : z ≤ q.1 := z9
    omega)), hX.2.1, hX.2.2.1, hS⟩
/-- a string made by a builder's toString -/
theorem SV_of {v q n h1 h2 : Nat} {g : Nat → Int32} {Ts : List Cond} {args : Array Value} (hts : ∀ w ∈ Ts, w.before args s = true) (hin : ∀ w ∈ u_ws RJ0 TJ0 4, w ∈ Ts) (hK : va_K (dC, dI) vwCl [(cB, .byte)] s) (hP : va_P (dC, dI) vwCl G H) (k1 k2 : Nat) (e1 : G[k1]? = some (q, .inr (0, [.ref v, .int (nI 0), .int (nI h1), .int (nI h2)]))) (e2 : G[k2]? = some (v, eBy cB n g)) (hg : sb_Fit g) : SV (zB H.size) q n s H := by
  have lq := (hP k1 _ e1).lt
  have lv := (hP k2 _ e2).lt
  have nq : ¬ zB H.size q := fun z9 => Nat.not_le.mpr lq z9
  have nv : ¬ zB H.size v := fun z9 => Nat.not_le.mpr lv z9
  obtain ⟨r, h0, cell, q1, q2, q3, q4⟩ := hP k1 _ e1
  have hr : r = (RJ0, TJ0, 4) := Option.some.inj (h0.symm.trans rfl)
  subst hr
  obtain ⟨hS, hfc, kC, hkC, hkind⟩ := hK.1 0 _ (show vwCl[0]? = some (RJ0, TJ0, 4) from rfl)
  have fld : ∀ k v9, k < 4 → ([.ref v, .int (nI 0), .int (nI h1), .int (nI h2)] : List Value)[k]? = some v9 → va_OF (TJ0 k).1 (TJ0 k).2.1 (TJ0 k).2.2.1 v9 q (zB H.size) s H := fun k v9 hk hv => by
    obtain ⟨cf, kf, fi, f, hi, hsl⟩ := hS k hk
    refine ⟨cf, kf, fi, f, cell, hi, (u_facts hfc hkC (u_lays hts hin hk) hi).1, q1, (by rw [q3]; exact fun h => nomatch h), ?_, nq⟩
    rw [hsl, q4 k hk]
    simp [vp_V, hv]
  refine ⟨⟨cell, q1, by rw [q3]; rfl, by rw [q2]; exact hfc, nq⟩, fld 1 _ (by decide) rfl, v, g, fld 0 _ (by decide) rfl, ?_, fun j _ => hg j⟩
  refine ⟨vp_cell cB (n, .inl g), hP k2 _ e2, (hK.2 0 _ rfl).1 n (fun j => .int (g j)), (fun h => by cases h), ?_, ?_, fun j hj => ?_, nv⟩
  · show n ≤ (arrV cB n (fun j => .int (g j))).slots.size
    rw [arrV_size]
    exact Nat.le_refl _
  · show (arrV cB n (fun j => .int (g j))).slots.size.toInt32 = Int32.ofNat n
    rw [arrV_size]
  · show (arrV cB n (fun j => .int (g j))).slots[j]? = _
    rw [arrV_read _ _ hj]
end KT1
section KT2
variable {p : Program} {l : Launch} {e : Env} {R : Room} {s : State} {m : MethodId} {args : Array Value} {below : List Frame} {meth : Method} {c : Code} {H : Heap} {locs : List Loc} {cells slots : Nat} {Q : State → Prop}
variable {cc : ByteArray} {pc : Nat} {ls : Array Slot} {rest st0 : List Value} {dC : Nat → ClassId} {dI : Nat → Nat → Nat} {cB : ClassId} {am : Nat → Nat} {z : Nat} {G : va_W} {M : MS} {Ts : List Cond} {index sl a b n cp n2 : Nat} {own : String} {mc ms : Nat} {av : Array Value} {f : Nat → Int32}
theorem km_newB (hx : p.tables.exec = Jvm.exec) (hb : c.code = cc) (hts : ∀ w ∈ Ts, w.before args s = true) (hin : ∀ w ∈ u_ws RJ4 TJ4 4, w ∈ Ts) (hown : s.vm.findClass own = some m.cls) (hcl : (Cond.classLink own index RJ4).before args s = true) (hinst : (Cond.instantiable RJ4 4).before args s = true) (hini : (Cond.initialized RJ4).before args s = true) (hX : WM dC dI am M [] (AY am s.heap.size) s H locs) (hcells : cells + 1 ≤ R.cells) (hslots : slots + 4 ≤ R.slots) (hdg : decode cc pc = .ok (.new index, 3))
    (kk : ∀ (z : Nat) (H1 : Heap), z = H.size → WM dC dI am M [] (AY am s.heap.size) s H1 locs → TM dC dI cB am z [(z, .inr (1, [.null, .int (nI 0), .int (nI 0), .int (nI 0)]))] s H1 → (∀ A q n, SV A q n s H → SV A q n s H1) → W p l e R s m args below meth c H1 locs (cells + 1) (slots + 4) Q (F0 m (pc + 3) ls (.ref z :: rest))) : W p l e R s m args below meth c H locs cells slots Q (F0 m pc ls rest) := by
  have hKn := hX.2.1.1 1 _ (show vwCl[1]? = some (RJ4, TJ4, 4) from rfl)
  refine W.newcK hx hb hown hcl hinst hini rfl hdg hcells hslots hKn.2.1 rfl fun H1 kC hkC e1 z1 o1 => ?_
  refine kk H.size H1 rfl ⟨hX.1.kept (fun k x hx => o1 x.1 ((hX.1 k x hx).lt)), hX.2.1, hX.2.2.1, ⟨Nat.le_trans hX.2.2.2.1 (by omega), fun x h1 h2 => (o1 x (Nat.lt_of_lt_of_le h1 hX.2.2.2.1)).trans (hX.2.2.2.2.1 x h1 h2), hX.2.2.2.2.2⟩⟩ ⟨fun k x hx => ?_, ⟨fun i j x y hi hj _ => ?_, fun k x hx => ?_⟩, hX.2.2.2.1, by omega⟩ (fun A q n h => h.kept (fun a ha _ => o1 a ha))
  · have hz : k < 1 := (List.getElem?_eq_some_iff.mp hx).1
    obtain rfl : k = 0 := by omega
    cases hx
    exact ⟨_, rfl, (u_born tyJ4 hts hin hKn hkC e1 tyJ4_ok).to (fun j hj => by rcases (show j = 0 ∨ j = 1 ∨ j = 2 ∨ j = 3 by omega) with rfl | rfl | rfl | rfl <;> rfl)⟩
  · have h1 : i < 1 := (List.getElem?_eq_some_iff.mp hi).1
    have h2 : j < 1 := (List.getElem?_eq_some_iff.mp hj).1
    omega
  · have hz : k < 1 := (List.getElem?_eq_some_iff.mp hx).1
    obtain rfl : k = 0 := by omega
    cases hx
    exact Nat.le_refl _
theorem ktm_v {S1 : Type} {post : S1 → Prop} {Gf : S1 → va_W} (hr : va_Run p l e R s m args below meth c H locs cells slots mc ms (F0 m pc ls st0) rest (va_Qv post (fun u t => PB dC dI cB z (Gf u) t) (zB z) av) (zB z)) (hK : KT dC dI cB am s) (hX : WM dC dI am M [] (AY am s.heap.size) s H locs) (hT : TM dC dI cB am z G s H)
    (kk : ∀ (u : S1) (H1 : Heap) (locs1 : List Loc), post u → WM dC dI am M [] (AY am s.heap.size) s H1 locs1 → TM dC dI cB am z (Gf u) s H1 → (∀ q n, SV (zB z) q n s H → SV (zB z) q n s H1) → W p l e R s m args below meth c H1 locs1 (cells + mc) (slots + ms) Q (F0 m (pc + 3) ls rest)) : W p l e R s m args below meth c H locs cells slots Q (F0 m pc ls st0) :=
  va_callv hr hX.2.2.2 (fun q _ h => Or.inr (Nat.le_trans hT.2.2.1 h)) (fun q h => Or.inr (Nat.le_trans hT.2.2.1 h)) (fun u t H1 locs1 ht hvm hp hb1 _ hk hS => kk u H1 locs1 hp (hX.keptZ hK hT.2.2.1 hk hS) ⟨by rw [← ht]; exact hb1.1, hb1.2.2.1, hT.2.2.1, by rw [← ht]; exact hb1.2.2.2.1⟩ (fun q n h => h.kept hk))
theorem ktm_r {S1 : Type} {post : S1 → Prop} {Gf : S1 → Nat → va_W} {ra : S1 → Nat → Prop} (hr : va_Run p l e R s m args below meth c H locs cells slots mc ms (F0 m pc ls st0) rest (va_Qr post (fun u q t => ra u q ∧ PB dC dI cB z (Gf u q) t) (zB z) av) (zB z)) (hK : KT dC dI cB am s) (hX : WM dC dI am M [] (AY am s.heap.size) s H locs) (hT : TM dC dI cB am z G s H)
    (kk : ∀ (u : S1) (q : Nat) (H1 : Heap) (locs1 : List Loc), post u → ra u q → WM dC dI am M [] (AY am s.heap.size) s H1 locs1 → TM dC dI cB am z (Gf u q) s H1 → (∀ q n, SV (zB z) q n s H → SV (zB z) q n s H1) → W p l e R s m args below meth c H1 locs1 (cells + mc) (slots + ms) Q (F0 m (pc + 3) ls (.ref q :: rest))) : W p l e R s m args below meth c H locs cells slots Q (F0 m pc ls st0) :=
  va_callr hr hX.2.2.2 (fun q _ h => Or.inr (Nat.le_trans hT.2.2.1 h)) (fun q h => Or.inr (Nat.le_trans hT.2.2.1 h)) (fun u q t H1 locs1 ht hvm hp hb1 _ hk hS => kk u q H1 locs1 hp hb1.1 (hX.keptZ hK hT.2.2.1 hk hS) ⟨by rw [← ht]; exact hb1.2.1, hb1.2.2.2.1, hT.2.2.1, by rw [← ht]; exact hb1.2.2.2.2.1⟩ (fun q n h => h.kept hk))
theorem ktm_app (N : Nat) (hr : va_Run p l e R s m args below meth c H locs cells (sl + 2 * cp) 1 (gm n2 cp) (F0 m pc ls st0) rest (va_Qr (fun u : Nat × (Nat → Int32) => sb_Fit u.2) (fun u q9 t => q9 = a ∧ PB dC dI cB z [(a, eSB u.1 n2), (u.1, eBy cB (sb_cap n2 cp) u.2)] t) (zB z) av) (zB z)) (hK : KT dC dI cB am s) (hX : WM dC dI am M [] (AY am s.heap.size) s H locs) (hT : TM dC dI cB am z [(a, eSB b n), (b, eBy cB cp f)] s H) (hq : n2 ≤ N) (hc : cp ≤ 2 * N)
    (kk : ∀ (b2 c2 : Nat) (f2 : Nat → Int32) (H1 : Heap) (locs1 : List Loc), WM dC dI am M [] (AY am s.heap.size) s H1 locs1 → TM dC dI cB am z [(a, eSB b2 n2), (b2, eBy cB c2 f2)] s H1 → (∀ q n, SV (zB z) q n s H → SV (zB z) q n s H1) → sb_Fit f2 → n2 ≤ c2 → cp ≤ c2 → c2 ≤ 2 * N → W p l e R s m args below meth c H1 locs1 (cells + 1) (sl + 2 * c2) Q (F0 m (pc + 3) ls (.ref a :: rest))) : W p l e R s m args below meth c H locs cells (sl + 2 * cp) Q (F0 m pc ls st0) := by
  refine ktm_r hr hK hX hT (fun u q9 H1 locs1 hu hq9 hX1 hT1 hk1 => ?_)
  rw [hq9]
  refine W.widen (Nat.le_refl _) (show sl + 2 * cp + gm n2 cp ≤ sl + 2 * sb_cap n2 cp by have := gm_pot n2 cp; omega) ?_
  exact kk u.1 (sb_cap n2 cp) u.2 H1 locs1 hX1 hT1 hk1 hu (sb_cap_ge _ _) (sb_cap_gem _ _) (cap_b hq hc)
/-- the end of a round: the text made, the builder left behind -/
theorem ktm_str (hts : ∀ w ∈ Ts, w.before args s = true) (hin : ∀ w ∈ u_ws RJ0 TJ0 4, w ∈ Ts) (hr : va_Run p l e R s m args below meth c H locs cells slots mc ms (F0 m pc ls st0) rest (va_Qr (fun u : Nat × (Nat → Int32) => sb_Fit u.2) (fun u q9 t => True ∧ PB dC dI cB z [(a, eSB b n), (b, eBy cB cp f), (q9, .inr (0, [.ref u.1, .int (nI 0), .int (nI 0), .int (nI 0)])), (u.1, eBy cB n u.2)] t) (zB z) av) (zB z)) (hK : KT dC dI cB am s) (hX : WM dC dI am M [] (AY am s.heap.size) s H locs) (hT : TM dC dI cB am z G s H)
    (kk : ∀ (q : Nat) (H1 : Heap) (locs1 : List Loc), WM dC dI am M [] (AY am s.heap.size) s H1 locs1 → SV (zB H1.size) q n s H1 → W p l e R s m args below meth c H1 locs1 (cells + mc) (slots + ms) Q (F0 m (pc + 3) ls (.ref q :: rest))) : W p l e R s m args below meth c H locs cells slots Q (F0 m pc ls st0) :=
  ktm_r hr hK hX hT (fun u q9 H1 locs1 hu _ hX1 hT1 _ => kk q9 H1 locs1 hX1 (SV_of hts hin hK.1 hT1.1 2 3 rfl rfl hu))
end KT2
/-! room of texts -/
def slR (a b : Nat) : Nat → Nat
  | 0 => 0
  | k + 1 => slR a b k + (5 * (a * (k + 1) + b) + 8)
theorem slR_s (a b k : Nat) : slR a b (k + 1) = slR a b k + (5 * (a * (k + 1) + b) + 8) := rfl
theorem slR_mono {a b : Nat} : ∀ {n k : Nat}, k ≤ n → slR a b k ≤ slR a b n
  | 0, k, h => by rw [Nat.le_zero.mp h]; exact Nat.le_refl _
  | n + 1, k, h => by
    by_cases e : k = n + 1
    · rw [e]; exact Nat.le_refl _
    · exact Nat.le_trans (slR_mono (show k ≤ n by omega)) (by rw [slR_s]; exact Nat.le_add_right _ _)
def rkT (r : Nat → Nat) (n k a : Nat) : Nat := cntB (fun y => decide (r y < k)) n + cntB (fun y => decide (r y = k)) a
theorem rkT_s {r : Nat → Nat} {n k a : Nat} (h : r a = k) : rkT r n k (a + 1) = rkT r n k a + 1 := by
  unfold rkT
  rw [cntB_t (show decide (r a = k) = true from decide_eq_true h)]
  rfl
theorem rkT_f {r : Nat → Nat} {n k a : Nat} : rkT r n k a ≤ rkT r n k (a + 1) := Nat.add_le_add_left (cntB_grow _ (Nat.le_succ a)) _
theorem rkT_le {r : Nat → Nat} {n k a : Nat} (h : a ≤ n) : rkT r n k a ≤ n :=
  Nat.le_trans (Nat.add_le_add_left (cntB_grow _ h) _) (cntB_two (fun y h1 h2 => by have := of_decide_eq_true h1; have := of_decide_eq_true h2; omega) n)
theorem rkT_n {r : Nat → Nat} {n k : Nat} : rkT r n k n = rkT r n (k + 1) 0 := by
  show cntB (fun y => decide (r y < k)) n + cntB (fun y => decide (r y = k)) n = cntB (fun y => decide (r y < k + 1)) n
  induction n with
  | zero => rfl
  | succ n ih =>
    by_cases h1 : r n < k
    · rw [cntB_t (p := fun y => decide (r y < k)) (decide_eq_true h1), cntB_f (p := fun y => decide (r y = k)) (decide_eq_false (by omega)), cntB_t (p := fun y => decide (r y < k + 1)) (decide_eq_true (by omega))]
      omega
    · by_cases h2 : r n = k
      · rw [cntB_f (p := fun y => decide (r y < k)) (decide_eq_false h1), cntB_t (p := fun y => decide (r y = k)) (decide_eq_true h2), cntB_t (p := fun y => decide (r y < k + 1)) (decide_eq_true (by omega))]
        omega
      · rw [cntB_f (p := fun y => decide (r y < k)) (decide_eq_false h1), cntB_f (p := fun y => decide (r y = k)) (decide_eq_false h2), cntB_f (p := fun y => decide (r y < k + 1)) (decide_eq_false (by omega))]
        exact ih
theorem rkT_to {r : Nat → Nat} {n k a ct : Nat} (h : ct ≤ rkT r n k a) (e : a = n) : ct ≤ rkT r n (k + 1) 0 := by
  rw [← rkT_n, ← e]
  rw [← e] at h
  exact h
set_option maxHeartbeats 4000000 in
set_option maxRecDepth 100000 in
theorem m_X6_text (l : Launch) (dC : Nat → ClassId) (dI : Nat → Nat → Nat) (cB : ClassId) (am : Nat → Nat) (M : MS) (i : Nat) (hi : i < 3) (hI : InvM M) : Met l yX6_text wsX6_text ({ frames := 6, cells := 144, slots := 6928, locals := 151 } : Room) (va_Pc [.ref (am 0), .int (nI i)] (PMT dC dI cB am M)) (va_Qr (fun M1 : MS => M1 = thM M 0) (fun M1 _ t => PM dC dI am M1 t) (AM am)) 144 6928 (AM am) := by
  refine Met.ofW (cc := cX6_text) (maxL := 4) (ret := (some (.object "java/lang/String"))) pl_X6 rfl ?_
  intro p e s m args below meth c s₁ B hml hv
  obtain ⟨rfl, hPM⟩ := hv
  have hx := B.exec
  have hb := B.bytes
  have hr := B.returns
  have hts := atoms_spec (ws := wsX6_text) B.pre
  have hown : s.vm.findClass RX6 = some m.cls := findClass_of_methodNamed B.named
  have hlocks := B.notSynchronized
  have hin6 : ∀ w ∈ u_ws RX6 TX6 10, w ∈ wsX6_text := tu 1331 (by decide +kernel) rfl
  have hinJ4 : ∀ w ∈ u_ws RJ4 TJ4 4, w ∈ wsX6_text := tu 1326 (by decide +kernel) rfl
  have hinJ0 : ∀ w ∈ u_ws RJ0 TJ0 4, w ∈ wsX6_text := tu 1327 (by decide +kernel) rfl
  have hK := KT.of hPM
  have hCM := hPM.2.2.2
  have hX := WM.ofY hPM.1
  have hl := lv_entry ([.ref (am 0), .int (nI i)]) (n := 4) (Nat.le_of_ble_eq_true rfl)
  rw [lg_entry_eq]
  generalize (lg_sl ([.ref (am 0), .int (nI i)]) ++ List.replicate (4 - (lg_sl ([.ref (am 0), .int (nI i)])).length) Slot.unset).toArray = ls at hl ⊢
  have hl : lv_has ls 4 [(0, .ref (am 0)), (1, .int (nI i))] := hl
  show W p l e ({ frames := 6, cells := 144, slots := 6928, locals := 151 } : Room) s m ([.ref (am 0), .int (nI i)]).toArray below meth c s.heap [] 0 0 (MQ below (va_Qr (fun M1 : MS => M1 = thM M 0) (fun M1 _ t => PM dC dI am M1 t) (AM am)) ([.ref (am 0), .int (nI i)]).toArray s 144 6928 (AM am)) (F0 m 0 ls [])
  have hn := (hI.1 i (by omega)).1
  refine lv_aload_n hx hb dX6_text_0 rfl (lv_at hl 0 rfl) ?_
  refine lv_iload_n hx hb dX6_text_1 rfl (lv_at hl 1 rfl) ?_
  refine kx_cr (v := bI false) (va_runS (As := [.int (nI i)]) (rest := [.ref (am 0)]) ⟨hx, hb, hml, hown, hts⟩ (m_X6_isNoRow l dC dI am M (nI i)) (va_cwS 1 hts gX6_text_X6_isNoRow rfl rfl rfl hdX6_isNoRow_1.2 ⟨Nat.le_of_ble_eq_true rfl, Nat.le_of_ble_eq_true rfl⟩) hX.preS rfl rfl hl.1 rfl (lv_room (Nat.le_of_ble_eq_true rfl)) dX6_text_2 ⟨by show _ ≤ 144; omega, by show _ ≤ 6928; omega⟩) (fun _ h => h.trans (isNo_ok (by omega) (by omega))) ?_
  refine lv_iconst (v := nI 1) hx hb dX6_text_5 (by decide) ?_
  refine km_ci (va_runV (As := [.int (bI false), .int (nI 1)]) (rest := []) ⟨hx, hb, hml, hown, hts⟩ (m_X6_start l dC dI am M false 1 (by omega)) (cwV 2 hts gX6_text_X6_start rfl rfl rfl hdX6_start_2 ⟨Nat.le_of_ble_eq_true rfl, Nat.le_of_ble_eq_true rfl⟩) (hX.preObj) rfl rfl hl.1 rfl (lv_room (Nat.le_of_ble_eq_true rfl)) dX6_text_6 ⟨by show _ ≤ 144; omega, by show _ ≤ 6928; omega⟩) hX (fun _ h => Or.inl h) (fun r_ S_ H locs hw hX => ?_)
  obtain ⟨rfl, rfl⟩ := hw
  refine kb_if_eq (tgt := 15) hx hb dX6_text_9 (by decide) (fun k_1 => ?_) (fun k_1 => absurd k_1 (by decide))
  obtain ⟨ac2, hr2, hV⟩ := CM.at hCM hX (A := (zB H.size)) (c := (95, "", 0)) (by decide) (fun q hq => Or.inr (Nat.le_trans hX.2.2.2.1 hq))
  replace hV : SV (zB H.size) ac2 0 s H := hV
  refine va_ldcS hx hb hown hr2 dX6_text_15 ?_
  refine lv_astore_n (lv' := [(2, .ref ac2), (0, .ref (am 0)), (1, .int (nI i))]) hx hb dX6_text_17 rfl hl (by decide) rfl (fun ls hl => ?_)
  refine lv_iconst (v := nI 0) hx hb dX6_text_18 (by decide) ?_
  refine lv_istore_n (lv' := [(3, .int (nI 0)), (2, .ref ac2), (0, .ref (am 0)), (1, .int (nI i))]) hx hb dX6_text_19 rfl hl (by decide) rfl (fun ls hl => ?_)
  have loop20 : ∀ (fuel : Nat) (k qm nm : Nat) (hk : k ≤ (M.1 i).2.2) (hnm : nm ≤ 10 * k) (H : Heap) (locs : List Loc), (M.1 i).2.2 - k < fuel → WM dC dI am (mN M (0, M.2.2.2.1, M.2.2.2.2.1, M.2.2.2.2.2)) [] (AY am s.heap.size) s H locs → SV (zB H.size) qm nm s H → ∀ ls : Array Slot, lv_has ls 4 [(0, .ref (am 0)), (1, .int (nI i)), (2, .ref qm), (3, .int (nI k))] → W p l e ({ frames := 6, cells := 144, slots := 6928, locals := 151 } : Room) s m ([.ref (am 0), .int (nI i)]).toArray below meth c H locs (9 * k) (slR 10 0 k) (MQ below (va_Qr (fun M1 : MS => M1 = thM M 0) (fun M1 _ t => PM dC dI am M1 t) (AM am)) ([.ref (am 0), .int (nI i)]).toArray s 144 6928 (AM am)) (F0 m 20 ls []) := by
    intro fuel
    induction fuel with
    | zero => intro k qm nm hk hnm H locs hf9; exact absurd hf9 (Nat.not_lt_zero _)
    | succ fuel ih20 =>
      intro k qm nm hk hnm H locs hf9 hX hV ls hl
      refine lv_iload_n hx hb dX6_text_20 rfl (lv_at hl 3 rfl) ?_
      refine lv_aload_n hx hb dX6_text_21 rfl (lv_at hl 0 rfl) ?_
      refine km_gsizes hx hb hts hin6 hown hX (hts (.fieldLink RX6 17 "OrderlatticeModel" "sizes" "[I") (tm 681 (by decide +kernel) rfl)) dX6_text_22 ?_
      refine lv_iload_n hx hb dX6_text_25 rfl (lv_at hl 1 rfl) ?_
      refine km_lz (v := (M.1 i).2.2) hx hb hX (by omega) rfl dX6_text_26 ?_
      refine kn_icmp_ge (tgt := 92) hx hb (by omega) (by omega) dX6_text_27 (by decide) (fun k_3 => ?_) (fun k_3 => ?_)
      · skip
        refine lv_aload_n hx hb dX6_text_92 rfl (lv_at hl 2 rfl) ?_
        have hs7 : slR 10 0 k ≤ 6928 := Nat.le_trans (slR_mono (show k ≤ 16 by omega)) (by decide)
        exact W.widen (k := 144) (n := 6928) (by omega) (by omega) (W.filt (fun locs1 hl1 => W.aret (v := .ref qm) hx hb hr (Or.inl ⟨_, rfl⟩) (Or.inr ⟨_, rfl⟩) (fun t9 ht9 hW9 => ⟨⟨(mN M (0, M.2.2.2.1, M.2.2.2.2.1, M.2.2.2.2.2)), _, rfl, rfl, hX.P ht9 hW9⟩, (hX.2.2.2.F ht9).Y⟩) (free_Y hX.2.2.2 hl1) dX6_text_93))
      · skip
        have hs8 := slR_s 10 0 k
        have hs9 : slR 10 0 (k + 1) ≤ 6928 := Nat.le_trans (slR_mono (show k + 1 ≤ 16 by omega)) (by decide)
        have hv9 := (hI.1 i (by omega)).2 k (by omega)
        refine km_newB (cB := cB) hx hb hts hinJ4 hown (hts (.classLink RX6 97 RJ4) (tm 775 (by decide +kernel) rfl)) (hts (.instantiable RJ4 4) (tm 374 (by decide +kernel) rfl)) (hts (.initialized RJ4) (tm 328 (by decide +kernel) rfl)) hX (by show _ ≤ 144; omega) (by show _ ≤ 6928; omega) dX6_text_30 (fun z9 H hz9 hX hT hk9 => ?_)
        have hV := hk9 _ _ _ hV
        rw [← hz9] at hV
        clear hz9 hk9
        refine lv_dup hx hb dX6_text_33 rfl ?_
        refine ktm_v (va_runI (As := []) (rest := [.ref z9]) ⟨hx, hb, hml, hown, hts⟩ (m_J4_init_da8c8 l dC dI cB z9 z9) (cwI 0 hts gX6_text_J4_init_da8c8 rfl rfl rfl (hts (.initialized yJ4_init_da8c8.cls) (tm 328 (by decide +kernel) rfl)) (hts (.methodLink RX6 99 yJ4_init_da8c8) (tm 776 (by decide +kernel) rfl)) (hts (.instanceMethod yJ4_init_da8c8) (tm 414 (by decide +kernel) rfl)) rfl (by decide +kernel) ⟨Nat.le_of_ble_eq_true rfl, Nat.le_of_ble_eq_true rfl⟩) (hT.preS hK hX) rfl rfl hl.1 rfl (lv_room (Nat.le_of_ble_eq_true rfl)) dX6_text_34 ⟨by show _ ≤ 144; omega, by show _ ≤ 6928; omega⟩) hK hX hT (fun b0 H locs _ hX hT hk9 => ?_)
        have hV := hk9 _ _ hV
        refine W.widen (k := 9 * k + 2) (n := slR 10 0 k + 4 + 2 * 16) (by omega) (by omega) ?_
        have hf : sb_Fit (fun _ => 0) := sb_fit0
        refine lv_aload_n hx hb dX6_text_37 rfl (lv_at hl 2 rfl) ?_
        have hcb := cap_b (q := 0 + nm) (cp := 16) (Q := (10 * (k + 1))) (by omega) (by omega)
        refine ktm_app (sl := slR 10 0 k + 4) (n2 := 0 + nm) (10 * (k + 1)) (va_runV (As := [.ref qm]) (rest := []) ⟨hx, hb, hml, hown, hts⟩ (m_J4_append_15ec4 l dC dI cB z9 z9 b0 0 16 (fun _ => 0) qm nm (by omega) (by omega) (by omega) hf (by omega) (by omega)) (cwV 1 hts gX6_text_J4_append_15ec4 rfl rfl rfl hdJ4_append_15ec4_1 ⟨Nat.le_of_ble_eq_true rfl, Nat.le_of_ble_eq_true rfl⟩) (hT.preVV hK hX hV (ci := 1) (r := (RJ4, TJ4, 4)) rfl 0 rfl) rfl rfl hl.1 rfl (lv_room (Nat.le_of_ble_eq_true rfl)) dX6_text_38 ⟨by show _ ≤ 144; omega, by show _ ≤ 6928; have := gm_pot (0 + nm) 16; omega⟩) hK hX hT (by omega) (by omega) (fun b_4 c_4 f_4 H locs hX hT hk9 hf _ _ _ => ?_)
        have hV := hk9 _ _ hV
        refine lv_iload_n hx hb dX6_text_41 rfl (lv_at hl 3 rfl) ?_
        refine kn_if_ne (tgt := 50) hx hb (by omega) dX6_text_42 (by decide) (fun k_5 => ?_) (fun k_5 => ?_)
        · skip
          obtain ⟨ac6, hr6, hVc⟩ := CM.at hCM hX (A := (zB z9)) (c := (104, " ", 1)) (by decide) (fun q hq => Or.inr (Nat.le_trans hT.2.2.1 hq))
          replace hVc : SV (zB z9) ac6 1 s H := hVc
          refine va_ldcS hx hb hown hr6 dX6_text_50 ?_
          have hcb := cap_b (q := 0 + nm + 1) (cp := c_4) (Q := (10 * (k + 1))) (by omega) (by omega)
          refine ktm_app (sl := slR 10 0 k + 4) (n2 := 0 + nm + 1) (10 * (k + 1)) (va_runV (As := [.ref ac6]) (rest := []) ⟨hx, hb, hml, hown, hts⟩ (m_J4_append_15ec4 l dC dI cB z9 z9 b_4 (0 + nm) c_4 f_4 ac6 1 (by omega) (by omega) (by omega) hf (by omega) (by omega)) (cwV 1 hts gX6_text_J4_append_15ec4 rfl rfl rfl hdJ4_append_15ec4_1 ⟨Nat.le_of_ble_eq_true rfl, Nat.le_of_ble_eq_true rfl⟩) (hT.preVV hK hX hVc (ci := 1) (r := (RJ4, TJ4, 4)) rfl 0 rfl) rfl rfl hl.1 rfl (lv_room (Nat.le_of_ble_eq_true rfl)) dX6_text_52 ⟨by show _ ≤ 144; omega, by show _ ≤ 6928; have := gm_pot (0 + nm + 1) c_4; omega⟩) hK hX hT (by omega) (by omega) (fun b_7 c_7 f_7 H locs hX hT hk9 hf _ _ _ => ?_)
          have hV := hk9 _ _ hV
          clear hVc
          refine lv_aload_n hx hb dX6_text_55 rfl (lv_at hl 0 rfl) ?_
          refine km_gvalues hx hb hts hin6 hown hX (hts (.fieldLink RX6 11 "OrderlatticeModel" "values" "[[I") (tm 710 (by decide +kernel) rfl)) dX6_text_56 ?_
          refine lv_iload_n hx hb dX6_text_59 rfl (lv_at hl 1 rfl) ?_
          refine km_av hx hb hX (by omega) dX6_text_60 ?_
          refine lv_iload_n hx hb dX6_text_61 rfl (lv_at hl 3 rfl) ?_
          refine km_lv (v := ((M.1 i).1) k) hx hb hX (by omega) (by omega) rfl dX6_text_62 ?_
          have hd1 := dg2 (v := ((M.1 i).1) k) (by omega)
          have hcb := cap_b (q := 0 + nm + 1 + sb_dg (((M.1 i).1) k)) (cp := c_7) (Q := (10 * (k + 1))) (by omega) (by omega)
          refine ktm_app (sl := slR 10 0 k + 4) (n2 := 0 + nm + 1 + sb_dg (((M.1 i).1) k)) (10 * (k + 1)) (va_runV (As := [.int (nI (((M.1 i).1) k))]) (rest := []) ⟨hx, hb, hml, hown, hts⟩ (m_J4_append_bf812 l dC dI cB z9 z9 b_7 (0 + nm + 1) c_7 f_7 (by omega) (by omega) hf (((M.1 i).1) k) (by omega) (by omega)) (cwV 1 hts gX6_text_J4_append_bf812 rfl rfl rfl hdJ4_append_bf812_1 ⟨Nat.le_of_ble_eq_true rfl, Nat.le_of_ble_eq_true rfl⟩) (hT.preV hK hX (ci := 1) (r := (RJ4, TJ4, 4)) rfl 0 rfl) rfl rfl hl.1 rfl (lv_room (Nat.le_of_ble_eq_true rfl)) dX6_text_63 ⟨by show _ ≤ 144; omega, by show _ ≤ 6928; have := gm_pot (0 + nm + 1 + sb_dg (((M.1 i).1) k)) c_7; omega⟩) hK hX hT (by omega) (by omega) (fun b_8 c_8 f_8 H locs hX hT hk9 hf _ _ _ => ?_)
          have hV := hk9 _ _ hV
          obtain ⟨ac9, hr9, hVc⟩ := CM.at hCM hX (A := (zB z9)) (c := (109, ".", 1)) (by decide) (fun q hq => Or.inr (Nat.le_trans hT.2.2.1 hq))
          replace hVc : SV (zB z9) ac9 1 s H := hVc
          refine va_ldcS hx hb hown hr9 dX6_text_66 ?_
          have hcb := cap_b (q := 0 + nm + 1 + sb_dg (((M.1 i).1) k) + 1) (cp := c_8) (Q := (10 * (k + 1))) (by omega) (by omega)
          refine ktm_app (sl := slR 10 0 k + 4) (n2 := 0 + nm + 1 + sb_dg (((M.1 i).1) k) + 1) (10 * (k + 1)) (va_runV (As := [.ref ac9]) (rest := []) ⟨hx, hb, hml, hown, hts⟩ (m_J4_append_15ec4 l dC dI cB z9 z9 b_8 (0 + nm + 1 + sb_dg (((M.1 i).1) k)) c_8 f_8 ac9 1 (by omega) (by omega) (by omega) hf (by omega) (by omega)) (cwV 1 hts gX6_text_J4_append_15ec4 rfl rfl rfl hdJ4_append_15ec4_1 ⟨Nat.le_of_ble_eq_true rfl, Nat.le_of_ble_eq_true rfl⟩) (hT.preVV hK hX hVc (ci := 1) (r := (RJ4, TJ4, 4)) rfl 0 rfl) rfl rfl hl.1 rfl (lv_room (Nat.le_of_ble_eq_true rfl)) dX6_text_68 ⟨by show _ ≤ 144; omega, by show _ ≤ 6928; have := gm_pot (0 + nm + 1 + sb_dg (((M.1 i).1) k) + 1) c_8; omega⟩) hK hX hT (by omega) (by omega) (fun b_10 c_10 f_10 H locs hX hT hk9 hf _ _ _ => ?_)
          have hV := hk9 _ _ hV
          clear hVc
          refine lv_aload_n hx hb dX6_text_71 rfl (lv_at hl 0 rfl) ?_
          refine km_gmarks hx hb hts hin6 hown hX (hts (.fieldLink RX6 14 "OrderlatticeModel" "marks" "[[I") (tm 711 (by decide +kernel) rfl)) dX6_text_72 ?_
          refine lv_iload_n hx hb dX6_text_75 rfl (lv_at hl 1 rfl) ?_
          refine km_am hx hb hX (by omega) dX6_text_76 ?_
          refine lv_iload_n hx hb dX6_text_77 rfl (lv_at hl 3 rfl) ?_
          refine km_lm (v := ((M.1 i).2.1) k) hx hb hX (by omega) (by omega) rfl dX6_text_78 ?_
          have hd2 := dg6 (v := ((M.1 i).2.1) k) (by omega)
          have hcb := cap_b (q := 0 + nm + 1 + sb_dg (((M.1 i).1) k) + 1 + sb_dg (((M.1 i).2.1) k)) (cp := c_10) (Q := (10 * (k + 1))) (by omega) (by omega)
          refine ktm_app (sl := slR 10 0 k + 4) (n2 := 0 + nm + 1 + sb_dg (((M.1 i).1) k) + 1 + sb_dg (((M.1 i).2.1) k)) (10 * (k + 1)) (va_runV (As := [.int (nI (((M.1 i).2.1) k))]) (rest := []) ⟨hx, hb, hml, hown, hts⟩ (m_J4_append_bf812 l dC dI cB z9 z9 b_10 (0 + nm + 1 + sb_dg (((M.1 i).1) k) + 1) c_10 f_10 (by omega) (by omega) hf (((M.1 i).2.1) k) (by omega) (by omega)) (cwV 1 hts gX6_text_J4_append_bf812 rfl rfl rfl hdJ4_append_bf812_1 ⟨Nat.le_of_ble_eq_true rfl, Nat.le_of_ble_eq_true rfl⟩) (hT.preV hK hX (ci := 1) (r := (RJ4, TJ4, 4)) rfl 0 rfl) rfl rfl hl.1 rfl (lv_room (Nat.le_of_ble_eq_true rfl)) dX6_text_79 ⟨by show _ ≤ 144; omega, by show _ ≤ 6928; have := gm_pot (0 + nm + 1 + sb_dg (((M.1 i).1) k) + 1 + sb_dg (((M.1 i).2.1) k)) c_10; omega⟩) hK hX hT (by omega) (by omega) (fun b_11 c_11 f_11 H locs hX hT hk9 hf _ _ _ => ?_)
          have hV := hk9 _ _ hV
          refine ktm_str hts hinJ0 (va_runV (As := []) (rest := []) ⟨hx, hb, hml, hown, hts⟩ (s_J4_toString_0e30d l dC dI cB z9 z9 b_11 (0 + nm + 1 + sb_dg (((M.1 i).1) k) + 1 + sb_dg (((M.1 i).2.1) k)) c_11 f_11 (by omega) (by omega) hf) (cwV 0 hts gX6_text_J4_toString_0e30d rfl rfl rfl hdJ4_toString_0e30d_0 ⟨Nat.le_of_ble_eq_true rfl, Nat.le_of_ble_eq_true rfl⟩) (hT.preV hK hX (ci := 1) (r := (RJ4, TJ4, 4)) rfl 0 rfl) rfl rfl hl.1 rfl (lv_room (Nat.le_of_ble_eq_true rfl)) dX6_text_82 ⟨by show _ ≤ 144; omega, by show _ ≤ 6928; omega⟩) hK hX hT (fun q_12 H locs hX hV => ?_)
          refine lv_astore_n (lv' := [(2, .ref q_12), (0, .ref (am 0)), (1, .int (nI i)), (3, .int (nI k))]) hx hb dX6_text_85 rfl hl (by decide) rfl (fun ls hl => ?_)
          refine lv_iinc (v := nI (k + 1)) (lv' := [(3, .int (nI (k + 1))), (2, .ref q_12), (0, .ref (am 0)), (1, .int (nI i))]) hx hb dX6_text_86 hl (k := 3) rfl (nI_1 k) (by decide) rfl (fun ls hl => ?_)
          refine lv_goto (tgt := 20) hx hb dX6_text_89 (by decide) ?_
          refine W.widen (k := 9 * (k + 1)) (n := slR 10 0 (k + 1)) (by omega) (by omega) ?_
          exact ih20  (k + 1) q_12 (0 + nm + 1 + sb_dg (((M.1 i).1) k) + 1 + sb_dg (((M.1 i).2.1) k)) (by omega) (by omega) _ _ (by omega) hX hV _ (lv_sub hl [2, 3, 1, 0] rfl)
        · skip
          obtain ⟨ac13, hr13, hVc⟩ := CM.at hCM hX (A := (zB z9)) (c := (95, "", 0)) (by decide) (fun q hq => Or.inr (Nat.le_trans hT.2.2.1 hq))
          replace hVc : SV (zB z9) ac13 0 s H := hVc
          refine va_ldcS hx hb hown hr13 dX6_text_45 ?_
          refine lv_goto (tgt := 52) hx hb dX6_text_47 (by decide) ?_
          have hcb := cap_b (q := 0 + nm + 0) (cp := c_4) (Q := (10 * (k + 1))) (by omega) (by omega)
          refine ktm_app (sl := slR 10 0 k + 4) (n2 := 0 + nm + 0) (10 * (k + 1)) (va_runV (As := [.ref ac13]) (rest := []) ⟨hx, hb, hml, hown, hts⟩ (m_J4_append_15ec4 l dC dI cB z9 z9 b_4 (0 + nm) c_4 f_4 ac13 0 (by omega) (by omega) (by omega) hf (by omega) (by omega)) (cwV 1 hts gX6_text_J4_append_15ec4 rfl rfl rfl hdJ4_append_15ec4_1 ⟨Nat.le_of_ble_eq_true rfl, Nat.le_of_ble_eq_true rfl⟩) (hT.preVV hK hX hVc (ci := 1) (r := (RJ4, TJ4, 4)) rfl 0 rfl) rfl rfl hl.1 rfl (lv_room (Nat.le_of_ble_eq_true rfl)) dX6_text_52 ⟨by show _ ≤ 144; omega, by show _ ≤ 6928; have := gm_pot (0 + nm + 0) c_4; omega⟩) hK hX hT (by omega) (by omega) (fun b_14 c_14 f_14 H locs hX hT hk9 hf _ _ _ => ?_)
          have hV := hk9 _ _ hV
          clear hVc
          refine lv_aload_n hx hb dX6_text_55 rfl (lv_at hl 0 rfl) ?_
          refine km_gvalues hx hb hts hin6 hown hX (hts (.fieldLink RX6 11 "OrderlatticeModel" "values" "[[I") (tm 710 (by decide +kernel) rfl)) dX6_text_56 ?_
          refine lv_iload_n hx hb dX6_text_59 rfl (lv_at hl 1 rfl) ?_
          refine km_av hx hb hX (by omega) dX6_text_60 ?_
          refine lv_iload_n hx hb dX6_text_61 rfl (lv_at hl 3 rfl) ?_
          refine km_lv (v := ((M.1 i).1) k) hx hb hX (by omega) (by omega) rfl dX6_text_62 ?_
          have hd1 := dg2 (v := ((M.1 i).1) k) (by omega)
          have hcb := cap_b (q := 0 + nm + 0 + sb_dg (((M.1 i).1) k)) (cp := c_14) (Q := (10 * (k + 1))) (by omega) (by omega)
          refine ktm_app (sl := slR 10 0 k + 4) (n2 := 0 + nm + 0 + sb_dg (((M.1 i).1) k)) (10 * (k + 1)) (va_runV (As := [.int (nI (((M.1 i).1) k))]) (rest := []) ⟨hx, hb, hml, hown, hts⟩ (m_J4_append_bf812 l dC dI cB z9 z9 b_14 (0 + nm + 0) c_14 f_14 (by omega) (by omega) hf (((M.1 i).1) k) (by omega) (by omega)) (cwV 1 hts gX6_text_J4_append_bf812 rfl rfl rfl hdJ4_append_bf812_1 ⟨Nat.le_of_ble_eq_true rfl, Nat.le_of_ble_eq_true rfl⟩) (hT.preV hK hX (ci := 1) (r := (RJ4, TJ4, 4)) rfl 0 rfl) rfl rfl hl.1 rfl (lv_room (Nat.le_of_ble_eq_true rfl)) dX6_text_63 ⟨by show _ ≤ 144; omega, by show _ ≤ 6928; have := gm_pot (0 + nm + 0 + sb_dg (((M.1 i).1) k)) c_14; omega⟩) hK hX hT (by omega) (by omega) (fun b_15 c_15 f_15 H locs hX hT hk9 hf _ _ _ => ?_)
          have hV := hk9 _ _ hV
          obtain ⟨ac16, hr16, hVc⟩ := CM.at hCM hX (A := (zB z9)) (c := (109, ".", 1)) (by decide) (fun q hq => Or.inr (Nat.le_trans hT.2.2.1 hq))
          replace hVc : SV (zB z9) ac16 1 s H := hVc
          refine va_ldcS hx hb hown hr16 dX6_text_66 ?_
          have hcb := cap_b (q := 0 + nm + 0 + sb_dg (((M.1 i).1) k) + 1) (cp := c_15) (Q := (10 * (k + 1))) (by omega) (by omega)
          refine ktm_app (sl := slR 10 0 k + 4) (n2 := 0 + nm + 0 + sb_dg (((M.1 i).1) k) + 1) (10 * (k + 1)) (va_runV (As := [.ref ac16]) (rest := []) ⟨hx, hb, hml, hown, hts⟩ (m_J4_append_15ec4 l dC dI cB z9 z9 b_15 (0 + nm + 0 + sb_dg (((M.1 i).1) k)) c_15 f_15 ac16 1 (by omega) (by omega) (by omega) hf (by omega) (by omega)) (cwV 1 hts gX6_text_J4_append_15ec4 rfl rfl rfl hdJ4_append_15ec4_1 ⟨Nat.le_of_ble_eq_true rfl, Nat.le_of_ble_eq_true rfl⟩) (hT.preVV hK hX hVc (ci := 1) (r := (RJ4, TJ4, 4)) rfl 0 rfl) rfl rfl hl.1 rfl (lv_room (Nat.le_of_ble_eq_true rfl)) dX6_text_68 ⟨by show _ ≤ 144; omega, by show _ ≤ 6928; have := gm_pot (0 + nm + 0 + sb_dg (((M.1 i).1) k) + 1) c_15; omega⟩) hK hX hT (by omega) (by omega) (fun b_17 c_17 f_17 H locs hX hT hk9 hf _ _ _ => ?_)
          have hV := hk9 _ _ hV
          clear hVc
          refine lv_aload_n hx hb dX6_text_71 rfl (lv_at hl 0 rfl) ?_
          refine km_gmarks hx hb hts hin6 hown hX (hts (.fieldLink RX6 14 "OrderlatticeModel" "marks" "[[I") (tm 711 (by decide +kernel) rfl)) dX6_text_72 ?_
          refine lv_iload_n hx hb dX6_text_75 rfl (lv_at hl 1 rfl) ?_
          refine km_am hx hb hX (by omega) dX6_text_76 ?_
          refine lv_iload_n hx hb dX6_text_77 rfl (lv_at hl 3 rfl) ?_
          refine km_lm (v := ((M.1 i).2.1) k) hx hb hX (by omega) (by omega) rfl dX6_text_78 ?_
          have hd2 := dg6 (v := ((M.1 i).2.1) k) (by omega)
          have hcb := cap_b (q := 0 + nm + 0 + sb_dg (((M.1 i).1) k) + 1 + sb_dg (((M.1 i).2.1) k)) (cp := c_17) (Q := (10 * (k + 1))) (by omega) (by omega)
          refine ktm_app (sl := slR 10 0 k + 4) (n2 := 0 + nm + 0 + sb_dg (((M.1 i).1) k) + 1 + sb_dg (((M.1 i).2.1) k)) (10 * (k + 1)) (va_runV (As := [.int (nI (((M.1 i).2.1) k))]) (rest := []) ⟨hx, hb, hml, hown, hts⟩ (m_J4_append_bf812 l dC dI cB z9 z9 b_17 (0 + nm + 0 + sb_dg (((M.1 i).1) k) + 1) c_17 f_17 (by omega) (by omega) hf (((M.1 i).2.1) k) (by omega) (by omega)) (cwV 1 hts gX6_text_J4_append_bf812 rfl rfl rfl hdJ4_append_bf812_1 ⟨Nat.le_of_ble_eq_true rfl, Nat.le_of_ble_eq_true rfl⟩) (hT.preV hK hX (ci := 1) (r := (RJ4, TJ4, 4)) rfl 0 rfl) rfl rfl hl.1 rfl (lv_room (Nat.le_of_ble_eq_true rfl)) dX6_text_79 ⟨by show _ ≤ 144; omega, by show _ ≤ 6928; have := gm_pot (0 + nm + 0 + sb_dg (((M.1 i).1) k) + 1 + sb_dg (((M.1 i).2.1) k)) c_17; omega⟩) hK hX hT (by omega) (by omega) (fun b_18 c_18 f_18 H locs hX hT hk9 hf _ _ _ => ?_)
          have hV := hk9 _ _ hV
          refine ktm_str hts hinJ0 (va_runV (As := []) (rest := []) ⟨hx, hb, hml, hown, hts⟩ (s_J4_toString_0e30d l dC dI cB z9 z9 b_18 (0 + nm + 0 + sb_dg (((M.1 i).1) k) + 1 + sb_dg (((M.1 i).2.1) k)) c_18 f_18 (by omega) (by omega) hf) (cwV 0 hts gX6_text_J4_toString_0e30d rfl rfl rfl hdJ4_toString_0e30d_0 ⟨Nat.le_of_ble_eq_true rfl, Nat.le_of_ble_eq_true rfl⟩) (hT.preV hK hX (ci := 1) (r := (RJ4, TJ4, 4)) rfl 0 rfl) rfl rfl hl.1 rfl (lv_room (Nat.le_of_ble_eq_true rfl)) dX6_text_82 ⟨by show _ ≤ 144; omega, by show _ ≤ 6928; omega⟩) hK hX hT (fun q_19 H locs hX hV => ?_)
          refine lv_astore_n (lv' := [(2, .ref q_19), (0, .ref (am 0)), (1, .int (nI i)), (3, .int (nI k))]) hx hb dX6_text_85 rfl hl (by decide) rfl (fun ls hl => ?_)
          refine lv_iinc (v := nI (k + 1)) (lv' := [(3, .int (nI (k + 1))), (2, .ref q_19), (0, .ref (am 0)), (1, .int (nI i))]) hx hb dX6_text_86 hl (k := 3) rfl (nI_1 k) (by decide) rfl (fun ls hl => ?_)
          refine lv_goto (tgt := 20) hx hb dX6_text_89 (by decide) ?_
          refine W.widen (k := 9 * (k + 1)) (n := slR 10 0 (k + 1)) (by omega) (by omega) ?_
          exact ih20  (k + 1) q_19 (0 + nm + 0 + sb_dg (((M.1 i).1) k) + 1 + sb_dg (((M.1 i).2.1) k)) (by omega) (by omega) _ _ (by omega) hX hV _ (lv_sub hl [2, 3, 1, 0] rfl)
  refine W.widen (k := 9 * 0) (n := slR 10 0 0) (by omega) (by omega) ?_
  exact loop20 ((M.1 i).2.2 + 1) 0 ac2 0 (by omega) (by omega) _ _ (by omega) hX hV _ (lv_sub hl [2, 3, 1, 0] rfl)
set_option maxHeartbeats 4000000 in
set_option maxRecDepth 100000 in
theorem m_X6_orderText (l : Launch) (dC : Nat → ClassId) (dI : Nat → Nat → Nat) (cB : ClassId) (am : Nat → Nat) (M : MS) (j : Nat) (hj : j < 4) (hI : InvM M) : Met l yX6_orderText wsX6_orderText ({ frames := 6, cells := 144, slots := 6928, locals := 151 } : Room) (va_Pc [.ref (am 0), .int (nI j)] (PMT dC dI cB am M)) (va_Qr (fun M1 : MS => M1 = thM M 0) (fun M1 _ t => PM dC dI am M1 t) (AM am)) 144 6928 (AM am) := by
  refine Met.ofW (cc := cX6_orderText) (maxL := 4) (ret := (some (.object "java/lang/String"))) pl_X6 rfl ?_
  intro p e s m args below meth c s₁ B hml hv
  obtain ⟨rfl, hPM⟩ := hv
  have hx := B.exec
  have hb := B.bytes
  have hr := B.returns
  have hts := atoms_spec (ws := wsX6_orderText) B.pre
  have hown : s.vm.findClass RX6 = some m.cls := findClass_of_methodNamed B.named
  have hlocks := B.notSynchronized
  have hin6 : ∀ w ∈ u_ws RX6 TX6 10, w ∈ wsX6_orderText := tu 1331 (by decide +kernel) rfl
  have hinJ4 : ∀ w ∈ u_ws RJ4 TJ4 4, w ∈ wsX6_orderText := tu 1326 (by decide +kernel) rfl
  have hinJ0 : ∀ w ∈ u_ws RJ0 TJ0 4, w ∈ wsX6_orderText := tu 1327 (by decide +kernel) rfl
  have hK := KT.of hPM
  have hCM := hPM.2.2.2
  have hX := WM.ofY hPM.1
  have hl := lv_entry ([.ref (am 0), .int (nI j)]) (n := 4) (Nat.le_of_ble_eq_true rfl)
  rw [lg_entry_eq]
  generalize (lg_sl ([.ref (am 0), .int (nI j)]) ++ List.replicate (4 - (lg_sl ([.ref (am 0), .int (nI j)])).length) Slot.unset).toArray = ls at hl ⊢
  have hl : lv_has ls 4 [(0, .ref (am 0)), (1, .int (nI j))] := hl
  show W p l e ({ frames := 6, cells := 144, slots := 6928, locals := 151 } : Room) s m ([.ref (am 0), .int (nI j)]).toArray below meth c s.heap [] 0 0 (MQ below (va_Qr (fun M1 : MS => M1 = thM M 0) (fun M1 _ t => PM dC dI am M1 t) (AM am)) ([.ref (am 0), .int (nI j)]).toArray s 144 6928 (AM am)) (F0 m 0 ls [])
  have hn := (hI.2 j (by omega)).1
  refine lv_aload_n hx hb dX6_orderText_0 rfl (lv_at hl 0 rfl) ?_
  refine lv_iload_n hx hb dX6_orderText_1 rfl (lv_at hl 1 rfl) ?_
  refine kx_cr (v := bI false) (va_runS (As := [.int (nI j)]) (rest := [.ref (am 0)]) ⟨hx, hb, hml, hown, hts⟩ (m_X6_isNoOrder l dC dI am M (nI j)) (va_cwS 1 hts gX6_orderText_X6_isNoOrder rfl rfl rfl hdX6_isNoOrder_1.2 ⟨Nat.le_of_ble_eq_true rfl, Nat.le_of_ble_eq_true rfl⟩) hX.preS rfl rfl hl.1 rfl (lv_room (Nat.le_of_ble_eq_true rfl)) dX6_orderText_2 ⟨by show _ ≤ 144; omega, by show _ ≤ 6928; omega⟩) (fun _ h => h.trans (isNo_ok (by omega) (by omega))) ?_
  refine lv_iconst (v := nI 1) hx hb dX6_orderText_5 (by decide) ?_
  refine km_ci (va_runV (As := [.int (bI false), .int (nI 1)]) (rest := []) ⟨hx, hb, hml, hown, hts⟩ (m_X6_start l dC dI am M false 1 (by omega)) (cwV 2 hts gX6_orderText_X6_start rfl rfl rfl hdX6_start_2 ⟨Nat.le_of_ble_eq_true rfl, Nat.le_of_ble_eq_true rfl⟩) (hX.preObj) rfl rfl hl.1 rfl (lv_room (Nat.le_of_ble_eq_true rfl)) dX6_orderText_6 ⟨by show _ ≤ 144; omega, by show _ ≤ 6928; omega⟩) hX (fun _ h => Or.inl h) (fun r_ S_ H locs hw hX => ?_)
  obtain ⟨rfl, rfl⟩ := hw
  refine kb_if_eq (tgt := 15) hx hb dX6_orderText_9 (by decide) (fun k_1 => ?_) (fun k_1 => absurd k_1 (by decide))
  obtain ⟨ac2, hr2, hV⟩ := CM.at hCM hX (A := (zB H.size)) (c := (95, "", 0)) (by decide) (fun q hq => Or.inr (Nat.le_trans hX.2.2.2.1 hq))
  replace hV : SV (zB H.size) ac2 0 s H := hV
  refine va_ldcS hx hb hown hr2 dX6_orderText_15 ?_
  refine lv_astore_n (lv' := [(2, .ref ac2), (0, .ref (am 0)), (1, .int (nI j))]) hx hb dX6_orderText_17 rfl hl (by decide) rfl (fun ls hl => ?_)
  refine lv_iconst (v := nI 0) hx hb dX6_orderText_18 (by decide) ?_
  refine lv_istore_n (lv' := [(3, .int (nI 0)), (2, .ref ac2), (0, .ref (am 0)), (1, .int (nI j))]) hx hb dX6_orderText_19 rfl hl (by decide) rfl (fun ls hl => ?_)
  have loop20 : ∀ (fuel : Nat) (k qm nm : Nat) (hk : k ≤ (M.2.1 j).2.2) (hnm : nm ≤ 10 * k) (H : Heap) (locs : List Loc), (M.2.1 j).2.2 - k < fuel → WM dC dI am (mN M (0, M.2.2.2.1, M.2.2.2.2.1, M.2.2.2.2.2)) [] (AY am s.heap.size) s H locs → SV (zB H.size) qm nm s H → ∀ ls : Array Slot, lv_has ls 4 [(0, .ref (am 0)), (1, .int (nI j)), (2, .ref qm), (3, .int (nI k))] → W p l e ({ frames := 6, cells := 144, slots := 6928, locals := 151 } : Room) s m ([.ref (am 0), .int (nI j)]).toArray below meth c H locs (9 * k) (slR 10 0 k) (MQ below (va_Qr (fun M1 : MS => M1 = thM M 0) (fun M1 _ t => PM dC dI am M1 t) (AM am)) ([.ref (am 0), .int (nI j)]).toArray s 144 6928 (AM am)) (F0 m 20 ls []) := by
    intro fuel
    induction fuel with
    | zero => intro k qm nm hk hnm H locs hf9; exact absurd hf9 (Nat.not_lt_zero _)
    | succ fuel ih20 =>
      intro k qm nm hk hnm H locs hf9 hX hV ls hl
      refine lv_iload_n hx hb dX6_orderText_20 rfl (lv_at hl 3 rfl) ?_
      refine lv_aload_n hx hb dX6_orderText_21 rfl (lv_at hl 0 rfl) ?_
      refine km_gsteps hx hb hts hin6 hown hX (hts (.fieldLink RX6 29 "OrderlatticeModel" "steps" "[I") (tm 724 (by decide +kernel) rfl)) dX6_orderText_22 ?_
      refine lv_iload_n hx hb dX6_orderText_25 rfl (lv_at hl 1 rfl) ?_
      refine km_lt (v := (M.2.1 j).2.2) hx hb hX (by omega) rfl dX6_orderText_26 ?_
      refine kn_icmp_ge (tgt := 97) hx hb (by omega) (by omega) dX6_orderText_27 (by decide) (fun k_3 => ?_) (fun k_3 => ?_)
      · skip
        refine lv_aload_n hx hb dX6_orderText_97 rfl (lv_at hl 2 rfl) ?_
        have hs7 : slR 10 0 k ≤ 6928 := Nat.le_trans (slR_mono (show k ≤ 16 by omega)) (by decide)
        exact W.widen (k := 144) (n := 6928) (by omega) (by omega) (W.filt (fun locs1 hl1 => W.aret (v := .ref qm) hx hb hr (Or.inl ⟨_, rfl⟩) (Or.inr ⟨_, rfl⟩) (fun t9 ht9 hW9 => ⟨⟨(mN M (0, M.2.2.2.1, M.2.2.2.2.1, M.2.2.2.2.2)), _, rfl, rfl, hX.P ht9 hW9⟩, (hX.2.2.2.F ht9).Y⟩) (free_Y hX.2.2.2 hl1) dX6_orderText_98))
      · skip
        have hs8 := slR_s 10 0 k
        have hs9 : slR 10 0 (k + 1) ≤ 6928 := Nat.le_trans (slR_mono (show k + 1 ≤ 16 by omega)) (by decide)
        have hv9 := (hI.2 j (by omega)).2 k (by omega)
        refine km_newB (cB := cB) hx hb hts hinJ4 hown (hts (.classLink RX6 97 RJ4) (tm 775 (by decide +kernel) rfl)) (hts (.instantiable RJ4 4) (tm 374 (by decide +kernel) rfl)) (hts (.initialized RJ4) (tm 328 (by decide +kernel) rfl)) hX (by show _ ≤ 144; omega) (by show _ ≤ 6928; omega) dX6_orderText_30 (fun z9 H hz9 hX hT hk9 => ?_)
        have hV := hk9 _ _ _ hV
        rw [← hz9] at hV
        clear hz9 hk9
        refine lv_dup hx hb dX6_orderText_33 rfl ?_
        refine ktm_v (va_runI (As := []) (rest := [.ref z9]) ⟨hx, hb, hml, hown, hts⟩ (m_J4_init_da8c8 l dC dI cB z9 z9) (cwI 0 hts gX6_orderText_J4_init_da8c8 rfl rfl rfl (hts (.initialized yJ4_init_da8c8.cls) (tm 328 (by decide +kernel) rfl)) (hts (.methodLink RX6 99 yJ4_init_da8c8) (tm 776 (by decide +kernel) rfl)) (hts (.instanceMethod yJ4_init_da8c8) (tm 414 (by decide +kernel) rfl)) rfl (by decide +kernel) ⟨Nat.le_of_ble_eq_true rfl, Nat.le_of_ble_eq_true rfl⟩) (hT.preS hK hX) rfl rfl hl.1 rfl (lv_room (Nat.le_of_ble_eq_true rfl)) dX6_orderText_34 ⟨by show _ ≤ 144; omega, by show _ ≤ 6928; omega⟩) hK hX hT (fun b0 H locs _ hX hT hk9 => ?_)
        have hV := hk9 _ _ hV
        refine W.widen (k := 9 * k + 2) (n := slR 10 0 k + 4 + 2 * 16) (by omega) (by omega) ?_
        have hf : sb_Fit (fun _ => 0) := sb_fit0
        refine lv_aload_n hx hb dX6_orderText_37 rfl (lv_at hl 2 rfl) ?_
        have hcb := cap_b (q := 0 + nm) (cp := 16) (Q := (10 * (k + 1))) (by omega) (by omega)
        refine ktm_app (sl := slR 10 0 k + 4) (n2 := 0 + nm) (10 * (k + 1)) (va_runV (As := [.ref qm]) (rest := []) ⟨hx, hb, hml, hown, hts⟩ (m_J4_append_15ec4 l dC dI cB z9 z9 b0 0 16 (fun _ => 0) qm nm (by omega) (by omega) (by omega) hf (by omega) (by omega)) (cwV 1 hts gX6_orderText_J4_append_15ec4 rfl rfl rfl hdJ4_append_15ec4_1 ⟨Nat.le_of_ble_eq_true rfl, Nat.le_of_ble_eq_true rfl⟩) (hT.preVV hK hX hV (ci := 1) (r := (RJ4, TJ4, 4)) rfl 0 rfl) rfl rfl hl.1 rfl (lv_room (Nat.le_of_ble_eq_true rfl)) dX6_orderText_38 ⟨by show _ ≤ 144; omega, by show _ ≤ 6928; have := gm_pot (0 + nm) 16; omega⟩) hK hX hT (by omega) (by omega) (fun b_4 c_4 f_4 H locs hX hT hk9 hf _ _ _ => ?_)
        have hV := hk9 _ _ hV
        refine lv_iload_n hx hb dX6_orderText_41 rfl (lv_at hl 3 rfl) ?_
        refine kn_if_ne (tgt := 50) hx hb (by omega) dX6_orderText_42 (by decide) (fun k_5 => ?_) (fun k_5 => ?_)
        · skip
          obtain ⟨ac6, hr6, hVc⟩ := CM.at hCM hX (A := (zB z9)) (c := (104, " ", 1)) (by decide) (fun q hq => Or.inr (Nat.le_trans hT.2.2.1 hq))
          replace hVc : SV (zB z9) ac6 1 s H := hVc
          refine va_ldcS hx hb hown hr6 dX6_orderText_50 ?_
          have hcb := cap_b (q := 0 + nm + 1) (cp := c_4) (Q := (10 * (k + 1))) (by omega) (by omega)
          refine ktm_app (sl := slR 10 0 k + 4) (n2 := 0 + nm + 1) (10 * (k + 1)) (va_runV (As := [.ref ac6]) (rest := []) ⟨hx, hb, hml, hown, hts⟩ (m_J4_append_15ec4 l dC dI cB z9 z9 b_4 (0 + nm) c_4 f_4 ac6 1 (by omega) (by omega) (by omega) hf (by omega) (by omega)) (cwV 1 hts gX6_orderText_J4_append_15ec4 rfl rfl rfl hdJ4_append_15ec4_1 ⟨Nat.le_of_ble_eq_true rfl, Nat.le_of_ble_eq_true rfl⟩) (hT.preVV hK hX hVc (ci := 1) (r := (RJ4, TJ4, 4)) rfl 0 rfl) rfl rfl hl.1 rfl (lv_room (Nat.le_of_ble_eq_true rfl)) dX6_orderText_52 ⟨by show _ ≤ 144; omega, by show _ ≤ 6928; have := gm_pot (0 + nm + 1) c_4; omega⟩) hK hX hT (by omega) (by omega) (fun b_7 c_7 f_7 H locs hX hT hk9 hf _ _ _ => ?_)
          have hV := hk9 _ _ hV
          clear hVc
          refine lv_aload_n hx hb dX6_orderText_55 rfl (lv_at hl 0 rfl) ?_
          refine km_gkeys hx hb hts hin6 hown hX (hts (.fieldLink RX6 21 "OrderlatticeModel" "keys" "[[I") (tm 725 (by decide +kernel) rfl)) dX6_orderText_56 ?_
          refine lv_iload_n hx hb dX6_orderText_59 rfl (lv_at hl 1 rfl) ?_
          refine km_ak hx hb hX (by omega) dX6_orderText_60 ?_
          refine lv_iload_n hx hb dX6_orderText_61 rfl (lv_at hl 3 rfl) ?_
          refine km_lk (v := ((M.2.1 j).1) k) hx hb hX (by omega) (by omega) rfl dX6_orderText_62 ?_
          have hd1 := dg2 (v := ((M.2.1 j).1) k) (by omega)
          have hcb := cap_b (q := 0 + nm + 1 + sb_dg (((M.2.1 j).1) k)) (cp := c_7) (Q := (10 * (k + 1))) (by omega) (by omega)
          refine ktm_app (sl := slR 10 0 k + 4) (n2 := 0 + nm + 1 + sb_dg (((M.2.1 j).1) k)) (10 * (k + 1)) (va_runV (As := [.int (nI (((M.2.1 j).1) k))]) (rest := []) ⟨hx, hb, hml, hown, hts⟩ (m_J4_append_bf812 l dC dI cB z9 z9 b_7 (0 + nm + 1) c_7 f_7 (by omega) (by omega) hf (((M.2.1 j).1) k) (by omega) (by omega)) (cwV 1 hts gX6_orderText_J4_append_bf812 rfl rfl rfl hdJ4_append_bf812_1 ⟨Nat.le_of_ble_eq_true rfl, Nat.le_of_ble_eq_true rfl⟩) (hT.preV hK hX (ci := 1) (r := (RJ4, TJ4, 4)) rfl 0 rfl) rfl rfl hl.1 rfl (lv_room (Nat.le_of_ble_eq_true rfl)) dX6_orderText_63 ⟨by show _ ≤ 144; omega, by show _ ≤ 6928; have := gm_pot (0 + nm + 1 + sb_dg (((M.2.1 j).1) k)) c_7; omega⟩) hK hX hT (by omega) (by omega) (fun b_8 c_8 f_8 H locs hX hT hk9 hf _ _ _ => ?_)
          have hV := hk9 _ _ hV
          refine lv_aload_n hx hb dX6_orderText_66 rfl (lv_at hl 0 rfl) ?_
          refine km_gdowns hx hb hts hin6 hown hX (hts (.fieldLink RX6 26 "OrderlatticeModel" "downs" "[[Z") (tm 726 (by decide +kernel) rfl)) dX6_orderText_67 ?_
          refine lv_iload_n hx hb dX6_orderText_70 rfl (lv_at hl 1 rfl) ?_
          refine km_ad hx hb hX (by omega) dX6_orderText_71 ?_
          refine lv_iload_n hx hb dX6_orderText_72 rfl (lv_at hl 3 rfl) ?_
          refine km_ld (z := ((M.2.1 j).2.1) k) hx hb hX (by omega) (by omega) rfl dX6_orderText_73 ?_
          refine kb_if_eq (tgt := 82) hx hb dX6_orderText_74 (by decide) (fun k_9 => ?_) (fun k_9 => ?_)
          · skip
            obtain ⟨ac10, hr10, hVc⟩ := CM.at hCM hX (A := (zB z9)) (c := (143, "+", 1)) (by decide) (fun q hq => Or.inr (Nat.le_trans hT.2.2.1 hq))
            replace hVc : SV (zB z9) ac10 1 s H := hVc
            refine va_ldcS hx hb hown hr10 dX6_orderText_82 ?_
            have hcb := cap_b (q := 0 + nm + 1 + sb_dg (((M.2.1 j).1) k) + 1) (cp := c_8) (Q := (10 * (k + 1))) (by omega) (by omega)
            refine ktm_app (sl := slR 10 0 k + 4) (n2 := 0 + nm + 1 + sb_dg (((M.2.1 j).1) k) + 1) (10 * (k + 1)) (va_runV (As := [.ref ac10]) (rest := []) ⟨hx, hb, hml, hown, hts⟩ (m_J4_append_15ec4 l dC dI cB z9 z9 b_8 (0 + nm + 1 + sb_dg (((M.2.1 j).1) k)) c_8 f_8 ac10 1 (by omega) (by omega) (by omega) hf (by omega) (by omega)) (cwV 1 hts gX6_orderText_J4_append_15ec4 rfl rfl rfl hdJ4_append_15ec4_1 ⟨Nat.le_of_ble_eq_true rfl, Nat.le_of_ble_eq_true rfl⟩) (hT.preVV hK hX hVc (ci := 1) (r := (RJ4, TJ4, 4)) rfl 0 rfl) rfl rfl hl.1 rfl (lv_room (Nat.le_of_ble_eq_true rfl)) dX6_orderText_84 ⟨by show _ ≤ 144; omega, by show _ ≤ 6928; have := gm_pot (0 + nm + 1 + sb_dg (((M.2.1 j).1) k) + 1) c_8; omega⟩) hK hX hT (by omega) (by omega) (fun b_11 c_11 f_11 H locs hX hT hk9 hf _ _ _ => ?_)
            have hV := hk9 _ _ hV
            clear hVc
            refine ktm_str hts hinJ0 (va_runV (As := []) (rest := []) ⟨hx, hb, hml, hown, hts⟩ (s_J4_toString_0e30d l dC dI cB z9 z9 b_11 (0 + nm + 1 + sb_dg (((M.2.1 j).1) k) + 1) c_11 f_11 (by omega) (by omega) hf) (cwV 0 hts gX6_orderText_J4_toString_0e30d rfl rfl rfl hdJ4_toString_0e30d_0 ⟨Nat.le_of_ble_eq_true rfl, Nat.le_of_ble_eq_true rfl⟩) (hT.preV hK hX (ci := 1) (r := (RJ4, TJ4, 4)) rfl 0 rfl) rfl rfl hl.1 rfl (lv_room (Nat.le_of_ble_eq_true rfl)) dX6_orderText_87 ⟨by show _ ≤ 144; omega, by show _ ≤ 6928; omega⟩) hK hX hT (fun q_12 H locs hX hV => ?_)
            refine lv_astore_n (lv' := [(2, .ref q_12), (0, .ref (am 0)), (1, .int (nI j)), (3, .int (nI k))]) hx hb dX6_orderText_90 rfl hl (by decide) rfl (fun ls hl => ?_)
            refine lv_iinc (v := nI (k + 1)) (lv' := [(3, .int (nI (k + 1))), (2, .ref q_12), (0, .ref (am 0)), (1, .int (nI j))]) hx hb dX6_orderText_91 hl (k := 3) rfl (nI_1 k) (by decide) rfl (fun ls hl => ?_)
            refine lv_goto (tgt := 20) hx hb dX6_orderText_94 (by decide) ?_
            refine W.widen (k := 9 * (k + 1)) (n := slR 10 0 (k + 1)) (by omega) (by omega) ?_
            exact ih20  (k + 1) q_12 (0 + nm + 1 + sb_dg (((M.2.1 j).1) k) + 1) (by omega) (by omega) _ _ (by omega) hX hV _ (lv_sub hl [2, 3, 1, 0] rfl)
          · skip
            obtain ⟨ac13, hr13, hVc⟩ := CM.at hCM hX (A := (zB z9)) (c := (141, "-", 1)) (by decide) (fun q hq => Or.inr (Nat.le_trans hT.2.2.1 hq))
            replace hVc : SV (zB z9) ac13 1 s H := hVc
            refine va_ldcS hx hb hown hr13 dX6_orderText_77 ?_
            refine lv_goto (tgt := 84) hx hb dX6_orderText_79 (by decide) ?_
            have hcb := cap_b (q := 0 + nm + 1 + sb_dg (((M.2.1 j).1) k) + 1) (cp := c_8) (Q := (10 * (k + 1))) (by omega) (by omega)
            refine ktm_app (sl := slR 10 0 k + 4) (n2 := 0 + nm + 1 + sb_dg (((M.2.1 j).1) k) + 1) (10 * (k + 1)) (va_runV (As := [.ref ac13]) (rest := []) ⟨hx, hb, hml, hown, hts⟩ (m_J4_append_15ec4 l dC dI cB z9 z9 b_8 (0 + nm + 1 + sb_dg (((M.2.1 j).1) k)) c_8 f_8 ac13 1 (by omega) (by omega) (by omega) hf (by omega) (by omega)) (cwV 1 hts gX6_orderText_J4_append_15ec4 rfl rfl rfl hdJ4_append_15ec4_1 ⟨Nat.le_of_ble_eq_true rfl, Nat.le_of_ble_eq_true rfl⟩) (hT.preVV hK hX hVc (ci := 1) (r := (RJ4, TJ4, 4)) rfl 0 rfl) rfl rfl hl.1 rfl (lv_room (Nat.le_of_ble_eq_true rfl)) dX6_orderText_84 ⟨by show _ ≤ 144; omega, by show _ ≤ 6928; have := gm_pot (0 + nm + 1 + sb_dg (((M.2.1 j).1) k) + 1) c_8; omega⟩) hK hX hT (by omega) (by omega) (fun b_14 c_14 f_14 H locs hX hT hk9 hf _ _ _ => ?_)
            have hV := hk9 _ _ hV
            clear hVc
            refine ktm_str hts hinJ0 (va_runV (As := []) (rest := []) ⟨hx, hb, hml, hown, hts⟩ (s_J4_toString_0e30d l dC dI cB z9 z9 b_14 (0 + nm + 1 + sb_dg (((M.2.1 j).1) k) + 1) c_14 f_14 (by omega) (by omega) hf) (cwV 0 hts gX6_orderText_J4_toString_0e30d rfl rfl rfl hdJ4_toString_0e30d_0 ⟨Nat.le_of_ble_eq_true rfl, Nat.le_of_ble_eq_true rfl⟩) (hT.preV hK hX (ci := 1) (r := (RJ4, TJ4, 4)) rfl 0 rfl) rfl rfl hl.1 rfl (lv_room (Nat.le_of_ble_eq_true rfl)) dX6_orderText_87 ⟨by show _ ≤ 144; omega, by show _ ≤ 6928; omega⟩) hK hX hT (fun q_15 H locs hX hV => ?_)
            refine lv_astore_n (lv' := [(2, .ref q_15), (0, .ref (am 0)), (1, .int (nI j)), (3, .int (nI k))]) hx hb dX6_orderText_90 rfl hl (by decide) rfl (fun ls hl => ?_)
            refine lv_iinc (v := nI (k + 1)) (lv' := [(3, .int (nI (k + 1))), (2, .ref q_15), (0, .ref (am 0)), (1, .int (nI j))]) hx hb dX6_orderText_91 hl (k := 3) rfl (nI_1 k) (by decide) rfl (fun ls hl => ?_)
            refine lv_goto (tgt := 20) hx hb dX6_orderText_94 (by decide) ?_
            refine W.widen (k := 9 * (k + 1)) (n := slR 10 0 (k + 1)) (by omega) (by omega) ?_
            exact ih20  (k + 1) q_15 (0 + nm + 1 + sb_dg (((M.2.1 j).1) k) + 1) (by omega) (by omega) _ _ (by omega) hX hV _ (lv_sub hl [2, 3, 1, 0] rfl)
        · skip
          obtain ⟨ac16, hr16, hVc⟩ := CM.at hCM hX (A := (zB z9)) (c := (95, "", 0)) (by decide) (fun q hq => Or.inr (Nat.le_trans hT.2.2.1 hq))
          replace hVc : SV (zB z9) ac16 0 s H := hVc
          refine va_ldcS hx hb hown hr16 dX6_orderText_45 ?_
          refine lv_goto (tgt := 52) hx hb dX6_orderText_47 (by decide) ?_
          have hcb := cap_b (q := 0 + nm + 0) (cp := c_4) (Q := (10 * (k + 1))) (by omega) (by omega)
          refine ktm_app (sl := slR 10 0 k + 4) (n2 := 0 + nm + 0) (10 * (k + 1)) (va_runV (As := [.ref ac16]) (rest := []) ⟨hx, hb, hml, hown, hts⟩ (m_J4_append_15ec4 l dC dI cB z9 z9 b_4 (0 + nm) c_4 f_4 ac16 0 (by omega) (by omega) (by omega) hf (by omega) (by omega)) (cwV 1 hts gX6_orderText_J4_append_15ec4 rfl rfl rfl hdJ4_append_15ec4_1 ⟨Nat.le_of_ble_eq_true rfl, Nat.le_of_ble_eq_true rfl⟩) (hT.preVV hK hX hVc (ci := 1) (r := (RJ4, TJ4, 4)) rfl 0 rfl) rfl rfl hl.1 rfl (lv_room (Nat.le_of_ble_eq_true rfl)) dX6_orderText_52 ⟨by show _ ≤ 144; omega, by show _ ≤ 6928; have := gm_pot (0 + nm + 0) c_4; omega⟩) hK hX hT (by omega) (by omega) (fun b_17 c_17 f_17 H locs hX hT hk9 hf _ _ _ => ?_)
          have hV := hk9 _ _ hV
          clear hVc
          refine lv_aload_n hx hb dX6_orderText_55 rfl (lv_at hl 0 rfl) ?_
          refine km_gkeys hx hb hts hin6 hown hX (hts (.fieldLink RX6 21 "OrderlatticeModel" "keys" "[[I") (tm 725 (by decide +kernel) rfl)) dX6_orderText_56 ?_
          refine lv_iload_n hx hb dX6_orderText_59 rfl (lv_at hl 1 rfl) ?_
          refine km_ak hx hb hX (by omega) dX6_orderText_60 ?_
          refine lv_iload_n hx hb dX6_orderText_61 rfl (lv_at hl 3 rfl) ?_
          refine km_lk (v := ((M.2.1 j).1) k) hx hb hX (by omega) (by omega) rfl dX6_orderText_62 ?_
          have hd1 := dg2 (v := ((M.2.1 j).1) k) (by omega)
          have hcb := cap_b (q := 0 + nm + 0 + sb_dg (((M.2.1 j).1) k)) (cp := c_17) (Q := (10 * (k + 1))) (by omega) (by omega)
          refine ktm_app (sl := slR 10 0 k + 4) (n2 := 0 + nm + 0 + sb_dg (((M.2.1 j).1) k)) (10 * (k + 1)) (va_runV (As := [.int (nI (((M.2.1 j).1) k))]) (rest := []) ⟨hx, hb, hml, hown, hts⟩ (m_J4_append_bf812 l dC dI cB z9 z9 b_17 (0 + nm + 0) c_17 f_17 (by omega) (by omega) hf (((M.2.1 j).1) k) (by omega) (by omega)) (cwV 1 hts gX6_orderText_J4_append_bf812 rfl rfl rfl hdJ4_append_bf812_1 ⟨Nat.le_of_ble_eq_true rfl, Nat.le_of_ble_eq_true rfl⟩) (hT.preV hK hX (ci := 1) (r := (RJ4, TJ4, 4)) rfl 0 rfl) rfl rfl hl.1 rfl (lv_room (Nat.le_of_ble_eq_true rfl)) dX6_orderText_63 ⟨by show _ ≤ 144; omega, by show _ ≤ 6928; have := gm_pot (0 + nm + 0 + sb_dg (((M.2.1 j).1) k)) c_17; omega⟩) hK hX hT (by omega) (by omega) (fun b_18 c_18 f_18 H locs hX hT hk9 hf _ _ _ => ?_)
          have hV := hk9 _ _ hV
          refine lv_aload_n hx hb dX6_orderText_66 rfl (lv_at hl 0 rfl) ?_
          refine km_gdowns hx hb hts hin6 hown hX (hts (.fieldLink RX6 26 "OrderlatticeModel" "downs" "[[Z") (tm 726 (by decide +kernel) rfl)) dX6_orderText_67 ?_
          refine lv_iload_n hx hb dX6_orderText_70 rfl (lv_at hl 1 rfl) ?_
          refine km_ad hx hb hX (by omega) dX6_orderText_71 ?_
          refine lv_iload_n hx hb dX6_orderText_72 rfl (lv_at hl 3 rfl) ?_
          refine km_ld (z := ((M.2.1 j).2.1) k) hx hb hX (by omega) (by omega) rfl dX6_orderText_73 ?_
          refine kb_if_eq (tgt := 82) hx hb dX6_orderText_74 (by decide) (fun k_19 => ?_) (fun k_19 => ?_)
          · skip
            obtain ⟨ac20, hr20, hVc⟩ := CM.at hCM hX (A := (zB z9)) (c := (143, "+", 1)) (by decide) (fun q hq => Or.inr (Nat.le_trans hT.2.2.1 hq))
            replace hVc : SV (zB z9) ac20 1 s H := hVc
            refine va_ldcS hx hb hown hr20 dX6_orderText_82 ?_
            have hcb := cap_b (q := 0 + nm + 0 + sb_dg (((M.2.1 j).1) k) + 1) (cp := c_18) (Q := (10 * (k + 1))) (by omega) (by omega)
            refine ktm_app (sl := slR 10 0 k + 4) (n2 := 0 + nm + 0 + sb_dg (((M.2.1 j).1) k) + 1) (10 * (k + 1)) (va_runV (As := [.ref ac20]) (rest := []) ⟨hx, hb, hml, hown, hts⟩ (m_J4_append_15ec4 l dC dI cB z9 z9 b_18 (0 + nm + 0 + sb_dg (((M.2.1 j).1) k)) c_18 f_18 ac20 1 (by omega) (by omega) (by omega) hf (by omega) (by omega)) (cwV 1 hts gX6_orderText_J4_append_15ec4 rfl rfl rfl hdJ4_append_15ec4_1 ⟨Nat.le_of_ble_eq_true rfl, Nat.le_of_ble_eq_true rfl⟩) (hT.preVV hK hX hVc (ci := 1) (r := (RJ4, TJ4, 4)) rfl 0 rfl) rfl rfl hl.1 rfl (lv_room (Nat.le_of_ble_eq_true rfl)) dX6_orderText_84 ⟨by show _ ≤ 144; omega, by show _ ≤ 6928; have := gm_pot (0 + nm + 0 + sb_dg (((M.2.1 j).1) k) + 1) c_18; omega⟩) hK hX hT (by omega) (by omega) (fun b_21 c_21 f_21 H locs hX hT hk9 hf _ _ _ => ?_)
            have hV := hk9 _ _ hV
            clear hVc
            refine ktm_str hts hinJ0 (va_runV (As := []) (rest := []) ⟨hx, hb, hml, hown, hts⟩ (s_J4_toString_0e30d l dC dI cB z9 z9 b_21 (0 + nm + 0 + sb_dg (((M.2.1 j).1) k) + 1) c_21 f_21 (by omega) (by omega) hf) (cwV 0 hts gX6_orderText_J4_toString_0e30d rfl rfl rfl hdJ4_toString_0e30d_0 ⟨Nat.le_of_ble_eq_true rfl, Nat.le_of_ble_eq_true rfl⟩) (hT.preV hK hX (ci := 1) (r := (RJ4, TJ4, 4)) rfl 0 rfl) rfl rfl hl.1 rfl (lv_room (Nat.le_of_ble_eq_true rfl)) dX6_orderText_87 ⟨by show _ ≤ 144; omega, by show _ ≤ 6928; omega⟩) hK hX hT (fun q_22 H locs hX hV => ?_)
            refine lv_astore_n (lv' := [(2, .ref q_22), (0, .ref (am 0)), (1, .int (nI j)), (3, .int (nI k))]) hx hb dX6_orderText_90 rfl hl (by decide) rfl (fun ls hl => ?_)
            refine lv_iinc (v := nI (k + 1)) (lv' := [(3, .int (nI (k + 1))), (2, .ref q_22), (0, .ref (am 0)), (1, .int (nI j))]) hx hb dX6_orderText_91 hl (k := 3) rfl (nI_1 k) (by decide) rfl (fun ls hl => ?_)
            refine lv_goto (tgt := 20) hx hb dX6_orderText_94 (by decide) ?_
            refine W.widen (k := 9 * (k + 1)) (n := slR 10 0 (k + 1)) (by omega) (by omega) ?_
            exact ih20  (k + 1) q_22 (0 + nm + 0 + sb_dg (((M.2.1 j).1) k) + 1) (by omega) (by omega) _ _ (by omega) hX hV _ (lv_sub hl [2, 3, 1, 0] rfl)
          · skip
            obtain ⟨ac23, hr23, hVc⟩ := CM.at hCM hX (A := (zB z9)) (c := (141, "-", 1)) (by decide) (fun q hq => Or.inr (Nat.le_trans hT.2.2.1 hq))
            replace hVc : SV (zB z9) ac23 1 s H := hVc
            refine va_ldcS hx hb hown hr23 dX6_orderText_77 ?_
            refine lv_goto (tgt := 84) hx hb dX6_orderText_79 (by decide) ?_
            have hcb := cap_b (q := 0 + nm + 0 + sb_dg (((M.2.1 j).1) k) + 1) (cp := c_18) (Q := (10 * (k + 1))) (by omega) (by omega)
            refine ktm_app (sl := slR 10 0 k + 4) (n2 := 0 + nm + 0 + sb_dg (((M.2.1 j).1) k) + 1) (10 * (k + 1)) (va_runV (As := [.ref ac23]) (rest := []) ⟨hx, hb, hml, hown, hts⟩ (m_J4_append_15ec4 l dC dI cB z9 z9 b_18 (0 + nm + 0 + sb_dg (((M.2.1 j).1) k)) c_18 f_18 ac23 1 (by omega) (by omega) (by omega) hf (by omega) (by omega)) (cwV 1 hts gX6_orderText_J4_append_15ec4 rfl rfl rfl hdJ4_append_15ec4_1 ⟨Nat.le_of_ble_eq_true rfl, Nat.le_of_ble_eq_true rfl⟩) (hT.preVV hK hX hVc (ci := 1) (r := (RJ4, TJ4, 4)) rfl 0 rfl) rfl rfl hl.1 rfl (lv_room (Nat.le_of_ble_eq_true rfl)) dX6_orderText_84 ⟨by show _ ≤ 144; omega, by show _ ≤ 6928; have := gm_pot (0 + nm + 0 + sb_dg (((M.2.1 j).1) k) + 1) c_18; omega⟩) hK hX hT (by omega) (by omega) (fun b_24 c_24 f_24 H locs hX hT hk9 hf _ _ _ => ?_)
            have hV := hk9 _ _ hV
            clear hVc
            refine ktm_str hts hinJ0 (va_runV (As := []) (rest := []) ⟨hx, hb, hml, hown, hts⟩ (s_J4_toString_0e30d l dC dI cB z9 z9 b_24 (0 + nm + 0 + sb_dg (((M.2.1 j).1) k) + 1) c_24 f_24 (by omega) (by omega) hf) (cwV 0 hts gX6_orderText_J4_toString_0e30d rfl rfl rfl hdJ4_toString_0e30d_0 ⟨Nat.le_of_ble_eq_true rfl, Nat.le_of_ble_eq_true rfl⟩) (hT.preV hK hX (ci := 1) (r := (RJ4, TJ4, 4)) rfl 0 rfl) rfl rfl hl.1 rfl (lv_room (Nat.le_of_ble_eq_true rfl)) dX6_orderText_87 ⟨by show _ ≤ 144; omega, by show _ ≤ 6928; omega⟩) hK hX hT (fun q_25 H locs hX hV => ?_)
            refine lv_astore_n (lv' := [(2, .ref q_25), (0, .ref (am 0)), (1, .int (nI j)), (3, .int (nI k))]) hx hb dX6_orderText_90 rfl hl (by decide) rfl (fun ls hl => ?_)
            refine lv_iinc (v := nI (k + 1)) (lv' := [(3, .int (nI (k + 1))), (2, .ref q_25), (0, .ref (am 0)), (1, .int (nI j))]) hx hb dX6_orderText_91 hl (k := 3) rfl (nI_1 k) (by decide) rfl (fun ls hl => ?_)
            refine lv_goto (tgt := 20) hx hb dX6_orderText_94 (by decide) ?_
            refine W.widen (k := 9 * (k + 1)) (n := slR 10 0 (k + 1)) (by omega) (by omega) ?_
            exact ih20  (k + 1) q_25 (0 + nm + 0 + sb_dg (((M.2.1 j).1) k) + 1) (by omega) (by omega) _ _ (by omega) hX hV _ (lv_sub hl [2, 3, 1, 0] rfl)
  refine W.widen (k := 9 * 0) (n := slR 10 0 0) (by omega) (by omega) ?_
  exact loop20 ((M.2.1 j).2.2 + 1) 0 ac2 0 (by omega) (by omega) _ _ (by omega) hX hV _ (lv_sub hl [2, 3, 1, 0] rfl)
set_option maxHeartbeats 4000000 in
set_option maxRecDepth 100000 in
theorem m_X6_groups (l : Launch) (dC : Nat → ClassId) (dI : Nat → Nat → Nat) (cB : ClassId) (am : Nat → Nat) (M : MS) (i j : Nat) (hi : i < 3) (hj : j < 4) (hI : InvM M) : Met l yX6_groups wsX6_groups ({ frames := 6, cells := 144, slots := 6928, locals := 151 } : Room) (va_Pc [.ref (am 0), .int (nI i), .int (nI j)] (PMT dC dI cB am M)) (va_Qr (fun M1 : MS => M1 = thM M 0) (fun M1 _ t => PM dC dI am M1 t) (AM am)) 144 6928 (AM am) := by
  refine Met.ofW (cc := cX6_groups) (maxL := 8) (ret := (some (.object "java/lang/String"))) pl_X6 rfl ?_
  intro p e s m args below meth c s₁ B hml hv
  obtain ⟨rfl, hPM⟩ := hv
  have hx := B.exec
  have hb := B.bytes
  have hr := B.returns
  have hts := atoms_spec (ws := wsX6_groups) B.pre
  have hown : s.vm.findClass RX6 = some m.cls := findClass_of_methodNamed B.named
  have hlocks := B.notSynchronized
  have hin6 : ∀ w ∈ u_ws RX6 TX6 10, w ∈ wsX6_groups := tu 1331 (by decide +kernel) rfl
  have hinJ4 : ∀ w ∈ u_ws RJ4 TJ4 4, w ∈ wsX6_groups := tu 1326 (by decide +kernel) rfl
  have hinJ0 : ∀ w ∈ u_ws RJ0 TJ0 4, w ∈ wsX6_groups := tu 1327 (by decide +kernel) rfl
  have hK := KT.of hPM
  have hCM := hPM.2.2.2
  have hX := WM.ofY hPM.1
  have hl := lv_entry ([.ref (am 0), .int (nI i), .int (nI j)]) (n := 8) (Nat.le_of_ble_eq_true rfl)
  rw [lg_entry_eq]
  generalize (lg_sl ([.ref (am 0), .int (nI i), .int (nI j)]) ++ List.replicate (8 - (lg_sl ([.ref (am 0), .int (nI i), .int (nI j)])).length) Slot.unset).toArray = ls at hl ⊢
  have hl : lv_has ls 8 [(0, .ref (am 0)), (1, .int (nI i)), (2, .int (nI j))] := hl
  show W p l e ({ frames := 6, cells := 144, slots := 6928, locals := 151 } : Room) s m ([.ref (am 0), .int (nI i), .int (nI j)]).toArray below meth c s.heap [] 0 0 (MQ below (va_Qr (fun M1 : MS => M1 = thM M 0) (fun M1 _ t => PM dC dI am M1 t) (AM am)) ([.ref (am 0), .int (nI i), .int (nI j)]).toArray s 144 6928 (AM am)) (F0 m 0 ls [])
  have hn := (hI.1 i (by omega)).1
  refine lv_aload_n hx hb dX6_groups_0 rfl (lv_at hl 0 rfl) ?_
  refine lv_iload_n hx hb dX6_groups_1 rfl (lv_at hl 1 rfl) ?_
  refine kx_cr (v := bI false) (va_runS (As := [.int (nI i)]) (rest := [.ref (am 0)]) ⟨hx, hb, hml, hown, hts⟩ (m_X6_isNoRow l dC dI am M (nI i)) (va_cwS 1 hts gX6_groups_X6_isNoRow rfl rfl rfl hdX6_isNoRow_1.2 ⟨Nat.le_of_ble_eq_true rfl, Nat.le_of_ble_eq_true rfl⟩) hX.preS rfl rfl hl.1 rfl (lv_room (Nat.le_of_ble_eq_true rfl)) dX6_groups_2 ⟨by show _ ≤ 144; omega, by show _ ≤ 6928; omega⟩) (fun _ h => h.trans (isNo_ok (by omega) (by omega))) ?_
  refine kb_if_ne (tgt := 15) hx hb dX6_groups_5 (by decide) (fun k_1 => absurd k_1 (by decide)) (fun k_1 => ?_)
  refine lv_iload_n hx hb dX6_groups_8 rfl (lv_at hl 2 rfl) ?_
  refine kx_cr (v := bI false) (va_runS (As := [.int (nI j)]) (rest := [.ref (am 0)]) ⟨hx, hb, hml, hown, hts⟩ (m_X6_isNoOrder l dC dI am M (nI j)) (va_cwS 1 hts gX6_groups_X6_isNoOrder rfl rfl rfl hdX6_isNoOrder_1.2 ⟨Nat.le_of_ble_eq_true rfl, Nat.le_of_ble_eq_true rfl⟩) hX.preS rfl rfl hl.1 rfl (lv_room (Nat.le_of_ble_eq_true rfl)) dX6_groups_9 ⟨by show _ ≤ 144; omega, by show _ ≤ 6928; omega⟩) (fun _ h => h.trans (isNo_ok (by omega) (by omega))) ?_
  refine kb_if_eq (tgt := 19) hx hb dX6_groups_12 (by decide) (fun k_2 => ?_) (fun k_2 => absurd k_2 (by decide))
  refine lv_iconst (v := nI 0) hx hb dX6_groups_19 (by decide) ?_
  refine lv_iconst (v := nI 1) hx hb dX6_groups_20 (by decide) ?_
  refine km_ci (va_runV (As := [.int (nI 0), .int (nI 1)]) (rest := []) ⟨hx, hb, hml, hown, hts⟩ (m_X6_start l dC dI am M false 1 (by omega)) (cwV 2 hts gX6_groups_X6_start rfl rfl rfl hdX6_start_2 ⟨Nat.le_of_ble_eq_true rfl, Nat.le_of_ble_eq_true rfl⟩) (hX.preObj) rfl rfl hl.1 rfl (lv_room (Nat.le_of_ble_eq_true rfl)) dX6_groups_21 ⟨by show _ ≤ 144; omega, by show _ ≤ 6928; omega⟩) hX (fun _ h => Or.inl h) (fun r_ S_ H locs hw hX => ?_)
  obtain ⟨rfl, rfl⟩ := hw
  refine kb_if_eq (tgt := 30) hx hb dX6_groups_24 (by decide) (fun k_3 => ?_) (fun k_3 => absurd k_3 (by decide))
  obtain ⟨ac4, hr4, hV⟩ := CM.at hCM hX (A := (zB H.size)) (c := (95, "", 0)) (by decide) (fun q hq => Or.inr (Nat.le_trans hX.2.2.2.1 hq))
  replace hV : SV (zB H.size) ac4 0 s H := hV
  refine va_ldcS hx hb hown hr4 dX6_groups_30 ?_
  refine lv_astore_n (lv' := [(3, .ref ac4), (0, .ref (am 0)), (1, .int (nI i)), (2, .int (nI j))]) hx hb dX6_groups_32 rfl hl (by decide) rfl (fun ls hl => ?_)
  refine lv_iconst (v := nI 0) hx hb dX6_groups_33 (by decide) ?_
  refine lv_istore (lv' := [(4, .int (nI 0)), (3, .ref ac4), (0, .ref (am 0)), (1, .int (nI i)), (2, .int (nI j))]) hx hb dX6_groups_34 hl (by decide) rfl (fun ls hl => ?_)
  have loop36 : ∀ (fuel : Nat) (k qm nm : Nat) (hk : k ≤ 16) (hnm : nm ≤ 10 * k) (H : Heap) (locs : List Loc), 16 - k < fuel → WM dC dI am (mN M (0, M.2.2.2.1, M.2.2.2.2.1, M.2.2.2.2.2)) [] (AY am s.heap.size) s H locs → SV (zB H.size) qm nm s H → ∀ ls : Array Slot, lv_has ls 8 [(0, .ref (am 0)), (1, .int (nI i)), (2, .int (nI j)), (3, .ref qm), (4, .int (nI k))] → W p l e ({ frames := 6, cells := 144, slots := 6928, locals := 151 } : Room) s m ([.ref (am 0), .int (nI i), .int (nI j)]).toArray below meth c H locs (9 * k) (slR 10 0 k) (MQ below (va_Qr (fun M1 : MS => M1 = thM M 0) (fun M1 _ t => PM dC dI am M1 t) (AM am)) ([.ref (am 0), .int (nI i), .int (nI j)]).toArray s 144 6928 (AM am)) (F0 m 36 ls []) := by
    intro fuel
    induction fuel with
    | zero => intro k qm nm hk hnm H locs hf9; exact absurd hf9 (Nat.not_lt_zero _)
    | succ fuel ih36 =>
      intro k qm nm hk hnm H locs hf9 hX hV ls hl
      refine lv_iload hx hb dX6_groups_36 (lv_at hl 4 rfl) ?_
      refine lv_bipush (v := nI 16) hx hb dX6_groups_38 (by decide) ?_
      refine kn_icmp_ge (tgt := 173) hx hb (by omega) (by omega) dX6_groups_40 (by decide) (fun k_5 => ?_) (fun k_5 => ?_)
      · skip
        refine lv_aload_n hx hb dX6_groups_173 rfl (lv_at hl 3 rfl) ?_
        have hs7 : slR 10 0 k ≤ 6928 := Nat.le_trans (slR_mono (show k ≤ 16 by omega)) (by decide)
        exact W.widen (k := 144) (n := 6928) (by omega) (by omega) (W.filt (fun locs1 hl1 => W.aret (v := .ref qm) hx hb hr (Or.inl ⟨_, rfl⟩) (Or.inr ⟨_, rfl⟩) (fun t9 ht9 hW9 => ⟨⟨(mN M (0, M.2.2.2.1, M.2.2.2.2.1, M.2.2.2.2.2)), _, rfl, rfl, hX.P ht9 hW9⟩, (hX.2.2.2.F ht9).Y⟩) (free_Y hX.2.2.2 hl1) dX6_groups_174))
      · skip
        have hs8 := slR_s 10 0 k
        have hs9 : slR 10 0 (k + 1) ≤ 6928 := Nat.le_trans (slR_mono (show k + 1 ≤ 16 by omega)) (by decide)
        refine lv_iconst (v := (-1)) hx hb dX6_groups_43 (by decide) ?_
        refine lv_istore (lv' := [(5, .int (-1)), (0, .ref (am 0)), (1, .int (nI i)), (2, .int (nI j)), (3, .ref qm), (4, .int (nI k))]) hx hb dX6_groups_44 hl (by decide) rfl (fun ls hl => ?_)
        refine lv_iconst (v := nI 0) hx hb dX6_groups_46 (by decide) ?_
        refine lv_istore (lv' := [(6, .int (nI 0)), (5, .int (-1)), (0, .ref (am 0)), (1, .int (nI i)), (2, .int (nI j)), (3, .ref qm), (4, .int (nI k))]) hx hb dX6_groups_47 hl (by decide) rfl (fun ls hl => ?_)
        refine lv_iconst (v := nI 0) hx hb dX6_groups_49 (by decide) ?_
        refine lv_istore (lv' := [(7, .int (nI 0)), (6, .int (nI 0)), (5, .int (-1)), (0, .ref (am 0)), (1, .int (nI i)), (2, .int (nI j)), (3, .ref qm), (4, .int (nI k))]) hx hb dX6_groups_50 hl (by decide) rfl (fun ls hl => ?_)
        have loop52 : ∀ (fuel : Nat) (mk : Int32) (q a : Nat) (ha : a ≤ (M.1 i).2.2) (hq : q ≤ a) (hmk : q = 0 ∨ ∃ w, w < 1000000 ∧ mk = nI w), (M.1 i).2.2 - a < fuel → ∀ ls : Array Slot, lv_has ls 8 [(0, .ref (am 0)), (1, .int (nI i)), (2, .int (nI j)), (3, .ref qm), (4, .int (nI k)), (5, .int mk), (6, .int (nI q)), (7, .int (nI a))] → W p l e ({ frames := 6, cells := 144, slots := 6928, locals := 151 } : Room) s m ([.ref (am 0), .int (nI i), .int (nI j)]).toArray below meth c H locs (9 * k) (slR 10 0 k) (MQ below (va_Qr (fun M1 : MS => M1 = thM M 0) (fun M1 _ t => PM dC dI am M1 t) (AM am)) ([.ref (am 0), .int (nI i), .int (nI j)]).toArray s 144 6928 (AM am)) (F0 m 52 ls []) := by
          intro fuel
          induction fuel with
          | zero => intro mk q a ha hq hmk hf9; exact absurd hf9 (Nat.not_lt_zero _)
          | succ fuel ih52 =>
            intro mk q a ha hq hmk hf9 ls hl
            refine lv_iload hx hb dX6_groups_52 (lv_at hl 7 rfl) ?_
            refine lv_aload_n hx hb dX6_groups_54 rfl (lv_at hl 0 rfl) ?_
            refine km_gsizes hx hb hts hin6 hown hX (hts (.fieldLink RX6 17 "OrderlatticeModel" "sizes" "[I") (tm 681 (by decide +kernel) rfl)) dX6_groups_55 ?_
            refine lv_iload_n hx hb dX6_groups_58 rfl (lv_at hl 1 rfl) ?_
            refine km_lz (v := (M.1 i).2.2) hx hb hX (by omega) rfl dX6_groups_59 ?_
            refine kn_icmp_ge (tgt := 115) hx hb (by omega) (by omega) dX6_groups_60 (by decide) (fun k_6 => ?_) (fun k_6 => ?_)
            · skip
              refine lv_iload hx hb dX6_groups_115 (lv_at hl 6 rfl) ?_
              refine kn_if_le (tgt := 167) hx hb (by omega) dX6_groups_117 (by decide) (fun k_7 => ?_) (fun k_7 => ?_)
              · skip
                refine lv_iinc (v := nI (k + 1)) (lv' := [(4, .int (nI (k + 1))), (0, .ref (am 0)), (1, .int (nI i)), (2, .int (nI j)), (3, .ref qm), (5, .int mk), (6, .int (nI q)), (7, .int (nI a))]) hx hb dX6_groups_167 hl (k := 4) rfl (nI_1 k) (by decide) rfl (fun ls hl => ?_)
                refine lv_goto (tgt := 36) hx hb dX6_groups_170 (by decide) ?_
                refine W.widen (k := 9 * (k + 1)) (n := slR 10 0 (k + 1)) (by omega) (by omega) ?_
                exact ih36  (k + 1) qm nm (by omega) (by omega) _ _ (by omega) hX hV _ (lv_sub hl [1, 2, 3, 4, 0] rfl)
              · skip
                obtain ⟨w, hw, rfl⟩ := hmk.resolve_left (by omega)
                refine km_newB (cB := cB) hx hb hts hinJ4 hown (hts (.classLink RX6 97 RJ4) (tm 775 (by decide +kernel) rfl)) (hts (.instantiable RJ4 4) (tm 374 (by decide +kernel) rfl)) (hts (.initialized RJ4) (tm 328 (by decide +kernel) rfl)) hX (by show _ ≤ 144; omega) (by show _ ≤ 6928; omega) dX6_groups_120 (fun z9 H hz9 hX hT hk9 => ?_)
                have hV := hk9 _ _ _ hV
                rw [← hz9] at hV
                clear hz9 hk9
                refine lv_dup hx hb dX6_groups_123 rfl ?_
                refine ktm_v (va_runI (As := []) (rest := [.ref z9]) ⟨hx, hb, hml, hown, hts⟩ (m_J4_init_da8c8 l dC dI cB z9 z9) (cwI 0 hts gX6_groups_J4_init_da8c8 rfl rfl rfl (hts (.initialized yJ4_init_da8c8.cls) (tm 328 (by decide +kernel) rfl)) (hts (.methodLink RX6 99 yJ4_init_da8c8) (tm 776 (by decide +kernel) rfl)) (hts (.instanceMethod yJ4_init_da8c8) (tm 414 (by decide +kernel) rfl)) rfl (by decide +kernel) ⟨Nat.le_of_ble_eq_true rfl, Nat.le_of_ble_eq_true rfl⟩) (hT.preS hK hX) rfl rfl hl.1 rfl (lv_room (Nat.le_of_ble_eq_true rfl)) dX6_groups_124 ⟨by show _ ≤ 144; omega, by show _ ≤ 6928; omega⟩) hK hX hT (fun b0 H locs _ hX hT hk9 => ?_)
                have hV := hk9 _ _ hV
                refine W.widen (k := 9 * k + 2) (n := slR 10 0 k + 4 + 2 * 16) (by omega) (by omega) ?_
                have hf : sb_Fit (fun _ => 0) := sb_fit0
                refine lv_aload_n hx hb dX6_groups_127 rfl (lv_at hl 3 rfl) ?_
                have hcb := cap_b (q := 0 + nm) (cp := 16) (Q := (10 * (k + 1))) (by omega) (by omega)
                refine ktm_app (sl := slR 10 0 k + 4) (n2 := 0 + nm) (10 * (k + 1)) (va_runV (As := [.ref qm]) (rest := []) ⟨hx, hb, hml, hown, hts⟩ (m_J4_append_15ec4 l dC dI cB z9 z9 b0 0 16 (fun _ => 0) qm nm (by omega) (by omega) (by omega) hf (by omega) (by omega)) (cwV 1 hts gX6_groups_J4_append_15ec4 rfl rfl rfl hdJ4_append_15ec4_1 ⟨Nat.le_of_ble_eq_true rfl, Nat.le_of_ble_eq_true rfl⟩) (hT.preVV hK hX hV (ci := 1) (r := (RJ4, TJ4, 4)) rfl 0 rfl) rfl rfl hl.1 rfl (lv_room (Nat.le_of_ble_eq_true rfl)) dX6_groups_128 ⟨by show _ ≤ 144; omega, by show _ ≤ 6928; have := gm_pot (0 + nm) 16; omega⟩) hK hX hT (by omega) (by omega) (fun b_8 c_8 f_8 H locs hX hT hk9 hf _ _ _ => ?_)
                have hV := hk9 _ _ hV
                refine lv_aload_n hx hb dX6_groups_131 rfl (lv_at hl 3 rfl) ?_
                refine kx_cr (v := bI (decide (nm = 0))) (va_runV (As := []) (rest := [.ref z9]) ⟨hx, hb, hml, hown, hts⟩ (m_J0_isEmpty_aae02 l dC dI cB z9 [(z9, eSB b_8 (0 + nm)), (b_8, eBy cB c_8 f_8)] qm nm (by omega)) (cwV 0 hts gX6_groups_J0_isEmpty_aae02 rfl rfl rfl hdJ0_isEmpty_aae02_0 ⟨Nat.le_of_ble_eq_true rfl, Nat.le_of_ble_eq_true rfl⟩) (hT.preQ hK hX hV) rfl rfl hl.1 rfl (lv_room (Nat.le_of_ble_eq_true rfl)) dX6_groups_132 ⟨by show _ ≤ 144; omega, by show _ ≤ 6928; omega⟩) (fun _ h => h) ?_
                refine kb_if_eq (tgt := 143) hx hb dX6_groups_135 (by decide) (fun k_9 => ?_) (fun k_9 => ?_)
                · skip
                  obtain ⟨ac10, hr10, hVc⟩ := CM.at hCM hX (A := (zB z9)) (c := (104, " ", 1)) (by decide) (fun q hq => Or.inr (Nat.le_trans hT.2.2.1 hq))
                  replace hVc : SV (zB z9) ac10 1 s H := hVc
                  refine va_ldcS hx hb hown hr10 dX6_groups_143 ?_
                  have hcb := cap_b (q := 0 + nm + 1) (cp := c_8) (Q := (10 * (k + 1))) (by omega) (by omega)
                  refine ktm_app (sl := slR 10 0 k + 4) (n2 := 0 + nm + 1) (10 * (k + 1)) (va_runV (As := [.ref ac10]) (rest := []) ⟨hx, hb, hml, hown, hts⟩ (m_J4_append_15ec4 l dC dI cB z9 z9 b_8 (0 + nm) c_8 f_8 ac10 1 (by omega) (by omega) (by omega) hf (by omega) (by omega)) (cwV 1 hts gX6_groups_J4_append_15ec4 rfl rfl rfl hdJ4_append_15ec4_1 ⟨Nat.le_of_ble_eq_true rfl, Nat.le_of_ble_eq_true rfl⟩) (hT.preVV hK hX hVc (ci := 1) (r := (RJ4, TJ4, 4)) rfl 0 rfl) rfl rfl hl.1 rfl (lv_room (Nat.le_of_ble_eq_true rfl)) dX6_groups_145 ⟨by show _ ≤ 144; omega, by show _ ≤ 6928; have := gm_pot (0 + nm + 1) c_8; omega⟩) hK hX hT (by omega) (by omega) (fun b_11 c_11 f_11 H locs hX hT hk9 hf _ _ _ => ?_)
                  have hV := hk9 _ _ hV
                  clear hVc
                  refine lv_iload hx hb dX6_groups_148 (lv_at hl 5 rfl) ?_
                  have hd1 := dg6 (v := w) (by omega)
                  have hcb := cap_b (q := 0 + nm + 1 + sb_dg w) (cp := c_11) (Q := (10 * (k + 1))) (by omega) (by omega)
                  refine ktm_app (sl := slR 10 0 k + 4) (n2 := 0 + nm + 1 + sb_dg w) (10 * (k + 1)) (va_runV (As := [.int (nI w)]) (rest := []) ⟨hx, hb, hml, hown, hts⟩ (m_J4_append_bf812 l dC dI cB z9 z9 b_11 (0 + nm + 1) c_11 f_11 (by omega) (by omega) hf w (by omega) (by omega)) (cwV 1 hts gX6_groups_J4_append_bf812 rfl rfl rfl hdJ4_append_bf812_1 ⟨Nat.le_of_ble_eq_true rfl, Nat.le_of_ble_eq_true rfl⟩) (hT.preV hK hX (ci := 1) (r := (RJ4, TJ4, 4)) rfl 0 rfl) rfl rfl hl.1 rfl (lv_room (Nat.le_of_ble_eq_true rfl)) dX6_groups_150 ⟨by show _ ≤ 144; omega, by show _ ≤ 6928; have := gm_pot (0 + nm + 1 + sb_dg w) c_11; omega⟩) hK hX hT (by omega) (by omega) (fun b_12 c_12 f_12 H locs hX hT hk9 hf _ _ _ => ?_)
                  have hV := hk9 _ _ hV
                  obtain ⟨ac13, hr13, hVc⟩ := CM.at hCM hX (A := (zB z9)) (c := (131, ":", 1)) (by decide) (fun q hq => Or.inr (Nat.le_trans hT.2.2.1 hq))
                  replace hVc : SV (zB z9) ac13 1 s H := hVc
                  refine va_ldcS hx hb hown hr13 dX6_groups_153 ?_
                  have hcb := cap_b (q := 0 + nm + 1 + sb_dg w + 1) (cp := c_12) (Q := (10 * (k + 1))) (by omega) (by omega)
                  refine ktm_app (sl := slR 10 0 k + 4) (n2 := 0 + nm + 1 + sb_dg w + 1) (10 * (k + 1)) (va_runV (As := [.ref ac13]) (rest := []) ⟨hx, hb, hml, hown, hts⟩ (m_J4_append_15ec4 l dC dI cB z9 z9 b_12 (0 + nm + 1 + sb_dg w) c_12 f_12 ac13 1 (by omega) (by omega) (by omega) hf (by omega) (by omega)) (cwV 1 hts gX6_groups_J4_append_15ec4 rfl rfl rfl hdJ4_append_15ec4_1 ⟨Nat.le_of_ble_eq_true rfl, Nat.le_of_ble_eq_true rfl⟩) (hT.preVV hK hX hVc (ci := 1) (r := (RJ4, TJ4, 4)) rfl 0 rfl) rfl rfl hl.1 rfl (lv_room (Nat.le_of_ble_eq_true rfl)) dX6_groups_155 ⟨by show _ ≤ 144; omega, by show _ ≤ 6928; have := gm_pot (0 + nm + 1 + sb_dg w + 1) c_12; omega⟩) hK hX hT (by omega) (by omega) (fun b_14 c_14 f_14 H locs hX hT hk9 hf _ _ _ => ?_)
                  have hV := hk9 _ _ hV
                  clear hVc
                  refine lv_iload hx hb dX6_groups_158 (lv_at hl 6 rfl) ?_
                  have hd2 := dg2 (v := q) (by omega)
                  have hcb := cap_b (q := 0 + nm + 1 + sb_dg w + 1 + sb_dg q) (cp := c_14) (Q := (10 * (k + 1))) (by omega) (by omega)
                  refine ktm_app (sl := slR 10 0 k + 4) (n2 := 0 + nm + 1 + sb_dg w + 1 + sb_dg q) (10 * (k + 1)) (va_runV (As := [.int (nI q)]) (rest := []) ⟨hx, hb, hml, hown, hts⟩ (m_J4_append_bf812 l dC dI cB z9 z9 b_14 (0 + nm + 1 + sb_dg w + 1) c_14 f_14 (by omega) (by omega) hf q (by omega) (by omega)) (cwV 1 hts gX6_groups_J4_append_bf812 rfl rfl rfl hdJ4_append_bf812_1 ⟨Nat.le_of_ble_eq_true rfl, Nat.le_of_ble_eq_true rfl⟩) (hT.preV hK hX (ci := 1) (r := (RJ4, TJ4, 4)) rfl 0 rfl) rfl rfl hl.1 rfl (lv_room (Nat.le_of_ble_eq_true rfl)) dX6_groups_160 ⟨by show _ ≤ 144; omega, by show _ ≤ 6928; have := gm_pot (0 + nm + 1 + sb_dg w + 1 + sb_dg q) c_14; omega⟩) hK hX hT (by omega) (by omega) (fun b_15 c_15 f_15 H locs hX hT hk9 hf _ _ _ => ?_)
                  have hV := hk9 _ _ hV
                  refine ktm_str hts hinJ0 (va_runV (As := []) (rest := []) ⟨hx, hb, hml, hown, hts⟩ (s_J4_toString_0e30d l dC dI cB z9 z9 b_15 (0 + nm + 1 + sb_dg w + 1 + sb_dg q) c_15 f_15 (by omega) (by omega) hf) (cwV 0 hts gX6_groups_J4_toString_0e30d rfl rfl rfl hdJ4_toString_0e30d_0 ⟨Nat.le_of_ble_eq_true rfl, Nat.le_of_ble_eq_true rfl⟩) (hT.preV hK hX (ci := 1) (r := (RJ4, TJ4, 4)) rfl 0 rfl) rfl rfl hl.1 rfl (lv_room (Nat.le_of_ble_eq_true rfl)) dX6_groups_163 ⟨by show _ ≤ 144; omega, by show _ ≤ 6928; omega⟩) hK hX hT (fun q_16 H locs hX hV => ?_)
                  refine lv_astore_n (lv' := [(3, .ref q_16), (0, .ref (am 0)), (1, .int (nI i)), (2, .int (nI j)), (4, .int (nI k)), (5, .int (nI w)), (6, .int (nI q)), (7, .int (nI a))]) hx hb dX6_groups_166 rfl hl (by decide) rfl (fun ls hl => ?_)
                  refine lv_iinc (v := nI (k + 1)) (lv' := [(4, .int (nI (k + 1))), (3, .ref q_16), (0, .ref (am 0)), (1, .int (nI i)), (2, .int (nI j)), (5, .int (nI w)), (6, .int (nI q)), (7, .int (nI a))]) hx hb dX6_groups_167 hl (k := 4) rfl (nI_1 k) (by decide) rfl (fun ls hl => ?_)
                  refine lv_goto (tgt := 36) hx hb dX6_groups_170 (by decide) ?_
                  refine W.widen (k := 9 * (k + 1)) (n := slR 10 0 (k + 1)) (by omega) (by omega) ?_
                  exact ih36  (k + 1) q_16 (0 + nm + 1 + sb_dg w + 1 + sb_dg q) (by omega) (by omega) _ _ (by omega) hX hV _ (lv_sub hl [2, 3, 4, 1, 0] rfl)
                · skip
                  obtain ⟨ac17, hr17, hVc⟩ := CM.at hCM hX (A := (zB z9)) (c := (95, "", 0)) (by decide) (fun q hq => Or.inr (Nat.le_trans hT.2.2.1 hq))
                  replace hVc : SV (zB z9) ac17 0 s H := hVc
                  refine va_ldcS hx hb hown hr17 dX6_groups_138 ?_
                  refine lv_goto (tgt := 145) hx hb dX6_groups_140 (by decide) ?_
                  have hcb := cap_b (q := 0 + nm + 0) (cp := c_8) (Q := (10 * (k + 1))) (by omega) (by omega)
                  refine ktm_app (sl := slR 10 0 k + 4) (n2 := 0 + nm + 0) (10 * (k + 1)) (va_runV (As := [.ref ac17]) (rest := []) ⟨hx, hb, hml, hown, hts⟩ (m_J4_append_15ec4 l dC dI cB z9 z9 b_8 (0 + nm) c_8 f_8 ac17 0 (by omega) (by omega) (by omega) hf (by omega) (by omega)) (cwV 1 hts gX6_groups_J4_append_15ec4 rfl rfl rfl hdJ4_append_15ec4_1 ⟨Nat.le_of_ble_eq_true rfl, Nat.le_of_ble_eq_true rfl⟩) (hT.preVV hK hX hVc (ci := 1) (r := (RJ4, TJ4, 4)) rfl 0 rfl) rfl rfl hl.1 rfl (lv_room (Nat.le_of_ble_eq_true rfl)) dX6_groups_145 ⟨by show _ ≤ 144; omega, by show _ ≤ 6928; have := gm_pot (0 + nm + 0) c_8; omega⟩) hK hX hT (by omega) (by omega) (fun b_18 c_18 f_18 H locs hX hT hk9 hf _ _ _ => ?_)
                  have hV := hk9 _ _ hV
                  clear hVc
                  refine lv_iload hx hb dX6_groups_148 (lv_at hl 5 rfl) ?_
                  have hd1 := dg6 (v := w) (by omega)
                  have hcb := cap_b (q := 0 + nm + 0 + sb_dg w) (cp := c_18) (Q := (10 * (k + 1))) (by omega) (by omega)
                  refine ktm_app (sl := slR 10 0 k + 4) (n2 := 0 + nm + 0 + sb_dg w) (10 * (k + 1)) (va_runV (As := [.int (nI w)]) (rest := []) ⟨hx, hb, hml, hown, hts⟩ (m_J4_append_bf812 l dC dI cB z9 z9 b_18 (0 + nm + 0) c_18 f_18 (by omega) (by omega) hf w (by omega) (by omega)) (cwV 1 hts gX6_groups_J4_append_bf812 rfl rfl rfl hdJ4_append_bf812_1 ⟨Nat.le_of_ble_eq_true rfl, Nat.le_of_ble_eq_true rfl⟩) (hT.preV hK hX (ci := 1) (r := (RJ4, TJ4, 4)) rfl 0 rfl) rfl rfl hl.1 rfl (lv_room (Nat.le_of_ble_eq_true rfl)) dX6_groups_150 ⟨by show _ ≤ 144; omega, by show _ ≤ 6928; have := gm_pot (0 + nm + 0 + sb_dg w) c_18; omega⟩) hK hX hT (by omega) (by omega) (fun b_19 c_19 f_19 H locs hX hT hk9 hf _ _ _ => ?_)
                  have hV := hk9 _ _ hV
                  obtain ⟨ac20, hr20, hVc⟩ := CM.at hCM hX (A := (zB z9)) (c := (131, ":", 1)) (by decide) (fun q hq => Or.inr (Nat.le_trans hT.2.2.1 hq))
                  replace hVc : SV (zB z9) ac20 1 s H := hVc
                  refine va_ldcS hx hb hown hr20 dX6_groups_153 ?_
                  have hcb := cap_b (q := 0 + nm + 0 + sb_dg w + 1) (cp := c_19) (Q := (10 * (k + 1))) (by omega) (by omega)
                  refine ktm_app (sl := slR 10 0 k + 4) (n2 := 0 + nm + 0 + sb_dg w + 1) (10 * (k + 1)) (va_runV (As := [.ref ac20]) (rest := []) ⟨hx, hb, hml, hown, hts⟩ (m_J4_append_15ec4 l dC dI cB z9 z9 b_19 (0 + nm + 0 + sb_dg w) c_19 f_19 ac20 1 (by omega) (by omega) (by omega) hf (by omega) (by omega)) (cwV 1 hts gX6_groups_J4_append_15ec4 rfl rfl rfl hdJ4_append_15ec4_1 ⟨Nat.le_of_ble_eq_true rfl, Nat.le_of_ble_eq_true rfl⟩) (hT.preVV hK hX hVc (ci := 1) (r := (RJ4, TJ4, 4)) rfl 0 rfl) rfl rfl hl.1 rfl (lv_room (Nat.le_of_ble_eq_true rfl)) dX6_groups_155 ⟨by show _ ≤ 144; omega, by show _ ≤ 6928; have := gm_pot (0 + nm + 0 + sb_dg w + 1) c_19; omega⟩) hK hX hT (by omega) (by omega) (fun b_21 c_21 f_21 H locs hX hT hk9 hf _ _ _ => ?_)
                  have hV := hk9 _ _ hV
                  clear hVc
                  refine lv_iload hx hb dX6_groups_158 (lv_at hl 6 rfl) ?_
                  have hd2 := dg2 (v := q) (by omega)
                  have hcb := cap_b (q := 0 + nm + 0 + sb_dg w + 1 + sb_dg q) (cp := c_21) (Q := (10 * (k + 1))) (by omega) (by omega)
                  refine ktm_app (sl := slR 10 0 k + 4) (n2 := 0 + nm + 0 + sb_dg w + 1 + sb_dg q) (10 * (k + 1)) (va_runV (As := [.int (nI q)]) (rest := []) ⟨hx, hb, hml, hown, hts⟩ (m_J4_append_bf812 l dC dI cB z9 z9 b_21 (0 + nm + 0 + sb_dg w + 1) c_21 f_21 (by omega) (by omega) hf q (by omega) (by omega)) (cwV 1 hts gX6_groups_J4_append_bf812 rfl rfl rfl hdJ4_append_bf812_1 ⟨Nat.le_of_ble_eq_true rfl, Nat.le_of_ble_eq_true rfl⟩) (hT.preV hK hX (ci := 1) (r := (RJ4, TJ4, 4)) rfl 0 rfl) rfl rfl hl.1 rfl (lv_room (Nat.le_of_ble_eq_true rfl)) dX6_groups_160 ⟨by show _ ≤ 144; omega, by show _ ≤ 6928; have := gm_pot (0 + nm + 0 + sb_dg w + 1 + sb_dg q) c_21; omega⟩) hK hX hT (by omega) (by omega) (fun b_22 c_22 f_22 H locs hX hT hk9 hf _ _ _ => ?_)
                  have hV := hk9 _ _ hV
                  refine ktm_str hts hinJ0 (va_runV (As := []) (rest := []) ⟨hx, hb, hml, hown, hts⟩ (s_J4_toString_0e30d l dC dI cB z9 z9 b_22 (0 + nm + 0 + sb_dg w + 1 + sb_dg q) c_22 f_22 (by omega) (by omega) hf) (cwV 0 hts gX6_groups_J4_toString_0e30d rfl rfl rfl hdJ4_toString_0e30d_0 ⟨Nat.le_of_ble_eq_true rfl, Nat.le_of_ble_eq_true rfl⟩) (hT.preV hK hX (ci := 1) (r := (RJ4, TJ4, 4)) rfl 0 rfl) rfl rfl hl.1 rfl (lv_room (Nat.le_of_ble_eq_true rfl)) dX6_groups_163 ⟨by show _ ≤ 144; omega, by show _ ≤ 6928; omega⟩) hK hX hT (fun q_23 H locs hX hV => ?_)
                  refine lv_astore_n (lv' := [(3, .ref q_23), (0, .ref (am 0)), (1, .int (nI i)), (2, .int (nI j)), (4, .int (nI k)), (5, .int (nI w)), (6, .int (nI q)), (7, .int (nI a))]) hx hb dX6_groups_166 rfl hl (by decide) rfl (fun ls hl => ?_)
                  refine lv_iinc (v := nI (k + 1)) (lv' := [(4, .int (nI (k + 1))), (3, .ref q_23), (0, .ref (am 0)), (1, .int (nI i)), (2, .int (nI j)), (5, .int (nI w)), (6, .int (nI q)), (7, .int (nI a))]) hx hb dX6_groups_167 hl (k := 4) rfl (nI_1 k) (by decide) rfl (fun ls hl => ?_)
                  refine lv_goto (tgt := 36) hx hb dX6_groups_170 (by decide) ?_
                  refine W.widen (k := 9 * (k + 1)) (n := slR 10 0 (k + 1)) (by omega) (by omega) ?_
                  exact ih36  (k + 1) q_23 (0 + nm + 0 + sb_dg w + 1 + sb_dg q) (by omega) (by omega) _ _ (by omega) hX hV _ (lv_sub hl [2, 3, 4, 1, 0] rfl)
            · skip
              have hv9 := (hI.1 i (by omega)).2 a (by omega)
              have hr9 := rankC_le (cM M j) ((M.1 i).1 a)
              refine lv_aload_n hx hb dX6_groups_63 rfl (lv_at hl 0 rfl) ?_
              refine lv_iload_n hx hb dX6_groups_64 rfl (lv_at hl 2 rfl) ?_
              refine lv_aload_n hx hb dX6_groups_65 rfl (lv_at hl 0 rfl) ?_
              refine km_gvalues hx hb hts hin6 hown hX (hts (.fieldLink RX6 11 "OrderlatticeModel" "values" "[[I") (tm 710 (by decide +kernel) rfl)) dX6_groups_66 ?_
              refine lv_iload_n hx hb dX6_groups_69 rfl (lv_at hl 1 rfl) ?_
              refine km_av hx hb hX (by omega) dX6_groups_70 ?_
              refine lv_iload hx hb dX6_groups_71 (lv_at hl 7 rfl) ?_
              refine km_lv (v := ((M.1 i).1) a) hx hb hX (by omega) (by omega) rfl dX6_groups_73 ?_
              refine kx_cr (v := nI (rankC (cM M j) (((M.1 i).1) a))) (va_runV (As := [.int (nI j), .int (nI (((M.1 i).1) a))]) (rest := []) ⟨hx, hb, hml, hown, hts⟩ (m_X6_rankNow l dC dI am (mN M (0, M.2.2.2.1, M.2.2.2.2.1, M.2.2.2.2.2)) j (((M.1 i).1) a) (by omega) (hI.2 j (by omega)) (by omega)) (cwV 2 hts gX6_groups_X6_rankNow rfl rfl rfl hdX6_rankNow_2 ⟨Nat.le_of_ble_eq_true rfl, Nat.le_of_ble_eq_true rfl⟩) (hX.preObj) rfl rfl hl.1 rfl (lv_room (Nat.le_of_ble_eq_true rfl)) dX6_groups_74 ⟨by show _ ≤ 144; omega, by show _ ≤ 6928; omega⟩) (fun _ h => h) ?_
              refine lv_iload hx hb dX6_groups_77 (lv_at hl 4 rfl) ?_
              refine kn_icmp_eq (tgt := 85) hx hb (by omega) (by omega) dX6_groups_79 (by decide) (fun k_24 => ?_) (fun k_24 => ?_)
              · skip
                refine lv_iload hx hb dX6_groups_85 (lv_at hl 6 rfl) ?_
                refine kn_if_ne (tgt := 102) hx hb (by omega) dX6_groups_87 (by decide) (fun k_25 => ?_) (fun k_25 => ?_)
                · skip
                  refine lv_iload hx hb dX6_groups_102 (lv_at hl 5 rfl) ?_
                  refine lv_istore (lv' := [(5, .int mk), (0, .ref (am 0)), (1, .int (nI i)), (2, .int (nI j)), (3, .ref qm), (4, .int (nI k)), (6, .int (nI q)), (7, .int (nI a))]) hx hb dX6_groups_104 hl (by decide) rfl (fun ls hl => ?_)
                  refine lv_iinc (v := nI (q + 1)) (lv' := [(6, .int (nI (q + 1))), (5, .int mk), (0, .ref (am 0)), (1, .int (nI i)), (2, .int (nI j)), (3, .ref qm), (4, .int (nI k)), (7, .int (nI a))]) hx hb dX6_groups_106 hl (k := 6) rfl (nI_1 q) (by decide) rfl (fun ls hl => ?_)
                  refine lv_iinc (v := nI (a + 1)) (lv' := [(7, .int (nI (a + 1))), (6, .int (nI (q + 1))), (5, .int mk), (0, .ref (am 0)), (1, .int (nI i)), (2, .int (nI j)), (3, .ref qm), (4, .int (nI k))]) hx hb dX6_groups_109 hl (k := 7) rfl (nI_1 a) (by decide) rfl (fun ls hl => ?_)
                  refine lv_goto (tgt := 52) hx hb dX6_groups_112 (by decide) ?_
                  exact ih52  mk (q + 1) (a + 1) (by omega) (by omega) (Or.inr (hmk.resolve_left k_25)) (by omega) _ (lv_sub hl [3, 4, 5, 6, 7, 2, 1, 0] rfl)
                · skip
                  refine lv_aload_n hx hb dX6_groups_90 rfl (lv_at hl 0 rfl) ?_
                  refine km_gmarks hx hb hts hin6 hown hX (hts (.fieldLink RX6 14 "OrderlatticeModel" "marks" "[[I") (tm 711 (by decide +kernel) rfl)) dX6_groups_91 ?_
                  refine lv_iload_n hx hb dX6_groups_94 rfl (lv_at hl 1 rfl) ?_
                  refine km_am hx hb hX (by omega) dX6_groups_95 ?_
                  refine lv_iload hx hb dX6_groups_96 (lv_at hl 7 rfl) ?_
                  refine km_lm (v := ((M.1 i).2.1) a) hx hb hX (by omega) (by omega) rfl dX6_groups_98 ?_
                  refine lv_goto (tgt := 104) hx hb dX6_groups_99 (by decide) ?_
                  refine lv_istore (lv' := [(5, .int (nI (((M.1 i).2.1) a))), (0, .ref (am 0)), (1, .int (nI i)), (2, .int (nI j)), (3, .ref qm), (4, .int (nI k)), (6, .int (nI q)), (7, .int (nI a))]) hx hb dX6_groups_104 hl (by decide) rfl (fun ls hl => ?_)
                  refine lv_iinc (v := nI (q + 1)) (lv' := [(6, .int (nI (q + 1))), (5, .int (nI (((M.1 i).2.1) a))), (0, .ref (am 0)), (1, .int (nI i)), (2, .int (nI j)), (3, .ref qm), (4, .int (nI k)), (7, .int (nI a))]) hx hb dX6_groups_106 hl (k := 6) rfl (nI_1 q) (by decide) rfl (fun ls hl => ?_)
                  refine lv_iinc (v := nI (a + 1)) (lv' := [(7, .int (nI (a + 1))), (6, .int (nI (q + 1))), (5, .int (nI (((M.1 i).2.1) a))), (0, .ref (am 0)), (1, .int (nI i)), (2, .int (nI j)), (3, .ref qm), (4, .int (nI k))]) hx hb dX6_groups_109 hl (k := 7) rfl (nI_1 a) (by decide) rfl (fun ls hl => ?_)
                  refine lv_goto (tgt := 52) hx hb dX6_groups_112 (by decide) ?_
                  exact ih52  (nI (((M.1 i).2.1) a)) (q + 1) (a + 1) (by omega) (by omega) (Or.inr ⟨_, (hv9).2, rfl⟩) (by omega) _ (lv_sub hl [3, 4, 5, 6, 7, 2, 1, 0] rfl)
              · skip
                refine lv_goto (tgt := 109) hx hb dX6_groups_82 (by decide) ?_
                refine lv_iinc (v := nI (a + 1)) (lv' := [(7, .int (nI (a + 1))), (0, .ref (am 0)), (1, .int (nI i)), (2, .int (nI j)), (3, .ref qm), (4, .int (nI k)), (5, .int mk), (6, .int (nI q))]) hx hb dX6_groups_109 hl (k := 7) rfl (nI_1 a) (by decide) rfl (fun ls hl => ?_)
                refine lv_goto (tgt := 52) hx hb dX6_groups_112 (by decide) ?_
                exact ih52  mk q (a + 1) (by omega) (by omega) hmk (by omega) _ (lv_sub hl [1, 2, 3, 4, 5, 6, 7, 0] rfl)
        exact loop52 ((M.1 i).2.2 + 1) (-1) 0 0 (by omega) (by omega) (Or.inl rfl) (by omega) _ (lv_sub hl [3, 4, 5, 6, 7, 2, 1, 0] rfl)
  refine W.widen (k := 9 * 0) (n := slR 10 0 0) (by omega) (by omega) ?_
  exact loop36 (16 + 1) 0 ac4 0 (by omega) (by omega) _ _ (by omega) hX hV _ (lv_sub hl [2, 3, 4, 1, 0] rfl)
set_option maxHeartbeats 4000000 in
set_option maxRecDepth 100000 in
theorem m_X6_ranks_f (l : Launch) (dC : Nat → ClassId) (dI : Nat → Nat → Nat) (cB : ClassId) (am : Nat → Nat) (M : MS) (i j : Nat) (hi : i < 3) (hj : j < 4) (hI : InvM M) : Met l yX6_ranks wsX6_ranks ({ frames := 6, cells := 112, slots := 2568, locals := 151 } : Room) (va_Pc [.ref (am 0), .int (nI i), .int (nI j), .int (bI false)] (PMT dC dI cB am M)) (va_Qr (fun M1 : MS => M1 = thM M 0) (fun M1 _ t => PM dC dI am M1 t) (AM am)) 112 2568 (AM am) := by
  refine Met.ofW (cc := cX6_ranks) (maxL := 8) (ret := (some (.object "java/lang/String"))) pl_X6 rfl ?_
  intro p e s m args below meth c s₁ B hml hv
  obtain ⟨rfl, hPM⟩ := hv
  have hx := B.exec
  have hb := B.bytes
  have hr := B.returns
  have hts := atoms_spec (ws := wsX6_ranks) B.pre
  have hown : s.vm.findClass RX6 = some m.cls := findClass_of_methodNamed B.named
  have hlocks := B.notSynchronized
  have hin6 : ∀ w ∈ u_ws RX6 TX6 10, w ∈ wsX6_ranks := tu 1331 (by decide +kernel) rfl
  have hinJ4 : ∀ w ∈ u_ws RJ4 TJ4 4, w ∈ wsX6_ranks := tu 1326 (by decide +kernel) rfl
  have hinJ0 : ∀ w ∈ u_ws RJ0 TJ0 4, w ∈ wsX6_ranks := tu 1327 (by decide +kernel) rfl
  have hK := KT.of hPM
  have hCM := hPM.2.2.2
  have hX := WM.ofY hPM.1
  have hl := lv_entry ([.ref (am 0), .int (nI i), .int (nI j), .int (bI false)]) (n := 8) (Nat.le_of_ble_eq_true rfl)
  rw [lg_entry_eq]
  generalize (lg_sl ([.ref (am 0), .int (nI i), .int (nI j), .int (bI false)]) ++ List.replicate (8 - (lg_sl ([.ref (am 0), .int (nI i), .int (nI j), .int (bI false)])).length) Slot.unset).toArray = ls at hl ⊢
  have hl : lv_has ls 8 [(0, .ref (am 0)), (1, .int (nI i)), (2, .int (nI j)), (3, .int (bI false))] := hl
  show W p l e ({ frames := 6, cells := 112, slots := 2568, locals := 151 } : Room) s m ([.ref (am 0), .int (nI i), .int (nI j), .int (bI false)]).toArray below meth c s.heap [] 0 0 (MQ below (va_Qr (fun M1 : MS => M1 = thM M 0) (fun M1 _ t => PM dC dI am M1 t) (AM am)) ([.ref (am 0), .int (nI i), .int (nI j), .int (bI false)]).toArray s 112 2568 (AM am)) (F0 m 0 ls [])
  have hn := (hI.1 i (by omega)).1
  refine lv_aload_n hx hb dX6_ranks_0 rfl (lv_at hl 0 rfl) ?_
  refine lv_iload_n hx hb dX6_ranks_1 rfl (lv_at hl 1 rfl) ?_
  refine kx_cr (v := bI false) (va_runS (As := [.int (nI i)]) (rest := [.ref (am 0)]) ⟨hx, hb, hml, hown, hts⟩ (m_X6_isNoRow l dC dI am M (nI i)) (va_cwS 1 hts gX6_ranks_X6_isNoRow rfl rfl rfl hdX6_isNoRow_1.2 ⟨Nat.le_of_ble_eq_true rfl, Nat.le_of_ble_eq_true rfl⟩) hX.preS rfl rfl hl.1 rfl (lv_room (Nat.le_of_ble_eq_true rfl)) dX6_ranks_2 ⟨by show _ ≤ 112; omega, by show _ ≤ 2568; omega⟩) (fun _ h => h.trans (isNo_ok (by omega) (by omega))) ?_
  refine kb_if_ne (tgt := 15) hx hb dX6_ranks_5 (by decide) (fun k_1 => absurd k_1 (by decide)) (fun k_1 => ?_)
  refine lv_iload_n hx hb dX6_ranks_8 rfl (lv_at hl 2 rfl) ?_
  refine kx_cr (v := bI false) (va_runS (As := [.int (nI j)]) (rest := [.ref (am 0)]) ⟨hx, hb, hml, hown, hts⟩ (m_X6_isNoOrder l dC dI am M (nI j)) (va_cwS 1 hts gX6_ranks_X6_isNoOrder rfl rfl rfl hdX6_isNoOrder_1.2 ⟨Nat.le_of_ble_eq_true rfl, Nat.le_of_ble_eq_true rfl⟩) hX.preS rfl rfl hl.1 rfl (lv_room (Nat.le_of_ble_eq_true rfl)) dX6_ranks_9 ⟨by show _ ≤ 112; omega, by show _ ≤ 2568; omega⟩) (fun _ h => h.trans (isNo_ok (by omega) (by omega))) ?_
  refine kb_if_eq (tgt := 19) hx hb dX6_ranks_12 (by decide) (fun k_2 => ?_) (fun k_2 => absurd k_2 (by decide))
  refine lv_iconst (v := nI 0) hx hb dX6_ranks_19 (by decide) ?_
  refine lv_iconst (v := nI 1) hx hb dX6_ranks_20 (by decide) ?_
  refine km_ci (va_runV (As := [.int (nI 0), .int (nI 1)]) (rest := []) ⟨hx, hb, hml, hown, hts⟩ (m_X6_start l dC dI am M false 1 (by omega)) (cwV 2 hts gX6_ranks_X6_start rfl rfl rfl hdX6_start_2 ⟨Nat.le_of_ble_eq_true rfl, Nat.le_of_ble_eq_true rfl⟩) (hX.preObj) rfl rfl hl.1 rfl (lv_room (Nat.le_of_ble_eq_true rfl)) dX6_ranks_21 ⟨by show _ ≤ 112; omega, by show _ ≤ 2568; omega⟩) hX (fun _ h => Or.inl h) (fun r_ S_ H locs hw hX => ?_)
  obtain ⟨rfl, rfl⟩ := hw
  refine kb_if_eq (tgt := 30) hx hb dX6_ranks_24 (by decide) (fun k_3 => ?_) (fun k_3 => absurd k_3 (by decide))
  obtain ⟨ac4, hr4, hV⟩ := CM.at hCM hX (A := (zB H.size)) (c := (95, "", 0)) (by decide) (fun q hq => Or.inr (Nat.le_trans hX.2.2.2.1 hq))
  replace hV : SV (zB H.size) ac4 0 s H := hV
  refine va_ldcS hx hb hown hr4 dX6_ranks_30 ?_
  refine lv_astore (lv' := [(4, .ref ac4), (0, .ref (am 0)), (1, .int (nI i)), (2, .int (nI j)), (3, .int (bI false))]) hx hb dX6_ranks_32 hl (by decide) rfl (fun ls hl => ?_)
  refine lv_iconst (v := nI 0) hx hb dX6_ranks_34 (by decide) ?_
  refine lv_istore (lv' := [(5, .int (nI 0)), (4, .ref ac4), (0, .ref (am 0)), (1, .int (nI i)), (2, .int (nI j)), (3, .int (bI false))]) hx hb dX6_ranks_35 hl (by decide) rfl (fun ls hl => ?_)
  have loop37 : ∀ (fuel : Nat) (k ct qm nm : Nat) (hk : k ≤ 1) (hc3 : ct ≤ 16 * k) (hnm : nm ≤ 3 * ct) (H : Heap) (locs : List Loc), 16 - k < fuel → WM dC dI am (mN M (0, M.2.2.2.1, M.2.2.2.2.1, M.2.2.2.2.2)) [] (AY am s.heap.size) s H locs → SV (zB H.size) qm nm s H → ∀ ls : Array Slot, lv_has ls 8 [(0, .ref (am 0)), (1, .int (nI i)), (2, .int (nI j)), (3, .int (bI false)), (4, .ref qm), (5, .int (nI k))] → W p l e ({ frames := 6, cells := 112, slots := 2568, locals := 151 } : Room) s m ([.ref (am 0), .int (nI i), .int (nI j), .int (bI false)]).toArray below meth c H locs (7 * ct) (slR 3 5 ct) (MQ below (va_Qr (fun M1 : MS => M1 = thM M 0) (fun M1 _ t => PM dC dI am M1 t) (AM am)) ([.ref (am 0), .int (nI i), .int (nI j), .int (bI false)]).toArray s 112 2568 (AM am)) (F0 m 37 ls []) := by
    intro fuel
    induction fuel with
    | zero => intro k ct qm nm hk hc3 hnm H locs hf9; exact absurd hf9 (Nat.not_lt_zero _)
    | succ fuel ih37 =>
      intro k ct qm nm hk hc3 hnm H locs hf9 hX hV ls hl
      refine lv_iload hx hb dX6_ranks_37 (lv_at hl 5 rfl) ?_
      refine lv_iload_n hx hb dX6_ranks_39 rfl (lv_at hl 3 rfl) ?_
      refine kb_if_eq (tgt := 48) hx hb dX6_ranks_40 (by decide) (fun k_5 => ?_) (fun k_5 => absurd k_5 (by decide))
      refine lv_iconst (v := nI 1) hx hb dX6_ranks_48 (by decide) ?_
      refine kn_icmp_ge (tgt := 145) hx hb (by omega) (by omega) dX6_ranks_49 (by decide) (fun k_6 => ?_) (fun k_6 => ?_)
      · skip
        refine lv_aload hx hb dX6_ranks_145 (lv_at hl 4 rfl) ?_
        have hct : ct ≤ 16 := by omega
        have hs7 : slR 3 5 ct ≤ 2568 := Nat.le_trans (slR_mono hct) (by decide)
        exact W.widen (k := 112) (n := 2568) (by omega) (by omega) (W.filt (fun locs1 hl1 => W.aret (v := .ref qm) hx hb hr (Or.inl ⟨_, rfl⟩) (Or.inr ⟨_, rfl⟩) (fun t9 ht9 hW9 => ⟨⟨(mN M (0, M.2.2.2.1, M.2.2.2.2.1, M.2.2.2.2.2)), _, rfl, rfl, hX.P ht9 hW9⟩, (hX.2.2.2.F ht9).Y⟩) (free_Y hX.2.2.2 hl1) dX6_ranks_147))
      · skip
        refine lv_iconst (v := nI 0) hx hb dX6_ranks_52 (by decide) ?_
        refine lv_istore (lv' := [(6, .int (nI 0)), (0, .ref (am 0)), (1, .int (nI i)), (2, .int (nI j)), (3, .int (bI false)), (4, .ref qm), (5, .int (nI k))]) hx hb dX6_ranks_53 hl (by decide) rfl (fun ls hl => ?_)
        have loop55 : ∀ (fuel : Nat) (a ct qm nm : Nat) (ha : a ≤ (M.1 i).2.2) (hc4 : ct ≤ a) (hnm : nm ≤ 3 * ct) (H : Heap) (locs : List Loc), (M.1 i).2.2 - a < fuel → WM dC dI am (mN M (0, M.2.2.2.1, M.2.2.2.2.1, M.2.2.2.2.2)) [] (AY am s.heap.size) s H locs → SV (zB H.size) qm nm s H → ∀ ls : Array Slot, lv_has ls 8 [(0, .ref (am 0)), (1, .int (nI i)), (2, .int (nI j)), (3, .int (bI false)), (4, .ref qm), (5, .int (nI k)), (6, .int (nI a))] → W p l e ({ frames := 6, cells := 112, slots := 2568, locals := 151 } : Room) s m ([.ref (am 0), .int (nI i), .int (nI j), .int (bI false)]).toArray below meth c H locs (7 * ct) (slR 3 5 ct) (MQ below (va_Qr (fun M1 : MS => M1 = thM M 0) (fun M1 _ t => PM dC dI am M1 t) (AM am)) ([.ref (am 0), .int (nI i), .int (nI j), .int (bI false)]).toArray s 112 2568 (AM am)) (F0 m 55 ls []) := by
          intro fuel
          induction fuel with
          | zero => intro a ct qm nm ha hc4 hnm H locs hf9; exact absurd hf9 (Nat.not_lt_zero _)
          | succ fuel ih55 =>
            intro a ct qm nm ha hc4 hnm H locs hf9 hX hV ls hl
            refine lv_iload hx hb dX6_ranks_55 (lv_at hl 6 rfl) ?_
            refine lv_aload_n hx hb dX6_ranks_57 rfl (lv_at hl 0 rfl) ?_
            refine km_gsizes hx hb hts hin6 hown hX (hts (.fieldLink RX6 17 "OrderlatticeModel" "sizes" "[I") (tm 681 (by decide +kernel) rfl)) dX6_ranks_58 ?_
            refine lv_iload_n hx hb dX6_ranks_61 rfl (lv_at hl 1 rfl) ?_
            refine km_lz (v := (M.1 i).2.2) hx hb hX (by omega) rfl dX6_ranks_62 ?_
            refine kn_icmp_ge (tgt := 139) hx hb (by omega) (by omega) dX6_ranks_63 (by decide) (fun k_7 => ?_) (fun k_7 => ?_)
            · skip
              refine lv_iinc (v := nI (k + 1)) (lv' := [(5, .int (nI (k + 1))), (0, .ref (am 0)), (1, .int (nI i)), (2, .int (nI j)), (3, .int (bI false)), (4, .ref qm), (6, .int (nI a))]) hx hb dX6_ranks_139 hl (k := 5) rfl (nI_1 k) (by decide) rfl (fun ls hl => ?_)
              refine lv_goto (tgt := 37) hx hb dX6_ranks_142 (by decide) ?_
              refine W.widen (k := 7 * ct) (n := slR 3 5 ct) (by omega) (by omega) ?_
              exact ih37  (k + 1) ct qm nm (by omega) (by omega) hnm _ _ (by omega) hX hV _ (lv_sub hl [1, 2, 3, 4, 5, 0] rfl)
            · skip
              have hv9 := (hI.1 i (by omega)).2 a (by omega)
              have hr9 := rankC_le (cM M j) ((M.1 i).1 a)
              have hct0 : ct ≤ 16 := by have := (hc4); omega
              have hs7 : slR 3 5 ct ≤ 2568 := Nat.le_trans (slR_mono hct0) (by decide)
              refine lv_aload_n hx hb dX6_ranks_66 rfl (lv_at hl 0 rfl) ?_
              refine lv_iload_n hx hb dX6_ranks_67 rfl (lv_at hl 2 rfl) ?_
              refine lv_aload_n hx hb dX6_ranks_68 rfl (lv_at hl 0 rfl) ?_
              refine km_gvalues hx hb hts hin6 hown hX (hts (.fieldLink RX6 11 "OrderlatticeModel" "values" "[[I") (tm 710 (by decide +kernel) rfl)) dX6_ranks_69 ?_
              refine lv_iload_n hx hb dX6_ranks_72 rfl (lv_at hl 1 rfl) ?_
              refine km_av hx hb hX (by omega) dX6_ranks_73 ?_
              refine lv_iload hx hb dX6_ranks_74 (lv_at hl 6 rfl) ?_
              refine km_lv (v := ((M.1 i).1) a) hx hb hX (by omega) (by omega) rfl dX6_ranks_76 ?_
              refine kx_cr (v := nI (rankC (cM M j) (((M.1 i).1) a))) (va_runV (As := [.int (nI j), .int (nI (((M.1 i).1) a))]) (rest := []) ⟨hx, hb, hml, hown, hts⟩ (m_X6_rankNow l dC dI am (mN M (0, M.2.2.2.1, M.2.2.2.2.1, M.2.2.2.2.2)) j (((M.1 i).1) a) (by omega) (hI.2 j (by omega)) (by omega)) (cwV 2 hts gX6_ranks_X6_rankNow rfl rfl rfl hdX6_rankNow_2 ⟨Nat.le_of_ble_eq_true rfl, Nat.le_of_ble_eq_true rfl⟩) (hX.preObj) rfl rfl hl.1 rfl (lv_room (Nat.le_of_ble_eq_true rfl)) dX6_ranks_77 ⟨by show _ ≤ 112; omega, by show _ ≤ 2568; omega⟩) (fun _ h => h) ?_
              refine lv_istore (lv' := [(7, .int (nI (rankC (cM M j) (((M.1 i).1) a)))), (0, .ref (am 0)), (1, .int (nI i)), (2, .int (nI j)), (3, .int (bI false)), (4, .ref qm), (5, .int (nI k)), (6, .int (nI a))]) hx hb dX6_ranks_80 hl (by decide) rfl (fun ls hl => ?_)
              refine lv_iload_n hx hb dX6_ranks_82 rfl (lv_at hl 4 rfl) ?_
              refine kb_if_eq (tgt := 93) hx hb dX6_ranks_83 (by decide) (fun k_8 => ?_) (fun k_8 => absurd k_8 (by decide))
              have hs8 := slR_s 3 5 ct
              have hs9 : slR 3 5 (ct + 1) ≤ 2568 := Nat.le_trans (slR_mono (show ct + 1 ≤ 16 by omega)) (by decide)
              refine km_newB (cB := cB) hx hb hts hinJ4 hown (hts (.classLink RX6 97 RJ4) (tm 775 (by decide +kernel) rfl)) (hts (.instantiable RJ4 4) (tm 374 (by decide +kernel) rfl)) (hts (.initialized RJ4) (tm 328 (by decide +kernel) rfl)) hX (by show _ ≤ 112; omega) (by show _ ≤ 2568; omega) dX6_ranks_93 (fun z9 H hz9 hX hT hk9 => ?_)
              have hV := hk9 _ _ _ hV
              rw [← hz9] at hV
              clear hz9 hk9
              refine lv_dup hx hb dX6_ranks_96 rfl ?_
              refine ktm_v (va_runI (As := []) (rest := [.ref z9]) ⟨hx, hb, hml, hown, hts⟩ (m_J4_init_da8c8 l dC dI cB z9 z9) (cwI 0 hts gX6_ranks_J4_init_da8c8 rfl rfl rfl (hts (.initialized yJ4_init_da8c8.cls) (tm 328 (by decide +kernel) rfl)) (hts (.methodLink RX6 99 yJ4_init_da8c8) (tm 776 (by decide +kernel) rfl)) (hts (.instanceMethod yJ4_init_da8c8) (tm 414 (by decide +kernel) rfl)) rfl (by decide +kernel) ⟨Nat.le_of_ble_eq_true rfl, Nat.le_of_ble_eq_true rfl⟩) (hT.preS hK hX) rfl rfl hl.1 rfl (lv_room (Nat.le_of_ble_eq_true rfl)) dX6_ranks_97 ⟨by show _ ≤ 112; omega, by show _ ≤ 2568; omega⟩) hK hX hT (fun b0 H locs _ hX hT hk9 => ?_)
              have hV := hk9 _ _ hV
              refine W.widen (k := 7 * ct + 2) (n := slR 3 5 ct + 4 + 2 * 16) (by omega) (by omega) ?_
              have hf : sb_Fit (fun _ => 0) := sb_fit0
              refine lv_aload hx hb dX6_ranks_100 (lv_at hl 5 rfl) ?_
              have hcb := cap_b (q := 0 + nm) (cp := 16) (Q := (3 * (ct + 1) + 5)) (by omega) (by omega)
              refine ktm_app (sl := slR 3 5 ct + 4) (n2 := 0 + nm) (3 * (ct + 1) + 5) (va_runV (As := [.ref qm]) (rest := []) ⟨hx, hb, hml, hown, hts⟩ (m_J4_append_15ec4 l dC dI cB z9 z9 b0 0 16 (fun _ => 0) qm nm (by omega) (by omega) (by omega) hf (by omega) (by omega)) (cwV 1 hts gX6_ranks_J4_append_15ec4 rfl rfl rfl hdJ4_append_15ec4_1 ⟨Nat.le_of_ble_eq_true rfl, Nat.le_of_ble_eq_true rfl⟩) (hT.preVV hK hX hV (ci := 1) (r := (RJ4, TJ4, 4)) rfl 0 rfl) rfl rfl hl.1 rfl (lv_room (Nat.le_of_ble_eq_true rfl)) dX6_ranks_102 ⟨by show _ ≤ 112; omega, by show _ ≤ 2568; have := gm_pot (0 + nm) 16; omega⟩) hK hX hT (by omega) (by omega) (fun b_9 c_9 f_9 H locs hX hT hk9 hf _ _ _ => ?_)
              have hV := hk9 _ _ hV
              refine lv_aload hx hb dX6_ranks_105 (lv_at hl 5 rfl) ?_
              refine kx_cr (v := bI (decide (nm = 0))) (va_runV (As := []) (rest := [.ref z9]) ⟨hx, hb, hml, hown, hts⟩ (m_J0_isEmpty_aae02 l dC dI cB z9 [(z9, eSB b_9 (0 + nm)), (b_9, eBy cB c_9 f_9)] qm nm (by omega)) (cwV 0 hts gX6_ranks_J0_isEmpty_aae02 rfl rfl rfl hdJ0_isEmpty_aae02_0 ⟨Nat.le_of_ble_eq_true rfl, Nat.le_of_ble_eq_true rfl⟩) (hT.preQ hK hX hV) rfl rfl hl.1 rfl (lv_room (Nat.le_of_ble_eq_true rfl)) dX6_ranks_107 ⟨by show _ ≤ 112; omega, by show _ ≤ 2568; omega⟩) (fun _ h => h) ?_
              refine kb_if_eq (tgt := 118) hx hb dX6_ranks_110 (by decide) (fun k_10 => ?_) (fun k_10 => ?_)
              · skip
                obtain ⟨ac11, hr11, hVc⟩ := CM.at hCM hX (A := (zB z9)) (c := (104, " ", 1)) (by decide) (fun q hq => Or.inr (Nat.le_trans hT.2.2.1 hq))
                replace hVc : SV (zB z9) ac11 1 s H := hVc
                refine va_ldcS hx hb hown hr11 dX6_ranks_118 ?_
                have hcb := cap_b (q := 0 + nm + 1) (cp := c_9) (Q := (3 * (ct + 1) + 5)) (by omega) (by omega)
                refine ktm_app (sl := slR 3 5 ct + 4) (n2 := 0 + nm + 1) (3 * (ct + 1) + 5) (va_runV (As := [.ref ac11]) (rest := []) ⟨hx, hb, hml, hown, hts⟩ (m_J4_append_15ec4 l dC dI cB z9 z9 b_9 (0 + nm) c_9 f_9 ac11 1 (by omega) (by omega) (by omega) hf (by omega) (by omega)) (cwV 1 hts gX6_ranks_J4_append_15ec4 rfl rfl rfl hdJ4_append_15ec4_1 ⟨Nat.le_of_ble_eq_true rfl, Nat.le_of_ble_eq_true rfl⟩) (hT.preVV hK hX hVc (ci := 1) (r := (RJ4, TJ4, 4)) rfl 0 rfl) rfl rfl hl.1 rfl (lv_room (Nat.le_of_ble_eq_true rfl)) dX6_ranks_120 ⟨by show _ ≤ 112; omega, by show _ ≤ 2568; have := gm_pot (0 + nm + 1) c_9; omega⟩) hK hX hT (by omega) (by omega) (fun b_12 c_12 f_12 H locs hX hT hk9 hf _ _ _ => ?_)
                have hV := hk9 _ _ hV
                clear hVc
                refine lv_iload hx hb dX6_ranks_123 (lv_at hl 0 rfl) ?_
                have hd1 := dg2 (v := rankC (cM M j) (((M.1 i).1) a)) (by omega)
                have hcb := cap_b (q := 0 + nm + 1 + sb_dg (rankC (cM M j) (((M.1 i).1) a))) (cp := c_12) (Q := (3 * (ct + 1) + 5)) (by omega) (by omega)
                refine ktm_app (sl := slR 3 5 ct + 4) (n2 := 0 + nm + 1 + sb_dg (rankC (cM M j) (((M.1 i).1) a))) (3 * (ct + 1) + 5) (va_runV (As := [.int (nI (rankC (cM M j) (((M.1 i).1) a)))]) (rest := []) ⟨hx, hb, hml, hown, hts⟩ (m_J4_append_bf812 l dC dI cB z9 z9 b_12 (0 + nm + 1) c_12 f_12 (by omega) (by omega) hf (rankC (cM M j) (((M.1 i).1) a)) (by omega) (by omega)) (cwV 1 hts gX6_ranks_J4_append_bf812 rfl rfl rfl hdJ4_append_bf812_1 ⟨Nat.le_of_ble_eq_true rfl, Nat.le_of_ble_eq_true rfl⟩) (hT.preV hK hX (ci := 1) (r := (RJ4, TJ4, 4)) rfl 0 rfl) rfl rfl hl.1 rfl (lv_room (Nat.le_of_ble_eq_true rfl)) dX6_ranks_125 ⟨by show _ ≤ 112; omega, by show _ ≤ 2568; have := gm_pot (0 + nm + 1 + sb_dg (rankC (cM M j) (((M.1 i).1) a))) c_12; omega⟩) hK hX hT (by omega) (by omega) (fun b_13 c_13 f_13 H locs hX hT hk9 hf _ _ _ => ?_)
                have hV := hk9 _ _ hV
                refine ktm_str hts hinJ0 (va_runV (As := []) (rest := []) ⟨hx, hb, hml, hown, hts⟩ (s_J4_toString_0e30d l dC dI cB z9 z9 b_13 (0 + nm + 1 + sb_dg (rankC (cM M j) (((M.1 i).1) a))) c_13 f_13 (by omega) (by omega) hf) (cwV 0 hts gX6_ranks_J4_toString_0e30d rfl rfl rfl hdJ4_toString_0e30d_0 ⟨Nat.le_of_ble_eq_true rfl, Nat.le_of_ble_eq_true rfl⟩) (hT.preV hK hX (ci := 1) (r := (RJ4, TJ4, 4)) rfl 0 rfl) rfl rfl hl.1 rfl (lv_room (Nat.le_of_ble_eq_true rfl)) dX6_ranks_128 ⟨by show _ ≤ 112; omega, by show _ ≤ 2568; omega⟩) hK hX hT (fun q_14 H locs hX hV => ?_)
                refine lv_astore (lv' := [(4, .ref q_14), (7, .int (nI (rankC (cM M j) (((M.1 i).1) a)))), (0, .ref (am 0)), (1, .int (nI i)), (2, .int (nI j)), (3, .int (bI false)), (5, .int (nI k)), (6, .int (nI a))]) hx hb dX6_ranks_131 hl (by decide) rfl (fun ls hl => ?_)
                refine lv_iinc (v := nI (a + 1)) (lv' := [(6, .int (nI (a + 1))), (4, .ref q_14), (7, .int (nI (rankC (cM M j) (((M.1 i).1) a)))), (0, .ref (am 0)), (1, .int (nI i)), (2, .int (nI j)), (3, .int (bI false)), (5, .int (nI k))]) hx hb dX6_ranks_133 hl (k := 7) rfl (nI_1 a) (by decide) rfl (fun ls hl => ?_)
                refine lv_goto (tgt := 55) hx hb dX6_ranks_136 (by decide) ?_
                refine W.widen (k := 7 * (ct + 1)) (n := slR 3 5 (ct + 1)) (by omega) (by omega) ?_
                exact ih55  (a + 1) (ct + 1) q_14 (0 + nm + 1 + sb_dg (rankC (cM M j) (((M.1 i).1) a))) (by omega) (by omega) (by omega) _ _ (by omega) hX hV _ (lv_sub hl [3, 4, 5, 6, 1, 7, 0] rfl)
              · skip
                obtain ⟨ac15, hr15, hVc⟩ := CM.at hCM hX (A := (zB z9)) (c := (95, "", 0)) (by decide) (fun q hq => Or.inr (Nat.le_trans hT.2.2.1 hq))
                replace hVc : SV (zB z9) ac15 0 s H := hVc
                refine va_ldcS hx hb hown hr15 dX6_ranks_113 ?_
                refine lv_goto (tgt := 120) hx hb dX6_ranks_115 (by decide) ?_
                have hcb := cap_b (q := 0 + nm + 0) (cp := c_9) (Q := (3 * (ct + 1) + 5)) (by omega) (by omega)
                refine ktm_app (sl := slR 3 5 ct + 4) (n2 := 0 + nm + 0) (3 * (ct + 1) + 5) (va_runV (As := [.ref ac15]) (rest := []) ⟨hx, hb, hml, hown, hts⟩ (m_J4_append_15ec4 l dC dI cB z9 z9 b_9 (0 + nm) c_9 f_9 ac15 0 (by omega) (by omega) (by omega) hf (by omega) (by omega)) (cwV 1 hts gX6_ranks_J4_append_15ec4 rfl rfl rfl hdJ4_append_15ec4_1 ⟨Nat.le_of_ble_eq_true rfl, Nat.le_of_ble_eq_true rfl⟩) (hT.preVV hK hX hVc (ci := 1) (r := (RJ4, TJ4, 4)) rfl 0 rfl) rfl rfl hl.1 rfl (lv_room (Nat.le_of_ble_eq_true rfl)) dX6_ranks_120 ⟨by show _ ≤ 112; omega, by show _ ≤ 2568; have := gm_pot (0 + nm + 0) c_9; omega⟩) hK hX hT (by omega) (by omega) (fun b_16 c_16 f_16 H locs hX hT hk9 hf _ _ _ => ?_)
                have hV := hk9 _ _ hV
                clear hVc
                refine lv_iload hx hb dX6_ranks_123 (lv_at hl 0 rfl) ?_
                have hd1 := dg2 (v := rankC (cM M j) (((M.1 i).1) a)) (by omega)
                have hcb := cap_b (q := 0 + nm + 0 + sb_dg (rankC (cM M j) (((M.1 i).1) a))) (cp := c_16) (Q := (3 * (ct + 1) + 5)) (by omega) (by omega)
                refine ktm_app (sl := slR 3 5 ct + 4) (n2 := 0 + nm + 0 + sb_dg (rankC (cM M j) (((M.1 i).1) a))) (3 * (ct + 1) + 5) (va_runV (As := [.int (nI (rankC (cM M j) (((M.1 i).1) a)))]) (rest := []) ⟨hx, hb, hml, hown, hts⟩ (m_J4_append_bf812 l dC dI cB z9 z9 b_16 (0 + nm + 0) c_16 f_16 (by omega) (by omega) hf (rankC (cM M j) (((M.1 i).1) a)) (by omega) (by omega)) (cwV 1 hts gX6_ranks_J4_append_bf812 rfl rfl rfl hdJ4_append_bf812_1 ⟨Nat.le_of_ble_eq_true rfl, Nat.le_of_ble_eq_true rfl⟩) (hT.preV hK hX (ci := 1) (r := (RJ4, TJ4, 4)) rfl 0 rfl) rfl rfl hl.1 rfl (lv_room (Nat.le_of_ble_eq_true rfl)) dX6_ranks_125 ⟨by show _ ≤ 112; omega, by show _ ≤ 2568; have := gm_pot (0 + nm + 0 + sb_dg (rankC (cM M j) (((M.1 i).1) a))) c_16; omega⟩) hK hX hT (by omega) (by omega) (fun b_17 c_17 f_17 H locs hX hT hk9 hf _ _ _ => ?_)
                have hV := hk9 _ _ hV
                refine ktm_str hts hinJ0 (va_runV (As := []) (rest := []) ⟨hx, hb, hml, hown, hts⟩ (s_J4_toString_0e30d l dC dI cB z9 z9 b_17 (0 + nm + 0 + sb_dg (rankC (cM M j) (((M.1 i).1) a))) c_17 f_17 (by omega) (by omega) hf) (cwV 0 hts gX6_ranks_J4_toString_0e30d rfl rfl rfl hdJ4_toString_0e30d_0 ⟨Nat.le_of_ble_eq_true rfl, Nat.le_of_ble_eq_true rfl⟩) (hT.preV hK hX (ci := 1) (r := (RJ4, TJ4, 4)) rfl 0 rfl) rfl rfl hl.1 rfl (lv_room (Nat.le_of_ble_eq_true rfl)) dX6_ranks_128 ⟨by show _ ≤ 112; omega, by show _ ≤ 2568; omega⟩) hK hX hT (fun q_18 H locs hX hV => ?_)
                refine lv_astore (lv' := [(4, .ref q_18), (7, .int (nI (rankC (cM M j) (((M.1 i).1) a)))), (0, .ref (am 0)), (1, .int (nI i)), (2, .int (nI j)), (3, .int (bI false)), (5, .int (nI k)), (6, .int (nI a))]) hx hb dX6_ranks_131 hl (by decide) rfl (fun ls hl => ?_)
                refine lv_iinc (v := nI (a + 1)) (lv' := [(6, .int (nI (a + 1))), (4, .ref q_18), (7, .int (nI (rankC (cM M j) (((M.1 i).1) a)))), (0, .ref (am 0)), (1, .int (nI i)), (2, .int (nI j)), (3, .int (bI false)), (5, .int (nI k))]) hx hb dX6_ranks_133 hl (k := 7) rfl (nI_1 a) (by decide) rfl (fun ls hl => ?_)
                refine lv_goto (tgt := 55) hx hb dX6_ranks_136 (by decide) ?_
                refine W.widen (k := 7 * (ct + 1)) (n := slR 3 5 (ct + 1)) (by omega) (by omega) ?_
                exact ih55  (a + 1) (ct + 1) q_18 (0 + nm + 0 + sb_dg (rankC (cM M j) (((M.1 i).1) a))) (by omega) (by omega) (by omega) _ _ (by omega) hX hV _ (lv_sub hl [3, 4, 5, 6, 1, 7, 0] rfl)
        refine W.widen (k := 7 * ct) (n := slR 3 5 ct) (by omega) (by omega) ?_
        exact loop55 ((M.1 i).2.2 + 1) 0 ct qm nm (by omega) (by omega) hnm _ _ (by omega) hX hV _ (lv_sub hl [1, 2, 3, 4, 5, 6, 0] rfl)
  refine W.widen (k := 7 * 0) (n := slR 3 5 0) (by omega) (by omega) ?_
  exact loop37 (16 + 1) 0 0 ac4 0 (by omega) (Nat.zero_le _) (by omega) _ _ (by omega) hX hV _ (lv_sub hl [2, 3, 4, 5, 1, 0] rfl)
set_option maxHeartbeats 4000000 in
set_option maxRecDepth 100000 in
theorem m_X6_ranks_t (l : Launch) (dC : Nat → ClassId) (dI : Nat → Nat → Nat) (cB : ClassId) (am : Nat → Nat) (M : MS) (i j : Nat) (hi : i < 3) (hj : j < 4) (hI : InvM M) : Met l yX6_ranks wsX6_ranks ({ frames := 6, cells := 112, slots := 2568, locals := 151 } : Room) (va_Pc [.ref (am 0), .int (nI i), .int (nI j), .int (bI true)] (PMT dC dI cB am M)) (va_Qr (fun M1 : MS => M1 = thM M 0) (fun M1 _ t => PM dC dI am M1 t) (AM am)) 112 2568 (AM am) := by
  refine Met.ofW (cc := cX6_ranks) (maxL := 8) (ret := (some (.object "java/lang/String"))) pl_X6 rfl ?_
  intro p e s m args below meth c s₁ B hml hv
  obtain ⟨rfl, hPM⟩ := hv
  have hx := B.exec
  have hb := B.bytes
  have hr := B.returns
  have hts := atoms_spec (ws := wsX6_ranks) B.pre
  have hown : s.vm.findClass RX6 = some m.cls := findClass_of_methodNamed B.named
  have hlocks := B.notSynchronized
  have hin6 : ∀ w ∈ u_ws RX6 TX6 10, w ∈ wsX6_ranks := tu 1331 (by decide +kernel) rfl
  have hinJ4 : ∀ w ∈ u_ws RJ4 TJ4 4, w ∈ wsX6_ranks := tu 1326 (by decide +kernel) rfl
  have hinJ0 : ∀ w ∈ u_ws RJ0 TJ0 4, w ∈ wsX6_ranks := tu 1327 (by decide +kernel) rfl
  have hK := KT.of hPM
  have hCM := hPM.2.2.2
  have hX := WM.ofY hPM.1
  have hl := lv_entry ([.ref (am 0), .int (nI i), .int (nI j), .int (bI true)]) (n := 8) (Nat.le_of_ble_eq_true rfl)
  rw [lg_entry_eq]
  generalize (lg_sl ([.ref (am 0), .int (nI i), .int (nI j), .int (bI true)]) ++ List.replicate (8 - (lg_sl ([.ref (am 0), .int (nI i), .int (nI j), .int (bI true)])).length) Slot.unset).toArray = ls at hl ⊢
  have hl : lv_has ls 8 [(0, .ref (am 0)), (1, .int (nI i)), (2, .int (nI j)), (3, .int (bI true))] := hl
  show W p l e ({ frames := 6, cells := 112, slots := 2568, locals := 151 } : Room) s m ([.ref (am 0), .int (nI i), .int (nI j), .int (bI true)]).toArray below meth c s.heap [] 0 0 (MQ below (va_Qr (fun M1 : MS => M1 = thM M 0) (fun M1 _ t => PM dC dI am M1 t) (AM am)) ([.ref (am 0), .int (nI i), .int (nI j), .int (bI true)]).toArray s 112 2568 (AM am)) (F0 m 0 ls [])
  have hn := (hI.1 i (by omega)).1
  refine lv_aload_n hx hb dX6_ranks_0 rfl (lv_at hl 0 rfl) ?_
  refine lv_iload_n hx hb dX6_ranks_1 rfl (lv_at hl 1 rfl) ?_
  refine kx_cr (v := bI false) (va_runS (As := [.int (nI i)]) (rest := [.ref (am 0)]) ⟨hx, hb, hml, hown, hts⟩ (m_X6_isNoRow l dC dI am M (nI i)) (va_cwS 1 hts gX6_ranks_X6_isNoRow rfl rfl rfl hdX6_isNoRow_1.2 ⟨Nat.le_of_ble_eq_true rfl, Nat.le_of_ble_eq_true rfl⟩) hX.preS rfl rfl hl.1 rfl (lv_room (Nat.le_of_ble_eq_true rfl)) dX6_ranks_2 ⟨by show _ ≤ 112; omega, by show _ ≤ 2568; omega⟩) (fun _ h => h.trans (isNo_ok (by omega) (by omega))) ?_
  refine kb_if_ne (tgt := 15) hx hb dX6_ranks_5 (by decide) (fun k_1 => absurd k_1 (by decide)) (fun k_1 => ?_)
  refine lv_iload_n hx hb dX6_ranks_8 rfl (lv_at hl 2 rfl) ?_
  refine kx_cr (v := bI false) (va_runS (As := [.int (nI j)]) (rest := [.ref (am 0)]) ⟨hx, hb, hml, hown, hts⟩ (m_X6_isNoOrder l dC dI am M (nI j)) (va_cwS 1 hts gX6_ranks_X6_isNoOrder rfl rfl rfl hdX6_isNoOrder_1.2 ⟨Nat.le_of_ble_eq_true rfl, Nat.le_of_ble_eq_true rfl⟩) hX.preS rfl rfl hl.1 rfl (lv_room (Nat.le_of_ble_eq_true rfl)) dX6_ranks_9 ⟨by show _ ≤ 112; omega, by show _ ≤ 2568; omega⟩) (fun _ h => h.trans (isNo_ok (by omega) (by omega))) ?_
  refine kb_if_eq (tgt := 19) hx hb dX6_ranks_12 (by decide) (fun k_2 => ?_) (fun k_2 => absurd k_2 (by decide))
  refine lv_iconst (v := nI 0) hx hb dX6_ranks_19 (by decide) ?_
  refine lv_iconst (v := nI 1) hx hb dX6_ranks_20 (by decide) ?_
  refine km_ci (va_runV (As := [.int (nI 0), .int (nI 1)]) (rest := []) ⟨hx, hb, hml, hown, hts⟩ (m_X6_start l dC dI am M false 1 (by omega)) (cwV 2 hts gX6_ranks_X6_start rfl rfl rfl hdX6_start_2 ⟨Nat.le_of_ble_eq_true rfl, Nat.le_of_ble_eq_true rfl⟩) (hX.preObj) rfl rfl hl.1 rfl (lv_room (Nat.le_of_ble_eq_true rfl)) dX6_ranks_21 ⟨by show _ ≤ 112; omega, by show _ ≤ 2568; omega⟩) hX (fun _ h => Or.inl h) (fun r_ S_ H locs hw hX => ?_)
  obtain ⟨rfl, rfl⟩ := hw
  refine kb_if_eq (tgt := 30) hx hb dX6_ranks_24 (by decide) (fun k_3 => ?_) (fun k_3 => absurd k_3 (by decide))
  obtain ⟨ac4, hr4, hV⟩ := CM.at hCM hX (A := (zB H.size)) (c := (95, "", 0)) (by decide) (fun q hq => Or.inr (Nat.le_trans hX.2.2.2.1 hq))
  replace hV : SV (zB H.size) ac4 0 s H := hV
  refine va_ldcS hx hb hown hr4 dX6_ranks_30 ?_
  refine lv_astore (lv' := [(4, .ref ac4), (0, .ref (am 0)), (1, .int (nI i)), (2, .int (nI j)), (3, .int (bI true))]) hx hb dX6_ranks_32 hl (by decide) rfl (fun ls hl => ?_)
  refine lv_iconst (v := nI 0) hx hb dX6_ranks_34 (by decide) ?_
  refine lv_istore (lv' := [(5, .int (nI 0)), (4, .ref ac4), (0, .ref (am 0)), (1, .int (nI i)), (2, .int (nI j)), (3, .int (bI true))]) hx hb dX6_ranks_35 hl (by decide) rfl (fun ls hl => ?_)
  have loop37 : ∀ (fuel : Nat) (k ct qm nm : Nat) (hk : k ≤ 16) (hc3 : ct ≤ rkT (fun y => rankC (cM M j) ((M.1 i).1 y)) (M.1 i).2.2 k 0) (hnm : nm ≤ 3 * ct) (H : Heap) (locs : List Loc), 16 - k < fuel → WM dC dI am (mN M (0, M.2.2.2.1, M.2.2.2.2.1, M.2.2.2.2.2)) [] (AY am s.heap.size) s H locs → SV (zB H.size) qm nm s H → ∀ ls : Array Slot, lv_has ls 8 [(0, .ref (am 0)), (1, .int (nI i)), (2, .int (nI j)), (3, .int (bI true)), (4, .ref qm), (5, .int (nI k))] → W p l e ({ frames := 6, cells := 112, slots := 2568, locals := 151 } : Room) s m ([.ref (am 0), .int (nI i), .int (nI j), .int (bI true)]).toArray below meth c H locs (7 * ct) (slR 3 5 ct) (MQ below (va_Qr (fun M1 : MS => M1 = thM M 0) (fun M1 _ t => PM dC dI am M1 t) (AM am)) ([.ref (am 0), .int (nI i), .int (nI j), .int (bI true)]).toArray s 112 2568 (AM am)) (F0 m 37 ls []) := by
    intro fuel
    induction fuel with
    | zero => intro k ct qm nm hk hc3 hnm H locs hf9; exact absurd hf9 (Nat.not_lt_zero _)
    | succ fuel ih37 =>
      intro k ct qm nm hk hc3 hnm H locs hf9 hX hV ls hl
      refine lv_iload hx hb dX6_ranks_37 (lv_at hl 5 rfl) ?_
      refine lv_iload_n hx hb dX6_ranks_39 rfl (lv_at hl 3 rfl) ?_
      refine kb_if_eq (tgt := 48) hx hb dX6_ranks_40 (by decide) (fun k_5 => absurd k_5 (by decide)) (fun k_5 => ?_)
      refine lv_bipush (v := nI 16) hx hb dX6_ranks_43 (by decide) ?_
      refine lv_goto (tgt := 49) hx hb dX6_ranks_45 (by decide) ?_
      refine kn_icmp_ge (tgt := 145) hx hb (by omega) (by omega) dX6_ranks_49 (by decide) (fun k_6 => ?_) (fun k_6 => ?_)
      · skip
        refine lv_aload hx hb dX6_ranks_145 (lv_at hl 4 rfl) ?_
        have hct : ct ≤ 16 := Nat.le_trans hc3 (Nat.le_trans (rkT_le (Nat.zero_le _)) (by omega))
        have hs7 : slR 3 5 ct ≤ 2568 := Nat.le_trans (slR_mono hct) (by decide)
        exact W.widen (k := 112) (n := 2568) (by omega) (by omega) (W.filt (fun locs1 hl1 => W.aret (v := .ref qm) hx hb hr (Or.inl ⟨_, rfl⟩) (Or.inr ⟨_, rfl⟩) (fun t9 ht9 hW9 => ⟨⟨(mN M (0, M.2.2.2.1, M.2.2.2.2.1, M.2.2.2.2.2)), _, rfl, rfl, hX.P ht9 hW9⟩, (hX.2.2.2.F ht9).Y⟩) (free_Y hX.2.2.2 hl1) dX6_ranks_147))
      · skip
        refine lv_iconst (v := nI 0) hx hb dX6_ranks_52 (by decide) ?_
        refine lv_istore (lv' := [(6, .int (nI 0)), (0, .ref (am 0)), (1, .int (nI i)), (2, .int (nI j)), (3, .int (bI true)), (4, .ref qm), (5, .int (nI k))]) hx hb dX6_ranks_53 hl (by decide) rfl (fun ls hl => ?_)
        have loop55 : ∀ (fuel : Nat) (a ct qm nm : Nat) (ha : a ≤ (M.1 i).2.2) (hc4 : ct ≤ rkT (fun y => rankC (cM M j) ((M.1 i).1 y)) (M.1 i).2.2 k a) (hnm : nm ≤ 3 * ct) (H : Heap) (locs : List Loc), (M.1 i).2.2 - a < fuel → WM dC dI am (mN M (0, M.2.2.2.1, M.2.2.2.2.1, M.2.2.2.2.2)) [] (AY am s.heap.size) s H locs → SV (zB H.size) qm nm s H → ∀ ls : Array Slot, lv_has ls 8 [(0, .ref (am 0)), (1, .int (nI i)), (2, .int (nI j)), (3, .int (bI true)), (4, .ref qm), (5, .int (nI k)), (6, .int (nI a))] → W p l e ({ frames := 6, cells := 112, slots := 2568, locals := 151 } : Room) s m ([.ref (am 0), .int (nI i), .int (nI j), .int (bI true)]).toArray below meth c H locs (7 * ct) (slR 3 5 ct) (MQ below (va_Qr (fun M1 : MS => M1 = thM M 0) (fun M1 _ t => PM dC dI am M1 t) (AM am)) ([.ref (am 0), .int (nI i), .int (nI j), .int (bI true)]).toArray s 112 2568 (AM am)) (F0 m 55 ls []) := by
          intro fuel
          induction fuel with
          | zero => intro a ct qm nm ha hc4 hnm H locs hf9; exact absurd hf9 (Nat.not_lt_zero _)
          | succ fuel ih55 =>
            intro a ct qm nm ha hc4 hnm H locs hf9 hX hV ls hl
            refine lv_iload hx hb dX6_ranks_55 (lv_at hl 6 rfl) ?_
            refine lv_aload_n hx hb dX6_ranks_57 rfl (lv_at hl 0 rfl) ?_
            refine km_gsizes hx hb hts hin6 hown hX (hts (.fieldLink RX6 17 "OrderlatticeModel" "sizes" "[I") (tm 681 (by decide +kernel) rfl)) dX6_ranks_58 ?_
            refine lv_iload_n hx hb dX6_ranks_61 rfl (lv_at hl 1 rfl) ?_
            refine km_lz (v := (M.1 i).2.2) hx hb hX (by omega) rfl dX6_ranks_62 ?_
            refine kn_icmp_ge (tgt := 139) hx hb (by omega) (by omega) dX6_ranks_63 (by decide) (fun k_7 => ?_) (fun k_7 => ?_)
            · skip
              refine lv_iinc (v := nI (k + 1)) (lv' := [(5, .int (nI (k + 1))), (0, .ref (am 0)), (1, .int (nI i)), (2, .int (nI j)), (3, .int (bI true)), (4, .ref qm), (6, .int (nI a))]) hx hb dX6_ranks_139 hl (k := 5) rfl (nI_1 k) (by decide) rfl (fun ls hl => ?_)
              refine lv_goto (tgt := 37) hx hb dX6_ranks_142 (by decide) ?_
              refine W.widen (k := 7 * ct) (n := slR 3 5 ct) (by omega) (by omega) ?_
              exact ih37  (k + 1) ct qm nm (by omega) (rkT_to hc4 (by omega)) hnm _ _ (by omega) hX hV _ (lv_sub hl [1, 2, 3, 4, 5, 0] rfl)
            · skip
              have hv9 := (hI.1 i (by omega)).2 a (by omega)
              have hr9 := rankC_le (cM M j) ((M.1 i).1 a)
              have hct0 : ct ≤ 16 := by have := (Nat.le_trans hc4 (rkT_le (show a ≤ (M.1 i).2.2 by omega))); omega
              have hs7 : slR 3 5 ct ≤ 2568 := Nat.le_trans (slR_mono hct0) (by decide)
              refine lv_aload_n hx hb dX6_ranks_66 rfl (lv_at hl 0 rfl) ?_
              refine lv_iload_n hx hb dX6_ranks_67 rfl (lv_at hl 2 rfl) ?_
              refine lv_aload_n hx hb dX6_ranks_68 rfl (lv_at hl 0 rfl) ?_
              refine km_gvalues hx hb hts hin6 hown hX (hts (.fieldLink RX6 11 "OrderlatticeModel" "values" "[[I") (tm 710 (by decide +kernel) rfl)) dX6_ranks_69 ?_
              refine lv_iload_n hx hb dX6_ranks_72 rfl (lv_at hl 1 rfl) ?_
              refine km_av hx hb hX (by omega) dX6_ranks_73 ?_
              refine lv_iload hx hb dX6_ranks_74 (lv_at hl 6 rfl) ?_
              refine km_lv (v := ((M.1 i).1) a) hx hb hX (by omega) (by omega) rfl dX6_ranks_76 ?_
              refine kx_cr (v := nI (rankC (cM M j) (((M.1 i).1) a))) (va_runV (As := [.int (nI j), .int (nI (((M.1 i).1) a))]) (rest := []) ⟨hx, hb, hml, hown, hts⟩ (m_X6_rankNow l dC dI am (mN M (0, M.2.2.2.1, M.2.2.2.2.1, M.2.2.2.2.2)) j (((M.1 i).1) a) (by omega) (hI.2 j (by omega)) (by omega)) (cwV 2 hts gX6_ranks_X6_rankNow rfl rfl rfl hdX6_rankNow_2 ⟨Nat.le_of_ble_eq_true rfl, Nat.le_of_ble_eq_true rfl⟩) (hX.preObj) rfl rfl hl.1 rfl (lv_room (Nat.le_of_ble_eq_true rfl)) dX6_ranks_77 ⟨by show _ ≤ 112; omega, by show _ ≤ 2568; omega⟩) (fun _ h => h) ?_
              refine lv_istore (lv' := [(7, .int (nI (rankC (cM M j) (((M.1 i).1) a)))), (0, .ref (am 0)), (1, .int (nI i)), (2, .int (nI j)), (3, .int (bI true)), (4, .ref qm), (5, .int (nI k)), (6, .int (nI a))]) hx hb dX6_ranks_80 hl (by decide) rfl (fun ls hl => ?_)
              refine lv_iload_n hx hb dX6_ranks_82 rfl (lv_at hl 4 rfl) ?_
              refine kb_if_eq (tgt := 93) hx hb dX6_ranks_83 (by decide) (fun k_8 => absurd k_8 (by decide)) (fun k_8 => ?_)
              refine lv_iload hx hb dX6_ranks_86 (lv_at hl 0 rfl) ?_
              refine lv_iload hx hb dX6_ranks_88 (lv_at hl 6 rfl) ?_
              refine kn_icmp_ne (tgt := 133) hx hb (by omega) (by omega) dX6_ranks_90 (by decide) (fun k_9 => ?_) (fun k_9 => ?_)
              · skip
                refine lv_iinc (v := nI (a + 1)) (lv' := [(6, .int (nI (a + 1))), (7, .int (nI (rankC (cM M j) (((M.1 i).1) a)))), (0, .ref (am 0)), (1, .int (nI i)), (2, .int (nI j)), (3, .int (bI true)), (4, .ref qm), (5, .int (nI k))]) hx hb dX6_ranks_133 hl (k := 7) rfl (nI_1 a) (by decide) rfl (fun ls hl => ?_)
                refine lv_goto (tgt := 55) hx hb dX6_ranks_136 (by decide) ?_
                refine W.widen (k := 7 * ct) (n := slR 3 5 ct) (by omega) (by omega) ?_
                exact ih55  (a + 1) ct qm nm (by omega) (Nat.le_trans hc4 rkT_f) hnm _ _ (by omega) hX hV _ (lv_sub hl [2, 3, 4, 5, 6, 7, 0] rfl)
              · skip
                have hrk := k_9
                have hct := rkT_le (r := (fun y => rankC (cM M j) ((M.1 i).1 y))) (k := k) (show a + 1 ≤ (M.1 i).2.2 by omega)
                rw [rkT_s (r := (fun y => rankC (cM M j) ((M.1 i).1 y))) hrk] at hct
                have hs8 := slR_s 3 5 ct
                have hs9 : slR 3 5 (ct + 1) ≤ 2568 := Nat.le_trans (slR_mono (show ct + 1 ≤ 16 by omega)) (by decide)
                refine km_newB (cB := cB) hx hb hts hinJ4 hown (hts (.classLink RX6 97 RJ4) (tm 775 (by decide +kernel) rfl)) (hts (.instantiable RJ4 4) (tm 374 (by decide +kernel) rfl)) (hts (.initialized RJ4) (tm 328 (by decide +kernel) rfl)) hX (by show _ ≤ 112; omega) (by show _ ≤ 2568; omega) dX6_ranks_93 (fun z9 H hz9 hX hT hk9 => ?_)
                have hV := hk9 _ _ _ hV
                rw [← hz9] at hV
                clear hz9 hk9
                refine lv_dup hx hb dX6_ranks_96 rfl ?_
                refine ktm_v (va_runI (As := []) (rest := [.ref z9]) ⟨hx, hb, hml, hown, hts⟩ (m_J4_init_da8c8 l dC dI cB z9 z9) (cwI 0 hts gX6_ranks_J4_init_da8c8 rfl rfl rfl (hts (.initialized yJ4_init_da8c8.cls) (tm 328 (by decide +kernel) rfl)) (hts (.methodLink RX6 99 yJ4_init_da8c8) (tm 776 (by decide +kernel) rfl)) (hts (.instanceMethod yJ4_init_da8c8) (tm 414 (by decide +kernel) rfl)) rfl (by decide +kernel) ⟨Nat.le_of_ble_eq_true rfl, Nat.le_of_ble_eq_true rfl⟩) (hT.preS hK hX) rfl rfl hl.1 rfl (lv_room (Nat.le_of_ble_eq_true rfl)) dX6_ranks_97 ⟨by show _ ≤ 112; omega, by show _ ≤ 2568; omega⟩) hK hX hT (fun b0 H locs _ hX hT hk9 => ?_)
                have hV := hk9 _ _ hV
                refine W.widen (k := 7 * ct + 2) (n := slR 3 5 ct + 4 + 2 * 16) (by omega) (by omega) ?_
                have hf : sb_Fit (fun _ => 0) := sb_fit0
                refine lv_aload hx hb dX6_ranks_100 (lv_at hl 5 rfl) ?_
                have hcb := cap_b (q := 0 + nm) (cp := 16) (Q := (3 * (ct + 1) + 5)) (by omega) (by omega)
                refine ktm_app (sl := slR 3 5 ct + 4) (n2 := 0 + nm) (3 * (ct + 1) + 5) (va_runV (As := [.ref qm]) (rest := []) ⟨hx, hb, hml, hown, hts⟩ (m_J4_append_15ec4 l dC dI cB z9 z9 b0 0 16 (fun _ => 0) qm nm (by omega) (by omega) (by omega) hf (by omega) (by omega)) (cwV 1 hts gX6_ranks_J4_append_15ec4 rfl rfl rfl hdJ4_append_15ec4_1 ⟨Nat.le_of_ble_eq_true rfl, Nat.le_of_ble_eq_true rfl⟩) (hT.preVV hK hX hV (ci := 1) (r := (RJ4, TJ4, 4)) rfl 0 rfl) rfl rfl hl.1 rfl (lv_room (Nat.le_of_ble_eq_true rfl)) dX6_ranks_102 ⟨by show _ ≤ 112; omega, by show _ ≤ 2568; have := gm_pot (0 + nm) 16; omega⟩) hK hX hT (by omega) (by omega) (fun b_10 c_10 f_10 H locs hX hT hk9 hf _ _ _ => ?_)
                have hV := hk9 _ _ hV
                refine lv_aload hx hb dX6_ranks_105 (lv_at hl 5 rfl) ?_
                refine kx_cr (v := bI (decide (nm = 0))) (va_runV (As := []) (rest := [.ref z9]) ⟨hx, hb, hml, hown, hts⟩ (m_J0_isEmpty_aae02 l dC dI cB z9 [(z9, eSB b_10 (0 + nm)), (b_10, eBy cB c_10 f_10)] qm nm (by omega)) (cwV 0 hts gX6_ranks_J0_isEmpty_aae02 rfl rfl rfl hdJ0_isEmpty_aae02_0 ⟨Nat.le_of_ble_eq_true rfl, Nat.le_of_ble_eq_true rfl⟩) (hT.preQ hK hX hV) rfl rfl hl.1 rfl (lv_room (Nat.le_of_ble_eq_true rfl)) dX6_ranks_107 ⟨by show _ ≤ 112; omega, by show _ ≤ 2568; omega⟩) (fun _ h => h) ?_
                refine kb_if_eq (tgt := 118) hx hb dX6_ranks_110 (by decide) (fun k_11 => ?_) (fun k_11 => ?_)
                · skip
                  obtain ⟨ac12, hr12, hVc⟩ := CM.at hCM hX (A := (zB z9)) (c := (104, " ", 1)) (by decide) (fun q hq => Or.inr (Nat.le_trans hT.2.2.1 hq))
                  replace hVc : SV (zB z9) ac12 1 s H := hVc
                  refine va_ldcS hx hb hown hr12 dX6_ranks_118 ?_
                  have hcb := cap_b (q := 0 + nm + 1) (cp := c_10) (Q := (3 * (ct + 1) + 5)) (by omega) (by omega)
                  refine ktm_app (sl := slR 3 5 ct + 4) (n2 := 0 + nm + 1) (3 * (ct + 1) + 5) (va_runV (As := [.ref ac12]) (rest := []) ⟨hx, hb, hml, hown, hts⟩ (m_J4_append_15ec4 l dC dI cB z9 z9 b_10 (0 + nm) c_10 f_10 ac12 1 (by omega) (by omega) (by omega) hf (by omega) (by omega)) (cwV 1 hts gX6_ranks_J4_append_15ec4 rfl rfl rfl hdJ4_append_15ec4_1 ⟨Nat.le_of_ble_eq_true rfl, Nat.le_of_ble_eq_true rfl⟩) (hT.preVV hK hX hVc (ci := 1) (r := (RJ4, TJ4, 4)) rfl 0 rfl) rfl rfl hl.1 rfl (lv_room (Nat.le_of_ble_eq_true rfl)) dX6_ranks_120 ⟨by show _ ≤ 112; omega, by show _ ≤ 2568; have := gm_pot (0 + nm + 1) c_10; omega⟩) hK hX hT (by omega) (by omega) (fun b_13 c_13 f_13 H locs hX hT hk9 hf _ _ _ => ?_)
                  have hV := hk9 _ _ hV
                  clear hVc
                  refine lv_iload hx hb dX6_ranks_123 (lv_at hl 0 rfl) ?_
                  have hd1 := dg2 (v := rankC (cM M j) (((M.1 i).1) a)) (by omega)
                  have hcb := cap_b (q := 0 + nm + 1 + sb_dg (rankC (cM M j) (((M.1 i).1) a))) (cp := c_13) (Q := (3 * (ct + 1) + 5)) (by omega) (by omega)
                  refine ktm_app (sl := slR 3 5 ct + 4) (n2 := 0 + nm + 1 + sb_dg (rankC (cM M j) (((M.1 i).1) a))) (3 * (ct + 1) + 5) (va_runV (As := [.int (nI (rankC (cM M j) (((M.1 i).1) a)))]) (rest := []) ⟨hx, hb, hml, hown, hts⟩ (m_J4_append_bf812 l dC dI cB z9 z9 b_13 (0 + nm + 1) c_13 f_13 (by omega) (by omega) hf (rankC (cM M j) (((M.1 i).1) a)) (by omega) (by omega)) (cwV 1 hts gX6_ranks_J4_append_bf812 rfl rfl rfl hdJ4_append_bf812_1 ⟨Nat.le_of_ble_eq_true rfl, Nat.le_of_ble_eq_true rfl⟩) (hT.preV hK hX (ci := 1) (r := (RJ4, TJ4, 4)) rfl 0 rfl) rfl rfl hl.1 rfl (lv_room (Nat.le_of_ble_eq_true rfl)) dX6_ranks_125 ⟨by show _ ≤ 112; omega, by show _ ≤ 2568; have := gm_pot (0 + nm + 1 + sb_dg (rankC (cM M j) (((M.1 i).1) a))) c_13; omega⟩) hK hX hT (by omega) (by omega) (fun b_14 c_14 f_14 H locs hX hT hk9 hf _ _ _ => ?_)
                  have hV := hk9 _ _ hV
                  refine ktm_str hts hinJ0 (va_runV (As := []) (rest := []) ⟨hx, hb, hml, hown, hts⟩ (s_J4_toString_0e30d l dC dI cB z9 z9 b_14 (0 + nm + 1 + sb_dg (rankC (cM M j) (((M.1 i).1) a))) c_14 f_14 (by omega) (by omega) hf) (cwV 0 hts gX6_ranks_J4_toString_0e30d rfl rfl rfl hdJ4_toString_0e30d_0 ⟨Nat.le_of_ble_eq_true rfl, Nat.le_of_ble_eq_true rfl⟩) (hT.preV hK hX (ci := 1) (r := (RJ4, TJ4, 4)) rfl 0 rfl) rfl rfl hl.1 rfl (lv_room (Nat.le_of_ble_eq_true rfl)) dX6_ranks_128 ⟨by show _ ≤ 112; omega, by show _ ≤ 2568; omega⟩) hK hX hT (fun q_15 H locs hX hV => ?_)
                  refine lv_astore (lv' := [(4, .ref q_15), (7, .int (nI (rankC (cM M j) (((M.1 i).1) a)))), (0, .ref (am 0)), (1, .int (nI i)), (2, .int (nI j)), (3, .int (bI true)), (5, .int (nI k)), (6, .int (nI a))]) hx hb dX6_ranks_131 hl (by decide) rfl (fun ls hl => ?_)
                  refine lv_iinc (v := nI (a + 1)) (lv' := [(6, .int (nI (a + 1))), (4, .ref q_15), (7, .int (nI (rankC (cM M j) (((M.1 i).1) a)))), (0, .ref (am 0)), (1, .int (nI i)), (2, .int (nI j)), (3, .int (bI true)), (5, .int (nI k))]) hx hb dX6_ranks_133 hl (k := 7) rfl (nI_1 a) (by decide) rfl (fun ls hl => ?_)
                  refine lv_goto (tgt := 55) hx hb dX6_ranks_136 (by decide) ?_
                  refine W.widen (k := 7 * (ct + 1)) (n := slR 3 5 (ct + 1)) (by omega) (by omega) ?_
                  exact ih55  (a + 1) (ct + 1) q_15 (0 + nm + 1 + sb_dg (rankC (cM M j) (((M.1 i).1) a))) (by omega) (by rw [rkT_s (r := (fun y => rankC (cM M j) ((M.1 i).1 y))) hrk]; omega) (by omega) _ _ (by omega) hX hV _ (lv_sub hl [3, 4, 5, 6, 1, 7, 0] rfl)
                · skip
                  obtain ⟨ac16, hr16, hVc⟩ := CM.at hCM hX (A := (zB z9)) (c := (95, "", 0)) (by decide) (fun q hq => Or.inr (Nat.le_trans hT.2.2.1 hq))
                  replace hVc : SV (zB z9) ac16 0 s H := hVc
                  refine va_ldcS hx hb hown hr16 dX6_ranks_113 ?_
                  refine lv_goto (tgt := 120) hx hb dX6_ranks_115 (by decide) ?_
                  have hcb := cap_b (q := 0 + nm + 0) (cp := c_10) (Q := (3 * (ct + 1) + 5)) (by omega) (by omega)
                  refine ktm_app (sl := slR 3 5 ct + 4) (n2 := 0 + nm + 0) (3 * (ct + 1) + 5) (va_runV (As := [.ref ac16]) (rest := []) ⟨hx, hb, hml, hown, hts⟩ (m_J4_append_15ec4 l dC dI cB z9 z9 b_10 (0 + nm) c_10 f_10 ac16 0 (by omega) (by omega) (by omega) hf (by omega) (by omega)) (cwV 1 hts gX6_ranks_J4_append_15ec4 rfl rfl rfl hdJ4_append_15ec4_1 ⟨Nat.le_of_ble_eq_true rfl, Nat.le_of_ble_eq_true rfl⟩) (hT.preVV hK hX hVc (ci := 1) (r := (RJ4, TJ4, 4)) rfl 0 rfl) rfl rfl hl.1 rfl (lv_room (Nat.le_of_ble_eq_true rfl)) dX6_ranks_120 ⟨by show _ ≤ 112; omega, by show _ ≤ 2568; have := gm_pot (0 + nm + 0) c_10; omega⟩) hK hX hT (by omega) (by omega) (fun b_17 c_17 f_17 H locs hX hT hk9 hf _ _ _ => ?_)
                  have hV := hk9 _ _ hV
                  clear hVc
                  refine lv_iload hx hb dX6_ranks_123 (lv_at hl 0 rfl) ?_
                  have hd1 := dg2 (v := rankC (cM M j) (((M.1 i).1) a)) (by omega)
                  have hcb := cap_b (q := 0 + nm + 0 + sb_dg (rankC (cM M j) (((M.1 i).1) a))) (cp := c_17) (Q := (3 * (ct + 1) + 5)) (by omega) (by omega)
                  refine ktm_app (sl := slR 3 5 ct + 4) (n2 := 0 + nm + 0 + sb_dg (rankC (cM M j) (((M.1 i).1) a))) (3 * (ct + 1) + 5) (va_runV (As := [.int (nI (rankC (cM M j) (((M.1 i).1) a)))]) (rest := []) ⟨hx, hb, hml, hown, hts⟩ (m_J4_append_bf812 l dC dI cB z9 z9 b_17 (0 + nm + 0) c_17 f_17 (by omega) (by omega) hf (rankC (cM M j) (((M.1 i).1) a)) (by omega) (by omega)) (cwV 1 hts gX6_ranks_J4_append_bf812 rfl rfl rfl hdJ4_append_bf812_1 ⟨Nat.le_of_ble_eq_true rfl, Nat.le_of_ble_eq_true rfl⟩) (hT.preV hK hX (ci := 1) (r := (RJ4, TJ4, 4)) rfl 0 rfl) rfl rfl hl.1 rfl (lv_room (Nat.le_of_ble_eq_true rfl)) dX6_ranks_125 ⟨by show _ ≤ 112; omega, by show _ ≤ 2568; have := gm_pot (0 + nm + 0 + sb_dg (rankC (cM M j) (((M.1 i).1) a))) c_17; omega⟩) hK hX hT (by omega) (by omega) (fun b_18 c_18 f_18 H locs hX hT hk9 hf _ _ _ => ?_)
                  have hV := hk9 _ _ hV
                  refine ktm_str hts hinJ0 (va_runV (As := []) (rest := []) ⟨hx, hb, hml, hown, hts⟩ (s_J4_toString_0e30d l dC dI cB z9 z9 b_18 (0 + nm + 0 + sb_dg (rankC (cM M j) (((M.1 i).1) a))) c_18 f_18 (by omega) (by omega) hf) (cwV 0 hts gX6_ranks_J4_toString_0e30d rfl rfl rfl hdJ4_toString_0e30d_0 ⟨Nat.le_of_ble_eq_true rfl, Nat.le_of_ble_eq_true rfl⟩) (hT.preV hK hX (ci := 1) (r := (RJ4, TJ4, 4)) rfl 0 rfl) rfl rfl hl.1 rfl (lv_room (Nat.le_of_ble_eq_true rfl)) dX6_ranks_128 ⟨by show _ ≤ 112; omega, by show _ ≤ 2568; omega⟩) hK hX hT (fun q_19 H locs hX hV => ?_)
                  refine lv_astore (lv' := [(4, .ref q_19), (7, .int (nI (rankC (cM M j) (((M.1 i).1) a)))), (0, .ref (am 0)), (1, .int (nI i)), (2, .int (nI j)), (3, .int (bI true)), (5, .int (nI k)), (6, .int (nI a))]) hx hb dX6_ranks_131 hl (by decide) rfl (fun ls hl => ?_)
                  refine lv_iinc (v := nI (a + 1)) (lv' := [(6, .int (nI (a + 1))), (4, .ref q_19), (7, .int (nI (rankC (cM M j) (((M.1 i).1) a)))), (0, .ref (am 0)), (1, .int (nI i)), (2, .int (nI j)), (3, .int (bI true)), (5, .int (nI k))]) hx hb dX6_ranks_133 hl (k := 7) rfl (nI_1 a) (by decide) rfl (fun ls hl => ?_)
                  refine lv_goto (tgt := 55) hx hb dX6_ranks_136 (by decide) ?_
                  refine W.widen (k := 7 * (ct + 1)) (n := slR 3 5 (ct + 1)) (by omega) (by omega) ?_
                  exact ih55  (a + 1) (ct + 1) q_19 (0 + nm + 0 + sb_dg (rankC (cM M j) (((M.1 i).1) a))) (by omega) (by rw [rkT_s (r := (fun y => rankC (cM M j) ((M.1 i).1 y))) hrk]; omega) (by omega) _ _ (by omega) hX hV _ (lv_sub hl [3, 4, 5, 6, 1, 7, 0] rfl)
        refine W.widen (k := 7 * ct) (n := slR 3 5 ct) (by omega) (by omega) ?_
        exact loop55 ((M.1 i).2.2 + 1) 0 ct qm nm (by omega) hc3 hnm _ _ (by omega) hX hV _ (lv_sub hl [1, 2, 3, 4, 5, 6, 0] rfl)
  refine W.widen (k := 7 * 0) (n := slR 3 5 0) (by omega) (by omega) ?_
  exact loop37 (16 + 1) 0 0 ac4 0 (by omega) (Nat.zero_le _) (by omega) _ _ (by omega) hX hV _ (lv_sub hl [2, 3, 4, 5, 1, 0] rfl)
set_option maxHeartbeats 4000000 in
set_option maxRecDepth 100000 in
theorem o_X6_text_1 (l : Launch) (dC : Nat → ClassId) (dI : Nat → Nat → Nat) (cB : ClassId) (am : Nat → Nat) (M : MS) (x9 : Int32) (hb9 : x9 < 0 ∨ nI 3 ≤ x9) : Met l yX6_text wsX6_text ({ frames := 6, cells := 0, slots := 0, locals := 151 } : Room) (va_Pc [.ref (am 0), .int x9] (PMT dC dI cB am M)) (va_Qr (fun M1 : MS => M1 = thM M 1) (fun M1 _ t => PM dC dI am M1 t) (AM am)) 0 0 (AM am) := by
  refine Met.ofW (cc := cX6_text) (maxL := 4) (ret := (some (.object "java/lang/String"))) pl_X6 rfl ?_
  intro p e s m args below meth c s₁ B hml hv
  obtain ⟨rfl, hPM⟩ := hv
  have hx := B.exec
  have hb := B.bytes
  have hr := B.returns
  have hts := atoms_spec (ws := wsX6_text) B.pre
  have hown : s.vm.findClass RX6 = some m.cls := findClass_of_methodNamed B.named
  have hlocks := B.notSynchronized
  have hin6 : ∀ w ∈ u_ws RX6 TX6 10, w ∈ wsX6_text := tu 1331 (by decide +kernel) rfl
  have hK := KT.of hPM
  have hCM := hPM.2.2.2
  have hX := WM.ofY hPM.1
  have hl := lv_entry ([.ref (am 0), .int x9]) (n := 4) (Nat.le_of_ble_eq_true rfl)
  rw [lg_entry_eq]
  generalize (lg_sl ([.ref (am 0), .int x9]) ++ List.replicate (4 - (lg_sl ([.ref (am 0), .int x9])).length) Slot.unset).toArray = ls at hl ⊢
  have hl : lv_has ls 4 [(0, .ref (am 0)), (1, .int x9)] := hl
  show W p l e ({ frames := 6, cells := 0, slots := 0, locals := 151 } : Room) s m ([.ref (am 0), .int x9]).toArray below meth c s.heap [] 0 0 (MQ below (va_Qr (fun M1 : MS => M1 = thM M 1) (fun M1 _ t => PM dC dI am M1 t) (AM am)) ([.ref (am 0), .int x9]).toArray s 0 0 (AM am)) (F0 m 0 ls [])
  refine lv_aload_n hx hb dX6_text_0 rfl (lv_at hl 0 rfl) ?_
  refine lv_iload_n hx hb dX6_text_1 rfl (lv_at hl 1 rfl) ?_
  refine kx_cr (v := bI true) (va_runS (As := [.int x9]) (rest := [.ref (am 0)]) ⟨hx, hb, hml, hown, hts⟩ (m_X6_isNoRow l dC dI am M x9) (va_cwS 1 hts gX6_text_X6_isNoRow rfl rfl rfl hdX6_isNoRow_1.2 ⟨Nat.le_of_ble_eq_true rfl, Nat.le_of_ble_eq_true rfl⟩) hX.preS rfl rfl hl.1 rfl (lv_room (Nat.le_of_ble_eq_true rfl)) dX6_text_2 ⟨Nat.le_of_ble_eq_true rfl, Nat.le_of_ble_eq_true rfl⟩) (fun _ h => h.trans (isNo_bad (isNo_r hb9))) ?_
  refine lv_iconst (v := nI 1) hx hb dX6_text_5 (by decide) ?_
  refine km_ci (va_runV (As := [.int (bI true), .int (nI 1)]) (rest := []) ⟨hx, hb, hml, hown, hts⟩ (m_X6_start l dC dI am M true 1 (by omega)) (cwV 2 hts gX6_text_X6_start rfl rfl rfl hdX6_start_2 ⟨Nat.le_of_ble_eq_true rfl, Nat.le_of_ble_eq_true rfl⟩) (hX.preObj) rfl rfl hl.1 rfl (lv_room (Nat.le_of_ble_eq_true rfl)) dX6_text_6 ⟨Nat.le_of_ble_eq_true rfl, Nat.le_of_ble_eq_true rfl⟩) hX (fun _ h => Or.inl h) (fun r_ S_ H locs hw hX => ?_)
  obtain ⟨rfl, rfl⟩ := hw
  refine kb_if_eq (tgt := 15) hx hb dX6_text_9 (by decide) (fun k_1 => absurd k_1 (by decide)) (fun k_1 => ?_)
  obtain ⟨ac2, hr2, hV⟩ := CM.at hCM hX (A := (zB H.size)) (c := (95, "", 0)) (by decide) (fun q hq => Or.inr (Nat.le_trans hX.2.2.2.1 hq))
  replace hV : SV (zB H.size) ac2 0 s H := hV
  refine va_ldcS hx hb hown hr2 dX6_text_12 ?_
  exact W.widen (k := 0) (n := 0) (by omega) (by omega) (W.filt (fun locs1 hl1 => W.aret (v := .ref ac2) hx hb hr (Or.inl ⟨_, rfl⟩) (Or.inr ⟨_, rfl⟩) (fun t9 ht9 hW9 => ⟨⟨(mN M (1, M.2.2.2.1, M.2.2.2.2.1, M.2.2.2.2.2)), _, rfl, rfl, hX.P ht9 hW9⟩, (hX.2.2.2.F ht9).Y⟩) (free_Y hX.2.2.2 hl1) dX6_text_14))
set_option maxHeartbeats 4000000 in
set_option maxRecDepth 100000 in
theorem o_X6_orderText_1 (l : Launch) (dC : Nat → ClassId) (dI : Nat → Nat → Nat) (cB : ClassId) (am : Nat → Nat) (M : MS) (x9 : Int32) (hb9 : x9 < 0 ∨ nI 4 ≤ x9) : Met l yX6_orderText wsX6_orderText ({ frames := 6, cells := 0, slots := 0, locals := 151 } : Room) (va_Pc [.ref (am 0), .int x9] (PMT dC dI cB am M)) (va_Qr (fun M1 : MS => M1 = thM M 1) (fun M1 _ t => PM dC dI am M1 t) (AM am)) 0 0 (AM am) := by
  refine Met.ofW (cc := cX6_orderText) (maxL := 4) (ret := (some (.object "java/lang/String"))) pl_X6 rfl ?_
  intro p e s m args below meth c s₁ B hml hv
  obtain ⟨rfl, hPM⟩ := hv
  have hx := B.exec
  have hb := B.bytes
  have hr := B.returns
  have hts := atoms_spec (ws := wsX6_orderText) B.pre
  have hown : s.vm.findClass RX6 = some m.cls := findClass_of_methodNamed B.named
  have hlocks := B.notSynchronized
  have hin6 : ∀ w ∈ u_ws RX6 TX6 10, w ∈ wsX6_orderText := tu 1331 (by decide +kernel) rfl
  have hK := KT.of hPM
  have hCM := hPM.2.2.2
  have hX := WM.ofY hPM.1
  have hl := lv_entry ([.ref (am 0), .int x9]) (n := 4) (Nat.le_of_ble_eq_true rfl)
  rw [lg_entry_eq]
  generalize (lg_sl ([.ref (am 0), .int x9]) ++ List.replicate (4 - (lg_sl ([.ref (am 0), .int x9])).length) Slot.unset).toArray = ls at hl ⊢
  have hl : lv_has ls 4 [(0, .ref (am 0)), (1, .int x9)] := hl
  show W p l e ({ frames := 6, cells := 0, slots := 0, locals := 151 } : Room) s m ([.ref (am 0), .int x9]).toArray below meth c s.heap [] 0 0 (MQ below (va_Qr (fun M1 : MS => M1 = thM M 1) (fun M1 _ t => PM dC dI am M1 t) (AM am)) ([.ref (am 0), .int x9]).toArray s 0 0 (AM am)) (F0 m 0 ls [])
  refine lv_aload_n hx hb dX6_orderText_0 rfl (lv_at hl 0 rfl) ?_
  refine lv_iload_n hx hb dX6_orderText_1 rfl (lv_at hl 1 rfl) ?_
  refine kx_cr (v := bI true) (va_runS (As := [.int x9]) (rest := [.ref (am 0)]) ⟨hx, hb, hml, hown, hts⟩ (m_X6_isNoOrder l dC dI am M x9) (va_cwS 1 hts gX6_orderText_X6_isNoOrder rfl rfl rfl hdX6_isNoOrder_1.2 ⟨Nat.le_of_ble_eq_true rfl, Nat.le_of_ble_eq_true rfl⟩) hX.preS rfl rfl hl.1 rfl (lv_room (Nat.le_of_ble_eq_true rfl)) dX6_orderText_2 ⟨Nat.le_of_ble_eq_true rfl, Nat.le_of_ble_eq_true rfl⟩) (fun _ h => h.trans (isNo_bad (isNo_o hb9))) ?_
  refine lv_iconst (v := nI 1) hx hb dX6_orderText_5 (by decide) ?_
  refine km_ci (va_runV (As := [.int (bI true), .int (nI 1)]) (rest := []) ⟨hx, hb, hml, hown, hts⟩ (m_X6_start l dC dI am M true 1 (by omega)) (cwV 2 hts gX6_orderText_X6_start rfl rfl rfl hdX6_start_2 ⟨Nat.le_of_ble_eq_true rfl, Nat.le_of_ble_eq_true rfl⟩) (hX.preObj) rfl rfl hl.1 rfl (lv_room (Nat.le_of_ble_eq_true rfl)) dX6_orderText_6 ⟨Nat.le_of_ble_eq_true rfl, Nat.le_of_ble_eq_true rfl⟩) hX (fun _ h => Or.inl h) (fun r_ S_ H locs hw hX => ?_)
  obtain ⟨rfl, rfl⟩ := hw
  refine kb_if_eq (tgt := 15) hx hb dX6_orderText_9 (by decide) (fun k_1 => absurd k_1 (by decide)) (fun k_1 => ?_)
  obtain ⟨ac2, hr2, hV⟩ := CM.at hCM hX (A := (zB H.size)) (c := (95, "", 0)) (by decide) (fun q hq => Or.inr (Nat.le_trans hX.2.2.2.1 hq))
  replace hV : SV (zB H.size) ac2 0 s H := hV
  refine va_ldcS hx hb hown hr2 dX6_orderText_12 ?_
  exact W.widen (k := 0) (n := 0) (by omega) (by omega) (W.filt (fun locs1 hl1 => W.aret (v := .ref ac2) hx hb hr (Or.inl ⟨_, rfl⟩) (Or.inr ⟨_, rfl⟩) (fun t9 ht9 hW9 => ⟨⟨(mN M (1, M.2.2.2.1, M.2.2.2.2.1, M.2.2.2.2.2)), _, rfl, rfl, hX.P ht9 hW9⟩, (hX.2.2.2.F ht9).Y⟩) (free_Y hX.2.2.2 hl1) dX6_orderText_14))
set_option maxHeartbeats 4000000 in
set_option maxRecDepth 100000 in
theorem o_X6_groups_1 (l : Launch) (dC : Nat → ClassId) (dI : Nat → Nat → Nat) (cB : ClassId) (am : Nat → Nat) (M : MS) (x9 : Int32) (y1 : Int32) (hb9 : x9 < 0 ∨ nI 3 ≤ x9) : Met l yX6_groups wsX6_groups ({ frames := 6, cells := 0, slots := 0, locals := 151 } : Room) (va_Pc [.ref (am 0), .int x9, .int y1] (PMT dC dI cB am M)) (va_Qr (fun M1 : MS => M1 = thM M 1) (fun M1 _ t => PM dC dI am M1 t) (AM am)) 0 0 (AM am) := by
  refine Met.ofW (cc := cX6_groups) (maxL := 8) (ret := (some (.object "java/lang/String"))) pl_X6 rfl ?_
  intro p e s m args below meth c s₁ B hml hv
  obtain ⟨rfl, hPM⟩ := hv
  have hx := B.exec
  have hb := B.bytes
  have hr := B.returns
  have hts := atoms_spec (ws := wsX6_groups) B.pre
  have hown : s.vm.findClass RX6 = some m.cls := findClass_of_methodNamed B.named
  have hlocks := B.notSynchronized
  have hin6 : ∀ w ∈ u_ws RX6 TX6 10, w ∈ wsX6_groups := tu 1331 (by decide +kernel) rfl
  have hK := KT.of hPM
  have hCM := hPM.2.2.2
  have hX := WM.ofY hPM.1
  have hl := lv_entry ([.ref (am 0), .int x9, .int y1]) (n := 8) (Nat.le_of_ble_eq_true rfl)
  rw [lg_entry_eq]
  generalize (lg_sl ([.ref (am 0), .int x9, .int y1]) ++ List.replicate (8 - (lg_sl ([.ref (am 0), .int x9, .int y1])).length) Slot.unset).toArray = ls at hl ⊢
  have hl : lv_has ls 8 [(0, .ref (am 0)), (1, .int x9), (2, .int y1)] := hl
  show W p l e ({ frames := 6, cells := 0, slots := 0, locals := 151 } : Room) s m ([.ref (am 0), .int x9, .int y1]).toArray below meth c s.heap [] 0 0 (MQ below (va_Qr (fun M1 : MS => M1 = thM M 1) (fun M1 _ t => PM dC dI am M1 t) (AM am)) ([.ref (am 0), .int x9, .int y1]).toArray s 0 0 (AM am)) (F0 m 0 ls [])
  refine lv_aload_n hx hb dX6_groups_0 rfl (lv_at hl 0 rfl) ?_
  refine lv_iload_n hx hb dX6_groups_1 rfl (lv_at hl 1 rfl) ?_
  refine kx_cr (v := bI true) (va_runS (As := [.int x9]) (rest := [.ref (am 0)]) ⟨hx, hb, hml, hown, hts⟩ (m_X6_isNoRow l dC dI am M x9) (va_cwS 1 hts gX6_groups_X6_isNoRow rfl rfl rfl hdX6_isNoRow_1.2 ⟨Nat.le_of_ble_eq_true rfl, Nat.le_of_ble_eq_true rfl⟩) hX.preS rfl rfl hl.1 rfl (lv_room (Nat.le_of_ble_eq_true rfl)) dX6_groups_2 ⟨Nat.le_of_ble_eq_true rfl, Nat.le_of_ble_eq_true rfl⟩) (fun _ h => h.trans (isNo_bad (isNo_r hb9))) ?_
  refine kb_if_ne (tgt := 15) hx hb dX6_groups_5 (by decide) (fun k_1 => ?_) (fun k_1 => absurd k_1 (by decide))
  refine lv_iconst (v := nI 1) hx hb dX6_groups_15 (by decide) ?_
  refine lv_goto (tgt := 20) hx hb dX6_groups_16 (by decide) ?_
  refine lv_iconst (v := nI 1) hx hb dX6_groups_20 (by decide) ?_
  refine km_ci (va_runV (As := [.int (nI 1), .int (nI 1)]) (rest := []) ⟨hx, hb, hml, hown, hts⟩ (m_X6_start l dC dI am M true 1 (by omega)) (cwV 2 hts gX6_groups_X6_start rfl rfl rfl hdX6_start_2 ⟨Nat.le_of_ble_eq_true rfl, Nat.le_of_ble_eq_true rfl⟩) (hX.preObj) rfl rfl hl.1 rfl (lv_room (Nat.le_of_ble_eq_true rfl)) dX6_groups_21 ⟨Nat.le_of_ble_eq_true rfl, Nat.le_of_ble_eq_true rfl⟩) hX (fun _ h => Or.inl h) (fun r_ S_ H locs hw hX => ?_)
  obtain ⟨rfl, rfl⟩ := hw
  refine kb_if_eq (tgt := 30) hx hb dX6_groups_24 (by decide) (fun k_2 => absurd k_2 (by decide)) (fun k_2 => ?_)
  obtain ⟨ac3, hr3, hV⟩ := CM.at hCM hX (A := (zB H.size)) (c := (95, "", 0)) (by decide) (fun q hq => Or.inr (Nat.le_trans hX.2.2.2.1 hq))
  replace hV : SV (zB H.size) ac3 0 s H := hV
  refine va_ldcS hx hb hown hr3 dX6_groups_27 ?_
  exact W.widen (k := 0) (n := 0) (by omega) (by omega) (W.filt (fun locs1 hl1 => W.aret (v := .ref ac3) hx hb hr (Or.inl ⟨_, rfl⟩) (Or.inr ⟨_, rfl⟩) (fun t9 ht9 hW9 => ⟨⟨(mN M (1, M.2.2.2.1, M.2.2.2.2.1, M.2.2.2.2.2)), _, rfl, rfl, hX.P ht9 hW9⟩, (hX.2.2.2.F ht9).Y⟩) (free_Y hX.2.2.2 hl1) dX6_groups_29))
set_option maxHeartbeats 4000000 in
set_option maxRecDepth 100000 in
theorem o_X6_groups_2 (l : Launch) (dC : Nat → ClassId) (dI : Nat → Nat → Nat) (cB : ClassId) (am : Nat → Nat) (M : MS) (i : Nat) (x9 : Int32) (hi : i < 3) (hb9 : x9 < 0 ∨ nI 4 ≤ x9) : Met l yX6_groups wsX6_groups ({ frames := 6, cells := 0, slots := 0, locals := 151 } : Room) (va_Pc [.ref (am 0), .int (nI i), .int x9] (PMT dC dI cB am M)) (va_Qr (fun M1 : MS => M1 = thM M 1) (fun M1 _ t => PM dC dI am M1 t) (AM am)) 0 0 (AM am) := by
  refine Met.ofW (cc := cX6_groups) (maxL := 8) (ret := (some (.object "java/lang/String"))) pl_X6 rfl ?_
  intro p e s m args below meth c s₁ B hml hv
  obtain ⟨rfl, hPM⟩ := hv
  have hx := B.exec
  have hb := B.bytes
  have hr := B.returns
  have hts := atoms_spec (ws := wsX6_groups) B.pre
  have hown : s.vm.findClass RX6 = some m.cls := findClass_of_methodNamed B.named
  have hlocks := B.notSynchronized
  have hin6 : ∀ w ∈ u_ws RX6 TX6 10, w ∈ wsX6_groups := tu 1331 (by decide +kernel) rfl
  have hK := KT.of hPM
  have hCM := hPM.2.2.2
  have hX := WM.ofY hPM.1
  have hl := lv_entry ([.ref (am 0), .int (nI i), .int x9]) (n := 8) (Nat.le_of_ble_eq_true rfl)
  rw [lg_entry_eq]
  generalize (lg_sl ([.ref (am 0), .int (nI i), .int x9]) ++ List.replicate (8 - (lg_sl ([.ref (am 0), .int (nI i), .int x9])).length) Slot.unset).toArray = ls at hl ⊢
  have hl : lv_has ls 8 [(0, .ref (am 0)), (1, .int (nI i)), (2, .int x9)] := hl
  show W p l e ({ frames := 6, cells := 0, slots := 0, locals := 151 } : Room) s m ([.ref (am 0), .int (nI i), .int x9]).toArray below meth c s.heap [] 0 0 (MQ below (va_Qr (fun M1 : MS => M1 = thM M 1) (fun M1 _ t => PM dC dI am M1 t) (AM am)) ([.ref (am 0), .int (nI i), .int x9]).toArray s 0 0 (AM am)) (F0 m 0 ls [])
  refine lv_aload_n hx hb dX6_groups_0 rfl (lv_at hl 0 rfl) ?_
  refine lv_iload_n hx hb dX6_groups_1 rfl (lv_at hl 1 rfl) ?_
  refine kx_cr (v := bI false) (va_runS (As := [.int (nI i)]) (rest := [.ref (am 0)]) ⟨hx, hb, hml, hown, hts⟩ (m_X6_isNoRow l dC dI am M (nI i)) (va_cwS 1 hts gX6_groups_X6_isNoRow rfl rfl rfl hdX6_isNoRow_1.2 ⟨Nat.le_of_ble_eq_true rfl, Nat.le_of_ble_eq_true rfl⟩) hX.preS rfl rfl hl.1 rfl (lv_room (Nat.le_of_ble_eq_true rfl)) dX6_groups_2 ⟨Nat.le_of_ble_eq_true rfl, Nat.le_of_ble_eq_true rfl⟩) (fun _ h => h.trans (isNo_ok (by omega) (by omega))) ?_
  refine kb_if_ne (tgt := 15) hx hb dX6_groups_5 (by decide) (fun k_1 => absurd k_1 (by decide)) (fun k_1 => ?_)
  refine lv_iload_n hx hb dX6_groups_8 rfl (lv_at hl 2 rfl) ?_
  refine kx_cr (v := bI true) (va_runS (As := [.int x9]) (rest := [.ref (am 0)]) ⟨hx, hb, hml, hown, hts⟩ (m_X6_isNoOrder l dC dI am M x9) (va_cwS 1 hts gX6_groups_X6_isNoOrder rfl rfl rfl hdX6_isNoOrder_1.2 ⟨Nat.le_of_ble_eq_true rfl, Nat.le_of_ble_eq_true rfl⟩) hX.preS rfl rfl hl.1 rfl (lv_room (Nat.le_of_ble_eq_true rfl)) dX6_groups_9 ⟨Nat.le_of_ble_eq_true rfl, Nat.le_of_ble_eq_true rfl⟩) (fun _ h => h.trans (isNo_bad (isNo_o hb9))) ?_
  refine kb_if_eq (tgt := 19) hx hb dX6_groups_12 (by decide) (fun k_2 => absurd k_2 (by decide)) (fun k_2 => ?_)
  refine lv_iconst (v := nI 1) hx hb dX6_groups_15 (by decide) ?_
  refine lv_goto (tgt := 20) hx hb dX6_groups_16 (by decide) ?_
  refine lv_iconst (v := nI 1) hx hb dX6_groups_20 (by decide) ?_
  refine km_ci (va_runV (As := [.int (nI 1), .int (nI 1)]) (rest := []) ⟨hx, hb, hml, hown, hts⟩ (m_X6_start l dC dI am M true 1 (by omega)) (cwV 2 hts gX6_groups_X6_start rfl rfl rfl hdX6_start_2 ⟨Nat.le_of_ble_eq_true rfl, Nat.le_of_ble_eq_true rfl⟩) (hX.preObj) rfl rfl hl.1 rfl (lv_room (Nat.le_of_ble_eq_true rfl)) dX6_groups_21 ⟨Nat.le_of_ble_eq_true rfl, Nat.le_of_ble_eq_true rfl⟩) hX (fun _ h => Or.inl h) (fun r_ S_ H locs hw hX => ?_)
  obtain ⟨rfl, rfl⟩ := hw
  refine kb_if_eq (tgt := 30) hx hb dX6_groups_24 (by decide) (fun k_3 => absurd k_3 (by decide)) (fun k_3 => ?_)
  obtain ⟨ac4, hr4, hV⟩ := CM.at hCM hX (A := (zB H.size)) (c := (95, "", 0)) (by decide) (fun q hq => Or.inr (Nat.le_trans hX.2.2.2.1 hq))
  replace hV : SV (zB H.size) ac4 0 s H := hV
  refine va_ldcS hx hb hown hr4 dX6_groups_27 ?_
  exact W.widen (k := 0) (n := 0) (by omega) (by omega) (W.filt (fun locs1 hl1 => W.aret (v := .ref ac4) hx hb hr (Or.inl ⟨_, rfl⟩) (Or.inr ⟨_, rfl⟩) (fun t9 ht9 hW9 => ⟨⟨(mN M (1, M.2.2.2.1, M.2.2.2.2.1, M.2.2.2.2.2)), _, rfl, rfl, hX.P ht9 hW9⟩, (hX.2.2.2.F ht9).Y⟩) (free_Y hX.2.2.2 hl1) dX6_groups_29))
set_option maxHeartbeats 4000000 in
set_option maxRecDepth 100000 in
theorem o_X6_ranks_1 (l : Launch) (dC : Nat → ClassId) (dI : Nat → Nat → Nat) (cB : ClassId) (am : Nat → Nat) (M : MS) (x9 : Int32) (y1 : Int32) (z : Bool) (hb9 : x9 < 0 ∨ nI 3 ≤ x9) : Met l yX6_ranks wsX6_ranks ({ frames := 6, cells := 0, slots := 0, locals := 151 } : Room) (va_Pc [.ref (am 0), .int x9, .int y1, .int (bI z)] (PMT dC dI cB am M)) (va_Qr (fun M1 : MS => M1 = thM M 1) (fun M1 _ t => PM dC dI am M1 t) (AM am)) 0 0 (AM am) := by
  refine Met.ofW (cc := cX6_ranks) (maxL := 8) (ret := (some (.object "java/lang/String"))) pl_X6 rfl ?_
  intro p e s m args below meth c s₁ B hml hv
  obtain ⟨rfl, hPM⟩ := hv
  have hx := B.exec
  have hb := B.bytes
  have hr := B.returns
  have hts := atoms_spec (ws := wsX6_ranks) B.pre
  have hown : s.vm.findClass RX6 = some m.cls := findClass_of_methodNamed B.named
  have hlocks := B.notSynchronized
  have hin6 : ∀ w ∈ u_ws RX6 TX6 10, w ∈ wsX6_ranks := tu 1331 (by decide +kernel) rfl
  have hK := KT.of hPM
  have hCM := hPM.2.2.2
  have hX := WM.ofY hPM.1
  have hl := lv_entry ([.ref (am 0), .int x9, .int y1, .int (bI z)]) (n := 8) (Nat.le_of_ble_eq_true rfl)
  rw [lg_entry_eq]
  generalize (lg_sl ([.ref (am 0), .int x9, .int y1, .int (bI z)]) ++ List.replicate (8 - (lg_sl ([.ref (am 0), .int x9, .int y1, .int (bI z)])).length) Slot.unset).toArray = ls at hl ⊢
  have hl : lv_has ls 8 [(0, .ref (am 0)), (1, .int x9), (2, .int y1), (3, .int (bI z))] := hl
  show W p l e ({ frames := 6, cells := 0, slots := 0, locals := 151 } : Room) s m ([.ref (am 0), .int x9, .int y1, .int (bI z)]).toArray below meth c s.heap [] 0 0 (MQ below (va_Qr (fun M1 : MS => M1 = thM M 1) (fun M1 _ t => PM dC dI am M1 t) (AM am)) ([.ref (am 0), .int x9, .int y1, .int (bI z)]).toArray s 0 0 (AM am)) (F0 m 0 ls [])
  refine lv_aload_n hx hb dX6_ranks_0 rfl (lv_at hl 0 rfl) ?_
  refine lv_iload_n hx hb dX6_ranks_1 rfl (lv_at hl 1 rfl) ?_
  refine kx_cr (v := bI true) (va_runS (As := [.int x9]) (rest := [.ref (am 0)]) ⟨hx, hb, hml, hown, hts⟩ (m_X6_isNoRow l dC dI am M x9) (va_cwS 1 hts gX6_ranks_X6_isNoRow rfl rfl rfl hdX6_isNoRow_1.2 ⟨Nat.le_of_ble_eq_true rfl, Nat.le_of_ble_eq_true rfl⟩) hX.preS rfl rfl hl.1 rfl (lv_room (Nat.le_of_ble_eq_true rfl)) dX6_ranks_2 ⟨Nat.le_of_ble_eq_true rfl, Nat.le_of_ble_eq_true rfl⟩) (fun _ h => h.trans (isNo_bad (isNo_r hb9))) ?_
  refine kb_if_ne (tgt := 15) hx hb dX6_ranks_5 (by decide) (fun k_1 => ?_) (fun k_1 => absurd k_1 (by decide))
  refine lv_iconst (v := nI 1) hx hb dX6_ranks_15 (by decide) ?_
  refine lv_goto (tgt := 20) hx hb dX6_ranks_16 (by decide) ?_
  refine lv_iconst (v := nI 1) hx hb dX6_ranks_20 (by decide) ?_
  refine km_ci (va_runV (As := [.int (nI 1), .int (nI 1)]) (rest := []) ⟨hx, hb, hml, hown, hts⟩ (m_X6_start l dC dI am M true 1 (by omega)) (cwV 2 hts gX6_ranks_X6_start rfl rfl rfl hdX6_start_2 ⟨Nat.le_of_ble_eq_true rfl, Nat.le_of_ble_eq_true rfl⟩) (hX.preObj) rfl rfl hl.1 rfl (lv_room (Nat.le_of_ble_eq_true rfl)) dX6_ranks_21 ⟨Nat.le_of_ble_eq_true rfl, Nat.le_of_ble_eq_true rfl⟩) hX (fun _ h => Or.inl h) (fun r_ S_ H locs hw hX => ?_)
  obtain ⟨rfl, rfl⟩ := hw
  refine kb_if_eq (tgt := 30) hx hb dX6_ranks_24 (by decide) (fun k_2 => absurd k_2 (by decide)) (fun k_2 => ?_)
  obtain ⟨ac3, hr3, hV⟩ := CM.at hCM hX (A := (zB H.size)) (c := (95, "", 0)) (by decide) (fun q hq => Or.inr (Nat.le_trans hX.2.2.2.1 hq))
  replace hV : SV (zB H.size) ac3 0 s H := hV
  refine va_ldcS hx hb hown hr3 dX6_ranks_27 ?_
  exact W.widen (k := 0) (n := 0) (by omega) (by omega) (W.filt (fun locs1 hl1 => W.aret (v := .ref ac3) hx hb hr (Or.inl ⟨_, rfl⟩) (Or.inr ⟨_, rfl⟩) (fun t9 ht9 hW9 => ⟨⟨(mN M (1, M.2.2.2.1, M.2.2.2.2.1, M.2.2.2.2.2)), _, rfl, rfl, hX.P ht9 hW9⟩, (hX.2.2.2.F ht9).Y⟩) (free_Y hX.2.2.2 hl1) dX6_ranks_29))
set_option maxHeartbeats 4000000 in
set_option maxRecDepth 100000 in
theorem o_X6_ranks_2 (l : Launch) (dC : Nat → ClassId) (dI : Nat → Nat → Nat) (cB : ClassId) (am : Nat → Nat) (M : MS) (i : Nat) (x9 : Int32) (z : Bool) (hi : i < 3) (hb9 : x9 < 0 ∨ nI 4 ≤ x9) : Met l yX6_ranks wsX6_ranks ({ frames := 6, cells := 0, slots := 0, locals := 151 } : Room) (va_Pc [.ref (am 0), .int (nI i), .int x9, .int (bI z)] (PMT dC dI cB am M)) (va_Qr (fun M1 : MS => M1 = thM M 1) (fun M1 _ t => PM dC dI am M1 t) (AM am)) 0 0 (AM am) := by
  refine Met.ofW (cc := cX6_ranks) (maxL := 8) (ret := (some (.object "java/lang/String"))) pl_X6 rfl ?_
  intro p e s m args below meth c s₁ B hml hv
  obtain ⟨rfl, hPM⟩ := hv
  have hx := B.exec
  have hb := B.bytes
  have hr := B.returns
  have hts := atoms_spec (ws := wsX6_ranks) B.pre
  have hown : s.vm.findClass RX6 = some m.cls := findClass_of_methodNamed B.named
  have hlocks := B.notSynchronized
  have hin6 : ∀ w ∈ u_ws RX6 TX6 10, w ∈ wsX6_ranks := tu 1331 (by decide +kernel) rfl
  have hK := KT.of hPM
  have hCM := hPM.2.2.2
  have hX := WM.ofY hPM.1
  have hl := lv_entry ([.ref (am 0), .int (nI i), .int x9, .int (bI z)]) (n := 8) (Nat.le_of_ble_eq_true rfl)
  rw [lg_entry_eq]
  generalize (lg_sl ([.ref (am 0), .int (nI i), .int x9, .int (bI z)]) ++ List.replicate (8 - (lg_sl ([.ref (am 0), .int (nI i), .int x9, .int (bI z)])).length) Slot.unset).toArray = ls at hl ⊢
  have hl : lv_has ls 8 [(0, .ref (am 0)), (1, .int (nI i)), (2, .int x9), (3, .int (bI z))] := hl
  show W p l e ({ frames := 6, cells := 0, slots := 0, locals := 151 } : Room) s m ([.ref (am 0), .int (nI i), .int x9, .int (bI z)]).toArray below meth c s.heap [] 0 0 (MQ below (va_Qr (fun M1 : MS => M1 = thM M 1) (fun M1 _ t => PM dC dI am M1 t) (AM am)) ([.ref (am 0), .int (nI i), .int x9, .int (bI z)]).toArray s 0 0 (AM am)) (F0 m 0 ls [])
  refine lv_aload_n hx hb dX6_ranks_0 rfl (lv_at hl 0 rfl) ?_
  refine lv_iload_n hx hb dX6_ranks_1 rfl (lv_at hl 1 rfl) ?_
  refine kx_cr (v := bI false) (va_runS (As := [.int (nI i)]) (rest := [.ref (am 0)]) ⟨hx, hb, hml, hown, hts⟩ (m_X6_isNoRow l dC dI am M (nI i)) (va_cwS 1 hts gX6_ranks_X6_isNoRow rfl rfl rfl hdX6_isNoRow_1.2 ⟨Nat.le_of_ble_eq_true rfl, Nat.le_of_ble_eq_true rfl⟩) hX.preS rfl rfl hl.1 rfl (lv_room (Nat.le_of_ble_eq_true rfl)) dX6_ranks_2 ⟨Nat.le_of_ble_eq_true rfl, Nat.le_of_ble_eq_true rfl⟩) (fun _ h => h.trans (isNo_ok (by omega) (by omega))) ?_
  refine kb_if_ne (tgt := 15) hx hb dX6_ranks_5 (by decide) (fun k_1 => absurd k_1 (by decide)) (fun k_1 => ?_)
  refine lv_iload_n hx hb dX6_ranks_8 rfl (lv_at hl 2 rfl) ?_
  refine kx_cr (v := bI true) (va_runS (As := [.int x9]) (rest := [.ref (am 0)]) ⟨hx, hb, hml, hown, hts⟩ (m_X6_isNoOrder l dC dI am M x9) (va_cwS 1 hts gX6_ranks_X6_isNoOrder rfl rfl rfl hdX6_isNoOrder_1.2 ⟨Nat.le_of_ble_eq_true rfl, Nat.le_of_ble_eq_true rfl⟩) hX.preS rfl rfl hl.1 rfl (lv_room (Nat.le_of_ble_eq_true rfl)) dX6_ranks_9 ⟨Nat.le_of_ble_eq_true rfl, Nat.le_of_ble_eq_true rfl⟩) (fun _ h => h.trans (isNo_bad (isNo_o hb9))) ?_
  refine kb_if_eq (tgt := 19) hx hb dX6_ranks_12 (by decide) (fun k_2 => absurd k_2 (by decide)) (fun k_2 => ?_)
  refine lv_iconst (v := nI 1) hx hb dX6_ranks_15 (by decide) ?_
  refine lv_goto (tgt := 20) hx hb dX6_ranks_16 (by decide) ?_
  refine lv_iconst (v := nI 1) hx hb dX6_ranks_20 (by decide) ?_
  refine km_ci (va_runV (As := [.int (nI 1), .int (nI 1)]) (rest := []) ⟨hx, hb, hml, hown, hts⟩ (m_X6_start l dC dI am M true 1 (by omega)) (cwV 2 hts gX6_ranks_X6_start rfl rfl rfl hdX6_start_2 ⟨Nat.le_of_ble_eq_true rfl, Nat.le_of_ble_eq_true rfl⟩) (hX.preObj) rfl rfl hl.1 rfl (lv_room (Nat.le_of_ble_eq_true rfl)) dX6_ranks_21 ⟨Nat.le_of_ble_eq_true rfl, Nat.le_of_ble_eq_true rfl⟩) hX (fun _ h => Or.inl h) (fun r_ S_ H locs hw hX => ?_)
  obtain ⟨rfl, rfl⟩ := hw
  refine kb_if_eq (tgt := 30) hx hb dX6_ranks_24 (by decide) (fun k_3 => absurd k_3 (by decide)) (fun k_3 => ?_)
  obtain ⟨ac4, hr4, hV⟩ := CM.at hCM hX (A := (zB H.size)) (c := (95, "", 0)) (by decide) (fun q hq => Or.inr (Nat.le_trans hX.2.2.2.1 hq))
  replace hV : SV (zB H.size) ac4 0 s H := hV
  refine va_ldcS hx hb hown hr4 dX6_ranks_27 ?_
  exact W.widen (k := 0) (n := 0) (by omega) (by omega) (W.filt (fun locs1 hl1 => W.aret (v := .ref ac4) hx hb hr (Or.inl ⟨_, rfl⟩) (Or.inr ⟨_, rfl⟩) (fun t9 ht9 hW9 => ⟨⟨(mN M (1, M.2.2.2.1, M.2.2.2.2.1, M.2.2.2.2.2)), _, rfl, rfl, hX.P ht9 hW9⟩, (hX.2.2.2.F ht9).Y⟩) (free_Y hX.2.2.2 hl1) dX6_ranks_29))
end
section
/-! lots told, with a tight bound of room -/
def GapQ2 (n cp : Nat) (u : Nat × Nat × Nat × (Nat → Int32)) : Prop := n ≤ u.2.1 ∧ GapQ n cp u
def LotQ2 (n cp : Nat) (u : Nat × Nat × Nat × (Nat → Int32)) : Prop := u.2.1 ≤ n + 10 ∧ u.2.1 ≤ u.2.2.1 ∧ cp ≤ u.2.2.1 ∧ u.2.2.1 ≤ 2 * (u.2.1 + 8) ∧ sb_Fit u.2.2.2
theorem dg_1 (v : Nat) : 1 ≤ sb_dg v := by unfold sb_dg; (repeat' split) <;> omega
def slL : Nat → Nat
  | 0 => 0
  | k + 1 => slL k + (20 * k + 72)
theorem slL_s (k : Nat) : slL (k + 1) = slL k + (20 * k + 72) := rfl
theorem slL_mono : ∀ {n k : Nat}, k ≤ n → slL k ≤ slL n
  | 0, k, h => by rw [Nat.le_zero.mp h]; exact Nat.le_refl _
  | n + 1, k, h => by
    by_cases e : k = n + 1
    · rw [e]; exact Nat.le_refl _
    · exact Nat.le_trans (slL_mono (show k ≤ n by omega)) (by rw [slL_s]; exact Nat.le_add_right _ _)
section KTA2
variable {p : Program} {l : Launch} {e : Env} {R : Room} {s : State} {m : MethodId} {args : Array Value} {below : List Frame} {meth : Method} {c : Code} {H : Heap} {locs : List Loc} {cells c0 : Nat} {Q : State → Prop}
variable {pc : Nat} {ls : Array Slot} {rest st0 : List Value} {dC : Nat → ClassId} {dI : Nat → Nat → Nat} {cB : ClassId} {ad : Nat → Nat} {z : Nat} {S : XS} {av : Array Value} {a b n cp n2 : Nat} {f : Nat → Int32}
theorem kt_app2 (N : Nat) (hr : va_Run p l e R s m args below meth c H locs cells (2 * cp - 2 * c0) 1 (gm n2 cp) (F0 m pc ls st0) rest (va_Qr (fun u : Nat × (Nat → Int32) => sb_Fit u.2) (fun u q9 t => q9 = a ∧ PB dC dI cB z [(a, eSB u.1 n2), (u.1, eBy cB (sb_cap n2 cp) u.2)] t) (zB z) av) (zB z)) (hX : WX dC dI ad S (AZ ad z) s H locs) (hT : TB dC dI cB ad z [(a, eSB b n), (b, eBy cB cp f)] s H) (hq : n2 ≤ N) (hc : cp ≤ 2 * N) (h0 : c0 ≤ cp)
    (kk : ∀ (b2 c2 : Nat) (f2 : Nat → Int32) (H1 : Heap) (locs1 : List Loc), WX dC dI ad S (AZ ad z) s H1 locs1 → TB dC dI cB ad z [(a, eSB b2 n2), (b2, eBy cB c2 f2)] s H1 → sb_Fit f2 → n2 ≤ c2 → cp ≤ c2 → c2 ≤ 2 * N → W p l e R s m args below meth c H1 locs1 (cells + 1) (2 * c2 - 2 * c0) Q (F0 m (pc + 3) ls (.ref a :: rest))) : W p l e R s m args below meth c H locs cells (2 * cp - 2 * c0) Q (F0 m pc ls st0) := by
  refine kt_r hr hX hT (fun u q9 H1 locs1 hu hq9 hX1 hT1 => ?_)
  rw [hq9]
  refine W.widen (Nat.le_refl _) (show 2 * cp - 2 * c0 + gm n2 cp ≤ 2 * sb_cap n2 cp - 2 * c0 by have := gm_pot n2 cp; omega) ?_
  exact kk u.1 (sb_cap n2 cp) u.2 H1 locs1 hX1 hT1 hu (sb_cap_ge _ _) (sb_cap_gem _ _) (cap_b hq hc)
theorem kt_gap2 (N : Nat) (hr : va_Run p l e R s m args below meth c H locs cells (2 * cp - 2 * c0) 1 (gm (n + 1) cp) (F0 m pc ls st0) rest (va_Qv (GapQ2 n cp) (fun u t => PB dC dI cB z [(a, eSB u.1 u.2.1), (u.1, eBy cB u.2.2.1 u.2.2.2)] t) (zB z) av) (zB z)) (hX : WX dC dI ad S (AZ ad z) s H locs) (hT : TB dC dI cB ad z [(a, eSB b n), (b, eBy cB cp f)] s H) (hq : n + 1 ≤ N) (hc : cp ≤ 2 * N) (h00 : c0 ≤ cp)
    (kk : ∀ (b2 n2 c2 : Nat) (f2 : Nat → Int32) (H1 : Heap) (locs1 : List Loc), WX dC dI ad S (AZ ad z) s H1 locs1 → TB dC dI cB ad z [(a, eSB b2 n2), (b2, eBy cB c2 f2)] s H1 → sb_Fit f2 → n ≤ n2 → n2 ≤ n + 1 → n2 ≤ c2 → cp ≤ c2 → c2 ≤ 2 * N → W p l e R s m args below meth c H1 locs1 (cells + 1) (2 * c2 - 2 * c0) Q (F0 m (pc + 3) ls rest)) : W p l e R s m args below meth c H locs cells (2 * cp - 2 * c0) Q (F0 m pc ls st0) := by
  refine kt_v hr hX hT (fun u H1 locs1 hu hX1 hT1 => ?_)
  obtain ⟨h0, h1, h2, h3, h4, h5, h6⟩ := hu
  refine W.widen (Nat.le_refl _) (show 2 * cp - 2 * c0 + gm (n + 1) cp ≤ 2 * u.2.2.1 - 2 * c0 by omega) ?_
  refine kk u.1 u.2.1 u.2.2.1 u.2.2.2 H1 locs1 hX1 hT1 h6 h0 h1 h2 h3 ?_
  rcases h5 with h5 | h5
  · rw [h5]; exact hc
  · rw [h5]; exact cap_b hq hc
end KTA2
set_option maxHeartbeats 4000000 in
set_option maxRecDepth 100000 in
theorem n_X4_appendGap (l : Launch) (dC : Nat → ClassId) (dI : Nat → Nat → Nat) (cB : ClassId) (z : Nat) (a b n cp : Nat) (f : Nat → Int32) (hnm : n ≤ cp) (hm : cp ≤ 65536) (hf : sb_Fit f) (h1 : 1 ≤ cp) (hcap : sb_cap (n + 1) cp ≤ 65536) : Met l yX4_appendGap wsX4_appendGap ({ frames := 6, cells := 1, slots := (gm (n + 1) cp), locals := 126 } : Room) (va_Pc [.ref a] (PB dC dI cB z [(a, eSB b n), (b, eBy cB cp f)])) (va_Qv (GapQ2 n cp) (fun u t => PB dC dI cB z [(a, eSB u.1 u.2.1), (u.1, eBy cB u.2.2.1 u.2.2.2)] t) (zB z)) 1 (gm (n + 1) cp) (zB z) := by
  refine ofWF (cc := cX4_appendGap) (maxL := 1) (ret := none) (by decide +kernel) rfl ?_
  intro p e s m args below meth c s₁ B hml hv
  obtain ⟨rfl, hPB⟩ := hv
  have hx := B.exec
  have hb := B.bytes
  have hr := B.returns
  have hts := atoms_spec (ws := wsX4_appendGap) B.pre
  have hown : s.vm.findClass RX4 = some m.cls := findClass_of_methodNamed B.named
  have hlocks := B.notSynchronized
  have hB := WB.of hPB
  have hl := lv_entry ([.ref a]) (n := 1) (Nat.le_of_ble_eq_true rfl)
  rw [lg_entry_eq]
  generalize (lg_sl ([.ref a]) ++ List.replicate (1 - (lg_sl ([.ref a])).length) Slot.unset).toArray = ls at hl ⊢
  have hl : lv_has ls 1 [(0, .ref a)] := hl
  show W p l e ({ frames := 6, cells := 1, slots := (gm (n + 1) cp), locals := 126 } : Room) s m ([.ref a]).toArray below meth c s.heap [] 0 0 (MQ below (va_Qv (GapQ2 n cp) (fun u t => PB dC dI cB z [(a, eSB u.1 u.2.1), (u.1, eBy cB u.2.2.1 u.2.2.2)] t) (zB z)) ([.ref a]).toArray s 1 (gm (n + 1) cp) (zB z)) (F0 m 0 ls [])
  refine lv_aload_n hx hb dX4_appendGap_0 rfl (lv_at hl 0 rfl) ?_
  refine kx_cr (v := nI n) (va_runV (As := []) (rest := []) ⟨hx, hb, hml, hown, hts⟩ (m_J4_length_8abf5 l dC dI cB z ([(a, eSB b n), (b, eBy cB cp f)]) a b n rfl) (cwV 0 hts gX4_appendGap_J4_length_8abf5 rfl rfl rfl hdJ4_length_8abf5_0 ⟨Nat.le_of_ble_eq_true rfl, Nat.le_of_ble_eq_true rfl⟩) (hB.preV (ci := 1) (q := (RJ4, TJ4, 4)) rfl 0 rfl) rfl rfl hl.1 rfl (lv_room (Nat.le_of_ble_eq_true rfl)) dX4_appendGap_1 ⟨Nat.le_of_ble_eq_true rfl, Nat.le_of_ble_eq_true rfl⟩) (fun _ h => h) ?_
  refine kn_if_le (tgt := 14) hx hb (by omega) dX4_appendGap_4 (by decide) (fun k_1 => ?_) (fun k_1 => ?_)
  · skip
    have h0 := k_1
    exact W.widen (k := 1) (n := (gm (n + 1) cp)) (by simp) (by simp) (W.vret hx hb hr (fun t9 ht9 hW9 => ⟨⟨(b, n, cp, f), rfl, ⟨Nat.le_refl _, gap_0 h0 hnm h1 hf⟩, hB.P ht9 hW9⟩, hB.F ht9⟩) hB.L dX4_appendGap_14)
  · skip
    have h0 := k_1
    refine lv_aload_n hx hb dX4_appendGap_7 rfl (lv_at hl 0 rfl) ?_
    refine lv_bipush (v := nI 32) hx hb dX4_appendGap_8 (by decide) ?_
    refine kb_r (va_runV (As := [.int (nI 32)]) (rest := []) ⟨hx, hb, hml, hown, hts⟩ (m_J4_append_cf468 l dC dI cB z a b n cp f (by omega) (by omega) hf 32 (by omega) hcap) (cwV 1 hts gX4_appendGap_J4_append_cf468 rfl rfl rfl hdJ4_append_cf468_1 ⟨Nat.le_of_ble_eq_true rfl, Nat.le_of_ble_eq_true rfl⟩) (hB.preV (ci := 1) (q := (RJ4, TJ4, 4)) rfl 0 rfl) rfl rfl hl.1 rfl (lv_room (Nat.le_of_ble_eq_true rfl)) dX4_appendGap_10 ⟨by simp, by simp⟩) hB (fun u q9 H locs hu hq hB => ?_)
    obtain ⟨b3, f3⟩ := u
    rw [hq]
    replace hB : WB dC dI cB z [(a, eSB b3 (n + 1)), (b3, eBy cB (sb_cap (n + 1) cp) f3)] s H locs := hB
    have hf : sb_Fit f3 := hu
    refine lv_pop hx hb dX4_appendGap_13 rfl ?_
    exact W.widen (k := 1) (n := (gm (n + 1) cp)) (by simp) (by simp) (W.vret hx hb hr (fun t9 ht9 hW9 => ⟨⟨(b3, n + 1, sb_cap (n + 1) cp, f3), rfl, ⟨Nat.le_succ _, gap_1 hf⟩, hB.P ht9 hW9⟩, hB.F ht9⟩) hB.L dX4_appendGap_14)
set_option maxHeartbeats 4000000 in
set_option maxRecDepth 100000 in
theorem n_X2_appendLot (l : Launch) (dC : Nat → ClassId) (dI : Nat → Nat → Nat) (cB : ClassId) (ad : Nat → Nat) (S : XS) (i j r9 : Nat) (z a9 b n cp : Nat) (f : Nat → Int32) (hi : i < 8) (hj : j < 6) (hr9 : r9 ≤ 16) (hI : InvX S) (hn0 : n + 10 ≤ 160) (hnm : n ≤ cp) (hc9 : 16 ≤ cp ∧ cp ≤ 2 * (n + 8)) (hf : sb_Fit f) : Met l yX2_appendLot wsX2_appendLot ({ frames := 7, cells := 4, slots := 2 * n + 72, locals := 146 } : Room) (va_Pc [.ref (ad (3 * i)), .ref a9, .ref (ad (24 + 5 * j)), .int (nI r9)] (PL dC dI cB ad S z a9 b n cp f)) (va_Qv (LotQ2 n cp) (fun u t => PX dC dI ad S t ∧ PB dC dI cB z [(a9, eSB u.1 u.2.1), (u.1, eBy cB u.2.2.1 u.2.2.2)] t) (AZ ad z)) 4 (2 * n + 72) (AZ ad z) := by
  refine Met.ofW (cc := cX2_appendLot) (maxL := 7) (ret := none) pl_X2 rfl ?_
  intro p e s m args below meth c s₁ B hml hv
  obtain ⟨rfl, hPT⟩ := hv
  have hx := B.exec
  have hb := B.bytes
  have hr := B.returns
  have hts := atoms_spec (ws := wsX2_appendLot) B.pre
  have hown : s.vm.findClass RX2 = some m.cls := findClass_of_methodNamed B.named
  have hlocks := B.notSynchronized
  have hin2 : ∀ w ∈ u_ws RX2 TX2 3, w ∈ wsX2_appendLot := tu 1322 (by decide +kernel) rfl
  have hN : NT s := hPT.2.2.2.2
  have hX := WX.ofL hPT
  have hT := TB.ofL hPT
  have hl := lv_entry ([.ref (ad (3 * i)), .ref a9, .ref (ad (24 + 5 * j)), .int (nI r9)]) (n := 7) (Nat.le_of_ble_eq_true rfl)
  rw [lg_entry_eq]
  generalize (lg_sl ([.ref (ad (3 * i)), .ref a9, .ref (ad (24 + 5 * j)), .int (nI r9)]) ++ List.replicate (7 - (lg_sl ([.ref (ad (3 * i)), .ref a9, .ref (ad (24 + 5 * j)), .int (nI r9)])).length) Slot.unset).toArray = ls at hl ⊢
  have hl : lv_has ls 7 [(0, .ref (ad (3 * i))), (1, .ref a9), (2, .ref (ad (24 + 5 * j))), (3, .int (nI r9))] := hl
  show W p l e ({ frames := 7, cells := 4, slots := 2 * n + 72, locals := 146 } : Room) s m ([.ref (ad (3 * i)), .ref a9, .ref (ad (24 + 5 * j)), .int (nI r9)]).toArray below meth c s.heap [] 0 0 (MQ below (va_Qv (LotQ2 n cp) (fun u t => PX dC dI ad S t ∧ PB dC dI cB z [(a9, eSB u.1 u.2.1), (u.1, eBy cB u.2.2.1 u.2.2.2)] t) (AZ ad z)) ([.ref (ad (3 * i)), .ref a9, .ref (ad (24 + 5 * j)), .int (nI r9)]).toArray s 4 (2 * n + 72) (AZ ad z)) (F0 m 0 ls [])
  have hn := (hI.1 i (by omega)).1
  refine lv_iconst (v := (-1)) hx hb dX2_appendLot_0 (by decide) ?_
  refine lv_istore (lv' := [(4, .int (-1)), (0, .ref (ad (3 * i))), (1, .ref a9), (2, .ref (ad (24 + 5 * j))), (3, .int (nI r9))]) hx hb dX2_appendLot_1 hl (by decide) rfl (fun ls hl => ?_)
  refine lv_iconst (v := nI 0) hx hb dX2_appendLot_3 (by decide) ?_
  refine lv_istore (lv' := [(5, .int (nI 0)), (4, .int (-1)), (0, .ref (ad (3 * i))), (1, .ref a9), (2, .ref (ad (24 + 5 * j))), (3, .int (nI r9))]) hx hb dX2_appendLot_4 hl (by decide) rfl (fun ls hl => ?_)
  refine lv_iconst (v := nI 0) hx hb dX2_appendLot_6 (by decide) ?_
  refine lv_istore (lv' := [(6, .int (nI 0)), (5, .int (nI 0)), (4, .int (-1)), (0, .ref (ad (3 * i))), (1, .ref a9), (2, .ref (ad (24 + 5 * j))), (3, .int (nI r9))]) hx hb dX2_appendLot_7 hl (by decide) rfl (fun ls hl => ?_)
  have loop9 : ∀ (fuel : Nat) (x4 : Int32) (cn k : Nat) (b1 n1 c1 : Nat) (f1 : Nat → Int32) (hk : k ≤ (S.1 i).2.2) (hcn : cn ≤ k ∧ (0 < cn → x4 ≠ -1)) (hx4 : x4 = -1 ∨ ∃ q, q < (S.1 i).2.2 ∧ x4 = nI q) (hnc : n1 = n ∧ n1 ≤ c1 ∧ c1 = cp) (hf : sb_Fit f1) (H : Heap) (locs : List Loc), (S.1 i).2.2 - k < fuel → WX dC dI ad S (AZ ad z) s H locs → TB dC dI cB ad z [(a9, eSB b1 n1), (b1, eBy cB c1 f1)] s H → ∀ ls : Array Slot, lv_has ls 7 [(0, .ref (ad (3 * i))), (1, .ref a9), (2, .ref (ad (24 + 5 * j))), (3, .int (nI r9)), (4, .int x4), (5, .int (nI cn)), (6, .int (nI k))] → W p l e ({ frames := 7, cells := 4, slots := 2 * n + 72, locals := 146 } : Room) s m ([.ref (ad (3 * i)), .ref a9, .ref (ad (24 + 5 * j)), .int (nI r9)]).toArray below meth c H locs (0) (2 * c1 - 2 * cp) (MQ below (va_Qv (LotQ2 n cp) (fun u t => PX dC dI ad S t ∧ PB dC dI cB z [(a9, eSB u.1 u.2.1), (u.1, eBy cB u.2.2.1 u.2.2.2)] t) (AZ ad z)) ([.ref (ad (3 * i)), .ref a9, .ref (ad (24 + 5 * j)), .int (nI r9)]).toArray s 4 (2 * n + 72) (AZ ad z)) (F0 m 9 ls []) := by
    intro fuel
    induction fuel with
    | zero => intro x4 cn k b1 n1 c1 f1 hk hcn hx4 hnc hf H locs hf9; exact absurd hf9 (Nat.not_lt_zero _)
    | succ fuel ih9 =>
      intro x4 cn k b1 n1 c1 f1 hk hcn hx4 hnc hf H locs hf9 hX hT ls hl
      refine lv_iload hx hb dX2_appendLot_9 (lv_at hl 6 rfl) ?_
      refine lv_aload_n hx hb dX2_appendLot_11 rfl (lv_at hl 0 rfl) ?_
      refine kr_gn (n := (S.1 i).2.2) hx hb hts hin2 hown hX (by omega) rfl (hts (.fieldLink RX2 18 "Orderlattice$Row" "many" "I") (tm 27 (by decide +kernel) rfl)) dX2_appendLot_12 ?_
      refine kn_icmp_ge (tgt := 56) hx hb (by omega) (by omega) dX2_appendLot_15 (by decide) (fun k_1 => ?_) (fun k_1 => ?_)
      · skip
        refine lv_iload hx hb dX2_appendLot_56 (lv_at hl 5 rfl) ?_
        refine kn_if_le (tgt := 86) hx hb (by omega) dX2_appendLot_58 (by decide) (fun k_2 => ?_) (fun k_2 => ?_)
        · skip
          exact W.widen (k := 4) (n := 2 * n + 72) (by omega) (by omega) (W.vret hx hb hr (fun t9 ht9 hW9 => ⟨⟨(b1, n1, c1, f1), rfl, ⟨by show n1 ≤ n + 10; omega, by show n1 ≤ c1; omega, by show cp ≤ c1; omega, by show c1 ≤ 2 * (n1 + 8); omega, hf⟩, hX.P ht9 hW9, hT.toPB hX ht9 hW9⟩, hX.2.2.2.F ht9⟩) hX.2.2.2.2.2 dX2_appendLot_86)
        · skip
          obtain ⟨q5, hq5, hq6⟩ := hx4.resolve_left (hcn.2 (by omega))
          subst hq6
          have hm9 := ((hI.1 i (by omega)).2 q5 (by omega)).2
          have hd1 := dg6 (v := (S.1 i).2.1 q5) (by omega)
          have hd2 := dg2 (v := cn) (by omega)
          have hd3 := dg_1 ((S.1 i).2.1 q5)
          have hd4 := dg_1 cn
          refine lv_aload_n hx hb dX2_appendLot_61 rfl (lv_at hl 1 rfl) ?_
          have hcb := cap_b (q := n1 + 1) (cp := c1) (Q := (n1 + 1 + 8)) (by omega) (by omega)
          refine kt_gap2 (c0 := cp) (n1 + 1 + 8) (va_runSN (As := [.ref a9]) (rest := []) ⟨hx, hb, hml, hown, hts⟩ (n_X4_appendGap l dC dI cB z a9 b1 n1 c1 f1 (by omega) (by omega) hf (by omega) (by omega)) ⟨va_cnB 1 hts gX2_appendLot_X4_appendGap_n65 rfl rfl rfl hN.1 (hts (.initialized RX4) (tm 421 (by decide +kernel) rfl)) (by decide +kernel) ⟨Nat.le_of_ble_eq_true rfl, Nat.le_of_ble_eq_true rfl⟩, hts (.static yX4_appendGap) (by decide +kernel), trivial⟩ (hT.preS hX) rfl rfl hl.1 rfl (lv_room (Nat.le_of_ble_eq_true rfl)) dX2_appendLot_62 ⟨by show _ ≤ 4; omega, by show _ ≤ 2 * n + 72; have := gm_pot (n1 + 1) c1; omega⟩) hX hT (by omega) (by omega) (by omega) (fun b_3 n_3 c_3 f_3 H locs hX hT hf _ _ _ _ _ => ?_)
          refine lv_aload_n hx hb dX2_appendLot_65 rfl (lv_at hl 1 rfl) ?_
          refine lv_aload_n hx hb dX2_appendLot_66 rfl (lv_at hl 0 rfl) ?_
          refine lv_iload hx hb dX2_appendLot_67 (lv_at hl 4 rfl) ?_
          refine kx_cr (v := nI (((S.1 i).2.1) q5)) (va_runV (As := [.int (nI q5)]) (rest := [.ref a9]) ⟨hx, hb, hml, hown, hts⟩ (m_X2_markOn l dC dI ad S i q5 (by omega) (by omega)) (cwV 1 hts gX2_appendLot_X2_markOn rfl rfl rfl hdX2_markOn_1 ⟨Nat.le_of_ble_eq_true rfl, Nat.le_of_ble_eq_true rfl⟩) (hX.preRow (by omega)) rfl rfl hl.1 rfl (lv_room (Nat.le_of_ble_eq_true rfl)) dX2_appendLot_69 ⟨by show _ ≤ 4; omega, by show _ ≤ 2 * n + 72; omega⟩) (fun _ h => h) ?_
          have hcb := cap_b (q := n_3 + sb_dg (((S.1 i).2.1) q5)) (cp := c_3) (Q := (n_3 + sb_dg (((S.1 i).2.1) q5) + 8)) (by omega) (by omega)
          refine kt_app2 (c0 := cp) (n2 := n_3 + sb_dg (((S.1 i).2.1) q5)) (n_3 + sb_dg (((S.1 i).2.1) q5) + 8) (va_runV (As := [.int (nI (((S.1 i).2.1) q5))]) (rest := []) ⟨hx, hb, hml, hown, hts⟩ (m_J4_append_bf812 l dC dI cB z a9 b_3 n_3 c_3 f_3 (by omega) (by omega) hf (((S.1 i).2.1) q5) (by omega) (by omega)) (cwV 1 hts gX2_appendLot_J4_append_bf812 rfl rfl rfl hdJ4_append_bf812_1 ⟨Nat.le_of_ble_eq_true rfl, Nat.le_of_ble_eq_true rfl⟩) (hT.preV hX (ci := 1) (q := (RJ4, TJ4, 4)) rfl 0 rfl) rfl rfl hl.1 rfl (lv_room (Nat.le_of_ble_eq_true rfl)) dX2_appendLot_72 ⟨by show _ ≤ 4; omega, by show _ ≤ 2 * n + 72; have := gm_pot (n_3 + sb_dg (((S.1 i).2.1) q5)) c_3; omega⟩) hX hT (by omega) (by omega) (by omega) (fun b_4 c_4 f_4 H locs hX hT hf _ _ _ => ?_)
          refine lv_bipush (v := nI 58) hx hb dX2_appendLot_75 (by decide) ?_
          have hcb := cap_b (q := n_3 + sb_dg (((S.1 i).2.1) q5) + 1) (cp := c_4) (Q := (n_3 + sb_dg (((S.1 i).2.1) q5) + 1 + 8)) (by omega) (by omega)
          refine kt_app2 (c0 := cp) (n2 := n_3 + sb_dg (((S.1 i).2.1) q5) + 1) (n_3 + sb_dg (((S.1 i).2.1) q5) + 1 + 8) (va_runV (As := [.int (nI 58)]) (rest := []) ⟨hx, hb, hml, hown, hts⟩ (m_J4_append_cf468 l dC dI cB z a9 b_4 (n_3 + sb_dg (((S.1 i).2.1) q5)) c_4 f_4 (by omega) (by omega) hf 58 (by omega) (by omega)) (cwV 1 hts gX2_appendLot_J4_append_cf468 rfl rfl rfl hdJ4_append_cf468_1 ⟨Nat.le_of_ble_eq_true rfl, Nat.le_of_ble_eq_true rfl⟩) (hT.preV hX (ci := 1) (q := (RJ4, TJ4, 4)) rfl 0 rfl) rfl rfl hl.1 rfl (lv_room (Nat.le_of_ble_eq_true rfl)) dX2_appendLot_77 ⟨by show _ ≤ 4; omega, by show _ ≤ 2 * n + 72; have := gm_pot (n_3 + sb_dg (((S.1 i).2.1) q5) + 1) c_4; omega⟩) hX hT (by omega) (by omega) (by omega) (fun b_5 c_5 f_5 H locs hX hT hf _ _ _ => ?_)
          refine lv_iload hx hb dX2_appendLot_80 (lv_at hl 5 rfl) ?_
          have hcb := cap_b (q := n_3 + sb_dg (((S.1 i).2.1) q5) + 1 + sb_dg cn) (cp := c_5) (Q := (n_3 + sb_dg (((S.1 i).2.1) q5) + 1 + sb_dg cn + 8)) (by omega) (by omega)
          refine kt_app2 (c0 := cp) (n2 := n_3 + sb_dg (((S.1 i).2.1) q5) + 1 + sb_dg cn) (n_3 + sb_dg (((S.1 i).2.1) q5) + 1 + sb_dg cn + 8) (va_runV (As := [.int (nI cn)]) (rest := []) ⟨hx, hb, hml, hown, hts⟩ (m_J4_append_bf812 l dC dI cB z a9 b_5 (n_3 + sb_dg (((S.1 i).2.1) q5) + 1) c_5 f_5 (by omega) (by omega) hf cn (by omega) (by omega)) (cwV 1 hts gX2_appendLot_J4_append_bf812 rfl rfl rfl hdJ4_append_bf812_1 ⟨Nat.le_of_ble_eq_true rfl, Nat.le_of_ble_eq_true rfl⟩) (hT.preV hX (ci := 1) (q := (RJ4, TJ4, 4)) rfl 0 rfl) rfl rfl hl.1 rfl (lv_room (Nat.le_of_ble_eq_true rfl)) dX2_appendLot_82 ⟨by show _ ≤ 4; omega, by show _ ≤ 2 * n + 72; have := gm_pot (n_3 + sb_dg (((S.1 i).2.1) q5) + 1 + sb_dg cn) c_5; omega⟩) hX hT (by omega) (by omega) (by omega) (fun b_6 c_6 f_6 H locs hX hT hf _ _ _ => ?_)
          refine lv_pop hx hb dX2_appendLot_85 rfl ?_
          exact W.widen (k := 4) (n := 2 * n + 72) (by omega) (by omega) (W.vret hx hb hr (fun t9 ht9 hW9 => ⟨⟨(b_6, n_3 + sb_dg (((S.1 i).2.1) q5) + 1 + sb_dg cn, c_6, f_6), rfl, ⟨by show n_3 + sb_dg (((S.1 i).2.1) q5) + 1 + sb_dg cn ≤ n + 10; omega, by show n_3 + sb_dg (((S.1 i).2.1) q5) + 1 + sb_dg cn ≤ c_6; omega, by show cp ≤ c_6; omega, by show c_6 ≤ 2 * (n_3 + sb_dg (((S.1 i).2.1) q5) + 1 + sb_dg cn + 8); omega, hf⟩, hX.P ht9 hW9, hT.toPB hX ht9 hW9⟩, hX.2.2.2.F ht9⟩) hX.2.2.2.2.2 dX2_appendLot_86)
      · skip
        have hv9 := (hI.1 i (by omega)).2 k (by omega)
        have hrk := ordOK.rnk (hI.2 j (by omega)) hv9.1
        refine lv_aload_n hx hb dX2_appendLot_18 rfl (lv_at hl 2 rfl) ?_
        refine lv_aload_n hx hb dX2_appendLot_19 rfl (lv_at hl 0 rfl) ?_
        refine lv_iload hx hb dX2_appendLot_20 (lv_at hl 6 rfl) ?_
        refine kx_cr (v := nI (((S.1 i).1) k)) (va_runV (As := [.int (nI k)]) (rest := [.ref (ad (24 + 5 * j))]) ⟨hx, hb, hml, hown, hts⟩ (m_X2_valueOn l dC dI ad S i k (by omega) (by omega)) (cwV 1 hts gX2_appendLot_X2_valueOn rfl rfl rfl hdX2_valueOn_1 ⟨Nat.le_of_ble_eq_true rfl, Nat.le_of_ble_eq_true rfl⟩) (hX.preRow (by omega)) rfl rfl hl.1 rfl (lv_room (Nat.le_of_ble_eq_true rfl)) dX2_appendLot_22 ⟨by show _ ≤ 4; omega, by show _ ≤ 2 * n + 72; omega⟩) (fun _ h => h) ?_
        refine kx_cr (v := nI (((S.2.1 j).2.2.2.1) (((S.1 i).1) k))) (va_runV (As := [.int (nI (((S.1 i).1) k))]) (rest := []) ⟨hx, hb, hml, hown, hts⟩ (m_X1_rankOf l dC dI ad S j (((S.1 i).1) k) (by omega) (by omega)) (cwV 1 hts gX2_appendLot_X1_rankOf rfl rfl rfl hdX1_rankOf_1 ⟨Nat.le_of_ble_eq_true rfl, Nat.le_of_ble_eq_true rfl⟩) (hX.preOrd (by omega)) rfl rfl hl.1 rfl (lv_room (Nat.le_of_ble_eq_true rfl)) dX2_appendLot_25 ⟨by show _ ≤ 4; omega, by show _ ≤ 2 * n + 72; omega⟩) (fun _ h => h) ?_
        refine lv_iload_n hx hb dX2_appendLot_28 rfl (lv_at hl 3 rfl) ?_
        refine kn_icmp_ne (tgt := 50) hx hb (by omega) (by omega) dX2_appendLot_29 (by decide) (fun k_7 => ?_) (fun k_7 => ?_)
        · skip
          refine lv_iinc (v := nI (k + 1)) (lv' := [(6, .int (nI (k + 1))), (0, .ref (ad (3 * i))), (1, .ref a9), (2, .ref (ad (24 + 5 * j))), (3, .int (nI r9)), (4, .int x4), (5, .int (nI cn))]) hx hb dX2_appendLot_50 hl (k := 6) rfl (nI_1 k) (by decide) rfl (fun ls hl => ?_)
          refine lv_goto (tgt := 9) hx hb dX2_appendLot_53 (by decide) ?_
          refine W.widen (k := 0) (n := 2 * c1 - 2 * cp) (by omega) (by omega) ?_
          exact ih9  x4 cn (k + 1) b1 n1 c1 f1 (by omega) ⟨by omega, hcn.2⟩ hx4 (by omega) hf _ _ (by omega) hX hT _ (lv_sub hl [1, 2, 3, 4, 5, 6, 0] rfl)
        · skip
          refine lv_iload hx hb dX2_appendLot_32 (lv_at hl 4 rfl) ?_
          refine lv_iconst (v := (-1)) hx hb dX2_appendLot_34 (by decide) ?_
          refine lv_icmp_ne (tgt := 43) hx hb dX2_appendLot_35 (by decide) (fun k_8 => ?_) (fun k_8 => ?_)
          · skip
            have h35 := k_8
            refine lv_iload hx hb dX2_appendLot_43 (lv_at hl 4 rfl) ?_
            refine lv_istore (lv' := [(4, .int x4), (0, .ref (ad (3 * i))), (1, .ref a9), (2, .ref (ad (24 + 5 * j))), (3, .int (nI r9)), (5, .int (nI cn)), (6, .int (nI k))]) hx hb dX2_appendLot_45 hl (by decide) rfl (fun ls hl => ?_)
            refine lv_iinc (v := nI (cn + 1)) (lv' := [(5, .int (nI (cn + 1))), (4, .int x4), (0, .ref (ad (3 * i))), (1, .ref a9), (2, .ref (ad (24 + 5 * j))), (3, .int (nI r9)), (6, .int (nI k))]) hx hb dX2_appendLot_47 hl (k := 5) rfl (nI_1 cn) (by decide) rfl (fun ls hl => ?_)
            refine lv_iinc (v := nI (k + 1)) (lv' := [(6, .int (nI (k + 1))), (5, .int (nI (cn + 1))), (4, .int x4), (0, .ref (ad (3 * i))), (1, .ref a9), (2, .ref (ad (24 + 5 * j))), (3, .int (nI r9))]) hx hb dX2_appendLot_50 hl (k := 6) rfl (nI_1 k) (by decide) rfl (fun ls hl => ?_)
            refine lv_goto (tgt := 9) hx hb dX2_appendLot_53 (by decide) ?_
            refine W.widen (k := 0) (n := 2 * c1 - 2 * cp) (by omega) (by omega) ?_
            exact ih9  x4 (cn + 1) (k + 1) b1 n1 c1 f1 (by omega) ⟨by omega, fun _ => h35⟩ hx4 (by omega) hf _ _ (by omega) hX hT _ (lv_sub hl [3, 4, 5, 6, 2, 1, 0] rfl)
          · skip
            have h35 := k_8
            refine lv_iload hx hb dX2_appendLot_38 (lv_at hl 6 rfl) ?_
            refine lv_goto (tgt := 45) hx hb dX2_appendLot_40 (by decide) ?_
            refine lv_istore (lv' := [(4, .int (nI k)), (0, .ref (ad (3 * i))), (1, .ref a9), (2, .ref (ad (24 + 5 * j))), (3, .int (nI r9)), (5, .int (nI cn)), (6, .int (nI k))]) hx hb dX2_appendLot_45 hl (by decide) rfl (fun ls hl => ?_)
            refine lv_iinc (v := nI (cn + 1)) (lv' := [(5, .int (nI (cn + 1))), (4, .int (nI k)), (0, .ref (ad (3 * i))), (1, .ref a9), (2, .ref (ad (24 + 5 * j))), (3, .int (nI r9)), (6, .int (nI k))]) hx hb dX2_appendLot_47 hl (k := 5) rfl (nI_1 cn) (by decide) rfl (fun ls hl => ?_)
            refine lv_iinc (v := nI (k + 1)) (lv' := [(6, .int (nI (k + 1))), (5, .int (nI (cn + 1))), (4, .int (nI k)), (0, .ref (ad (3 * i))), (1, .ref a9), (2, .ref (ad (24 + 5 * j))), (3, .int (nI r9))]) hx hb dX2_appendLot_50 hl (k := 6) rfl (nI_1 k) (by decide) rfl (fun ls hl => ?_)
            refine lv_goto (tgt := 9) hx hb dX2_appendLot_53 (by decide) ?_
            refine W.widen (k := 0) (n := 2 * c1 - 2 * cp) (by omega) (by omega) ?_
            exact ih9  (nI k) (cn + 1) (k + 1) b1 n1 c1 f1 (by omega) ⟨by omega, fun _ => nI_nm1 (by omega)⟩ (Or.inr ⟨k, by omega, rfl⟩) (by omega) hf _ _ (by omega) hX hT _ (lv_sub hl [3, 4, 5, 6, 2, 1, 0] rfl)
  refine W.widen (k := 0) (n := 2 * cp - 2 * cp) (by omega) (by omega) ?_
  exact loop9 ((S.1 i).2.2 + 1) (-1) 0 0 b n cp f (by omega) ⟨by omega, fun h9 => absurd h9 (by omega)⟩ (Or.inl rfl) (by omega) hf _ _ (by omega) hX hT _ (lv_sub hl [3, 4, 5, 6, 2, 1, 0] rfl)
set_option maxHeartbeats 4000000 in
set_option maxRecDepth 100000 in
theorem n_X2_lotsTold (l : Launch) (dC : Nat → ClassId) (dI : Nat → Nat → Nat) (cB : ClassId) (ad : Nat → Nat) (S : XS) (i j : Nat) (hi : i < 8) (hj : j < 6) (hI : InvX S) : Met l yX2_lotsTold wsX2_lotsTold ({ frames := 8, cells := 80, slots := 3752, locals := 172 } : Room) (va_Pc [.ref (ad (3 * i)), .ref (ad (24 + 5 * j))] (PT dC dI cB ad S)) (va_Qr (fun S1 : XS => S1 = S) (fun S1 _ t => PX dC dI ad S1 t) (AX ad)) 80 3752 (AX ad) := by
  refine Met.ofW (cc := cX2_lotsTold) (maxL := 4) (ret := (some (.object "java/lang/String"))) pl_X2 rfl ?_
  intro p e s m args below meth c s₁ B hml hv
  obtain ⟨rfl, hPT⟩ := hv
  have hx := B.exec
  have hb := B.bytes
  have hr := B.returns
  have hts := atoms_spec (ws := wsX2_lotsTold) B.pre
  have hown : s.vm.findClass RX2 = some m.cls := findClass_of_methodNamed B.named
  have hlocks := B.notSynchronized
  have hinJ4 : ∀ w ∈ u_ws RJ4 TJ4 4, w ∈ wsX2_lotsTold := tu 1326 (by decide +kernel) rfl
  have hN : NT s := hPT.2.2.2
  have hX := WX.ofT hPT
  have hT := TB.of hPT
  have hl := lv_entry ([.ref (ad (3 * i)), .ref (ad (24 + 5 * j))]) (n := 4) (Nat.le_of_ble_eq_true rfl)
  rw [lg_entry_eq]
  generalize (lg_sl ([.ref (ad (3 * i)), .ref (ad (24 + 5 * j))]) ++ List.replicate (4 - (lg_sl ([.ref (ad (3 * i)), .ref (ad (24 + 5 * j))])).length) Slot.unset).toArray = ls at hl ⊢
  have hl : lv_has ls 4 [(0, .ref (ad (3 * i))), (1, .ref (ad (24 + 5 * j)))] := hl
  show W p l e ({ frames := 8, cells := 80, slots := 3752, locals := 172 } : Room) s m ([.ref (ad (3 * i)), .ref (ad (24 + 5 * j))]).toArray below meth c s.heap [] 0 0 (MQ below (va_Qr (fun S1 : XS => S1 = S) (fun S1 _ t => PX dC dI ad S1 t) (AX ad)) ([.ref (ad (3 * i)), .ref (ad (24 + 5 * j))]).toArray s 80 3752 (AX ad)) (F0 m 0 ls [])
  have hcl := ordOK.cls (hI.2 j (by omega))
  refine kt_new hx hb hts hinJ4 hown (hts (.classLink RX2 62 RJ4) (tm 432 (by decide +kernel) rfl)) (hts (.instantiable RJ4 4) (tm 374 (by decide +kernel) rfl)) (hts (.initialized RJ4) (tm 328 (by decide +kernel) rfl)) hX hT (by show _ ≤ 80; omega) (by show _ ≤ 3752; omega) dX2_lotsTold_0 (fun a9 H hX hT => ?_)
  refine lv_dup hx hb dX2_lotsTold_3 rfl ?_
  refine kt_v (va_runI (As := []) (rest := [.ref a9]) ⟨hx, hb, hml, hown, hts⟩ (m_J4_init_da8c8 l dC dI cB s.heap.size a9) (cwI 0 hts gX2_lotsTold_J4_init_da8c8 rfl rfl rfl (hts (.initialized yJ4_init_da8c8.cls) (tm 328 (by decide +kernel) rfl)) (hts (.methodLink RX2 64 yJ4_init_da8c8) (tm 433 (by decide +kernel) rfl)) (hts (.instanceMethod yJ4_init_da8c8) (tm 414 (by decide +kernel) rfl)) rfl (by decide +kernel) ⟨Nat.le_of_ble_eq_true rfl, Nat.le_of_ble_eq_true rfl⟩) (hT.preS hX) rfl rfl hl.1 rfl (lv_room (Nat.le_of_ble_eq_true rfl)) dX2_lotsTold_4 ⟨by show _ ≤ 80; omega, by show _ ≤ 3752; omega⟩) hX hT (fun b0 H locs _ hX hT => ?_)
  refine W.widen (k := 2) (n := 36) (by omega) (by omega) ?_
  have hf : sb_Fit (fun _ => 0) := sb_fit0
  refine lv_astore_n (lv' := [(2, .ref a9), (0, .ref (ad (3 * i))), (1, .ref (ad (24 + 5 * j)))]) hx hb dX2_lotsTold_7 rfl hl (by decide) rfl (fun ls hl => ?_)
  refine lv_iconst (v := nI 0) hx hb dX2_lotsTold_8 (by decide) ?_
  refine lv_istore_n (lv' := [(3, .int (nI 0)), (2, .ref a9), (0, .ref (ad (3 * i))), (1, .ref (ad (24 + 5 * j)))]) hx hb dX2_lotsTold_9 rfl hl (by decide) rfl (fun ls hl => ?_)
  have loop10 : ∀ (fuel : Nat) (k : Nat) (b1 n1 c1 : Nat) (f1 : Nat → Int32) (hk : k ≤ 16) (hn1 : n1 ≤ 10 * k) (hnc : n1 ≤ c1 ∧ 16 ≤ c1 ∧ c1 ≤ 2 * (n1 + 8)) (hf : sb_Fit f1) (H : Heap) (locs : List Loc), 16 - k < fuel → WX dC dI ad S (AZ ad s.heap.size) s H locs → TB dC dI cB ad s.heap.size [(a9, eSB b1 n1), (b1, eBy cB c1 f1)] s H → ∀ ls : Array Slot, lv_has ls 4 [(0, .ref (ad (3 * i))), (1, .ref (ad (24 + 5 * j))), (2, .ref a9), (3, .int (nI k))] → W p l e ({ frames := 8, cells := 80, slots := 3752, locals := 172 } : Room) s m ([.ref (ad (3 * i)), .ref (ad (24 + 5 * j))]).toArray below meth c H locs (2 + 4 * k) (36 + slL k) (MQ below (va_Qr (fun S1 : XS => S1 = S) (fun S1 _ t => PX dC dI ad S1 t) (AX ad)) ([.ref (ad (3 * i)), .ref (ad (24 + 5 * j))]).toArray s 80 3752 (AX ad)) (F0 m 10 ls []) := by
    intro fuel
    induction fuel with
    | zero => intro k b1 n1 c1 f1 hk hn1 hnc hf H locs hf9; exact absurd hf9 (Nat.not_lt_zero _)
    | succ fuel ih10 =>
      intro k b1 n1 c1 f1 hk hn1 hnc hf H locs hf9 hX hT ls hl
      have hs7 : slL k ≤ 3552 := Nat.le_trans (slL_mono (show k ≤ 16 by omega)) (by decide)
      refine lv_iload_n hx hb dX2_lotsTold_10 rfl (lv_at hl 3 rfl) ?_
      refine lv_aload_n hx hb dX2_lotsTold_11 rfl (lv_at hl 1 rfl) ?_
      refine kx_cr (v := nI ((S.2.1 j).2.2.2.2.2)) (va_runV (As := []) (rest := [.int (nI k)]) ⟨hx, hb, hml, hown, hts⟩ (m_X1_classCount l dC dI ad S j  (by omega)) (cwV 0 hts gX2_lotsTold_X1_classCount rfl rfl rfl hdX1_classCount_0 ⟨Nat.le_of_ble_eq_true rfl, Nat.le_of_ble_eq_true rfl⟩) (hX.preOrd (by omega)) rfl rfl hl.1 rfl (lv_room (Nat.le_of_ble_eq_true rfl)) dX2_lotsTold_12 ⟨by show _ ≤ 80; omega, by show _ ≤ 3752; omega⟩) (fun _ h => h) ?_
      refine kn_icmp_ge (tgt := 31) hx hb (by omega) (by omega) dX2_lotsTold_15 (by decide) (fun k_1 => ?_) (fun k_1 => ?_)
      · skip
        refine lv_aload_n hx hb dX2_lotsTold_31 rfl (lv_at hl 2 rfl) ?_
        refine kt_r (va_runV (As := []) (rest := []) ⟨hx, hb, hml, hown, hts⟩ (m_J4_toString_0e30d l dC dI cB s.heap.size a9 b1 n1 c1 f1 (by omega) (by omega) hf) (cwV 0 hts gX2_lotsTold_J4_toString_0e30d rfl rfl rfl hdJ4_toString_0e30d_0 ⟨Nat.le_of_ble_eq_true rfl, Nat.le_of_ble_eq_true rfl⟩) (hT.preV hX (ci := 1) (q := (RJ4, TJ4, 4)) rfl 0 rfl) rfl rfl hl.1 rfl (lv_room (Nat.le_of_ble_eq_true rfl)) dX2_lotsTold_32 ⟨by show _ ≤ 80; omega, by show _ ≤ 3752; omega⟩) hX hT (fun _ q9 H locs _ _ hX hT => ?_)
        exact W.widen (k := 80) (n := 3752) (by omega) (by omega) (W.filt (fun locs1 hl1 => W.aret (v := .ref q9) hx hb hr (Or.inl ⟨_, rfl⟩) (Or.inr ⟨_, rfl⟩) (fun t9 ht9 hW9 => ⟨⟨S, _, rfl, rfl, hX.P ht9 hW9⟩, (hX.2.2.2.F ht9).X⟩) (free_X hX.2.2.2 hl1) dX2_lotsTold_35))
      · skip
        refine lv_aload_n hx hb dX2_lotsTold_18 rfl (lv_at hl 0 rfl) ?_
        refine lv_aload_n hx hb dX2_lotsTold_19 rfl (lv_at hl 2 rfl) ?_
        refine lv_aload_n hx hb dX2_lotsTold_20 rfl (lv_at hl 1 rfl) ?_
        refine lv_iload_n hx hb dX2_lotsTold_21 rfl (lv_at hl 3 rfl) ?_
        have hs8 := slL_s k
        have hs9 : slL (k + 1) ≤ 3552 := Nat.le_trans (slL_mono (show k + 1 ≤ 16 by omega)) (by decide)
        refine kt_l (va_runV (As := [.ref a9, .ref (ad (24 + 5 * j)), .int (nI k)]) (rest := []) ⟨hx, hb, hml, hown, hts⟩ (n_X2_appendLot l dC dI cB ad S i j k s.heap.size a9 b1 n1 c1 f1 (by omega) (by omega) (by omega) hI (by omega) (by omega) (by omega) hf) (cwV 3 hts gX2_lotsTold_X2_appendLot rfl rfl rfl hdX2_appendLot_3 ⟨Nat.le_of_ble_eq_true rfl, Nat.le_of_ble_eq_true rfl⟩) (hT.preLot hX hN (by omega)) rfl rfl hl.1 rfl (lv_room (Nat.le_of_ble_eq_true rfl)) dX2_lotsTold_22 ⟨by show _ + 4 ≤ 80; omega, by show _ + (2 * n1 + 72) ≤ 3752; omega⟩) hX hT (fun u_2 H locs hu hX hT => ?_)
        obtain ⟨b_2, n_2, c_2, f_2⟩ := u_2
        obtain ⟨hu1, hu2, hu3, hu4, hf⟩ := hu
        replace hu1 : n_2 ≤ n1 + 10 := hu1
        replace hu2 : n_2 ≤ c_2 := hu2
        replace hu3 : c1 ≤ c_2 := hu3
        replace hu4 : c_2 ≤ 2 * (n_2 + 8) := hu4
        replace hf : sb_Fit f_2 := hf
        refine lv_iinc (v := nI (k + 1)) (lv' := [(3, .int (nI (k + 1))), (0, .ref (ad (3 * i))), (1, .ref (ad (24 + 5 * j))), (2, .ref a9)]) hx hb dX2_lotsTold_25 hl (k := 3) rfl (nI_1 k) (by decide) rfl (fun ls hl => ?_)
        refine lv_goto (tgt := 10) hx hb dX2_lotsTold_28 (by decide) ?_
        refine W.widen (k := 2 + 4 * (k + 1)) (n := 36 + slL (k + 1)) (by omega) (by omega) ?_
        exact ih10  (k + 1) b_2 n_2 c_2 f_2 (by omega) (by omega) (by omega) hf _ _ (by omega) hX hT _ (lv_sub hl [1, 2, 3, 0] rfl)
  refine W.widen (k := 2 + 4 * 0) (n := 36 + slL 0) (by omega) (by omega) ?_
  exact loop10 (16 + 1) 0 b0 0 16 (fun _ => 0) (by omega) (by omega) (by omega) hf _ _ (by omega) hX hT _ (lv_sub hl [2, 3, 1, 0] rfl)
set_option maxHeartbeats 4000000 in
set_option maxRecDepth 100000 in
theorem n_X4_groups (l : Launch) (dC : Nat → ClassId) (dI : Nat → Nat → Nat) (cB : ClassId) (ad : Nat → Nat) (S : XS) (i j : Nat) (hi : i < 3) (hj : j < 4) (hI : InvX S) : Met l yX4_groups wsX4_groups ({ frames := 9, cells := 80, slots := 3752, locals := 195 } : Room) (va_Pc [.ref (ad 57), .int (nI i), .int (nI j)] (PT dC dI cB ad S)) (va_Qr (fun S1 : XS => S1 = S) (fun S1 _ t => PX dC dI ad S1 t) (AX ad)) 80 3752 (AX ad) := by
  refine Met.ofW (cc := cX4_groups) (maxL := 4) (ret := (some (.object "java/lang/String"))) pl_X4 rfl ?_
  intro p e s m args below meth c s₁ B hml hv
  obtain ⟨rfl, hPT⟩ := hv
  have hx := B.exec
  have hb := B.bytes
  have hr := B.returns
  have hts := atoms_spec (ws := wsX4_groups) B.pre
  have hown : s.vm.findClass RX4 = some m.cls := findClass_of_methodNamed B.named
  have hlocks := B.notSynchronized
  have hN : NT s := hPT.2.2.2
  have hX := WX.ofT hPT
  have hT := TB.of hPT
  have hl := lv_entry ([.ref (ad 57), .int (nI i), .int (nI j)]) (n := 4) (Nat.le_of_ble_eq_true rfl)
  rw [lg_entry_eq]
  generalize (lg_sl ([.ref (ad 57), .int (nI i), .int (nI j)]) ++ List.replicate (4 - (lg_sl ([.ref (ad 57), .int (nI i), .int (nI j)])).length) Slot.unset).toArray = ls at hl ⊢
  have hl : lv_has ls 4 [(0, .ref (ad 57)), (1, .int (nI i)), (2, .int (nI j))] := hl
  show W p l e ({ frames := 9, cells := 80, slots := 3752, locals := 195 } : Room) s m ([.ref (ad 57), .int (nI i), .int (nI j)]).toArray below meth c s.heap [] 0 0 (MQ below (va_Qr (fun S1 : XS => S1 = S) (fun S1 _ t => PX dC dI ad S1 t) (AX ad)) ([.ref (ad 57), .int (nI i), .int (nI j)]).toArray s 80 3752 (AX ad)) (F0 m 0 ls [])
  refine lv_aload_n hx hb dX4_groups_0 rfl (lv_at hl 0 rfl) ?_
  refine lv_iload_n hx hb dX4_groups_1 rfl (lv_at hl 1 rfl) ?_
  refine va_csr (va_Run.run (va_runV (As := [.int (nI i)]) (rest := []) ⟨hx, hb, hml, hown, hts⟩ (m_X4_rowAt l dC dI ad S i (by omega)) (cwV 1 hts gX4_groups_X4_rowAt rfl rfl rfl hdX4_rowAt_1 ⟨Nat.le_of_ble_eq_true rfl, Nat.le_of_ble_eq_true rfl⟩) (hX.preTop 57 6 (by decide) (by decide) rfl rfl) rfl rfl hl.1 rfl (lv_room (Nat.le_of_ble_eq_true rfl)) dX4_groups_2 ⟨by show _ ≤ 80; omega, by show _ ≤ 3752; omega⟩)) (fun k_ hk_ => ?_)
  rw [hk_]
  refine lv_astore_n (lv' := [(3, .ref (ad (3 * i))), (0, .ref (ad 57)), (1, .int (nI i)), (2, .int (nI j))]) hx hb dX4_groups_5 rfl hl (by decide) rfl (fun ls hl => ?_)
  refine lv_aload_n hx hb dX4_groups_6 rfl (lv_at hl 0 rfl) ?_
  refine lv_aload_n hx hb dX4_groups_7 rfl (lv_at hl 1 rfl) ?_
  refine lv_iload_n hx hb dX4_groups_8 rfl (lv_at hl 3 rfl) ?_
  refine va_csr (va_Run.run (va_runV (As := [.int (nI j)]) (rest := [.ref (ad (3 * i))]) ⟨hx, hb, hml, hown, hts⟩ (m_X4_orderAt l dC dI ad S j (by omega)) (cwV 1 hts gX4_groups_X4_orderAt rfl rfl rfl hdX4_orderAt_1 ⟨Nat.le_of_ble_eq_true rfl, Nat.le_of_ble_eq_true rfl⟩) (hX.preTop 57 6 (by decide) (by decide) rfl rfl) rfl rfl hl.1 rfl (lv_room (Nat.le_of_ble_eq_true rfl)) dX4_groups_9 ⟨by show _ ≤ 80; omega, by show _ ≤ 3752; omega⟩)) (fun k_ hk_ => ?_)
  rw [hk_]
  refine kt_t (va_runV (As := [.ref (ad (24 + 5 * j))]) (rest := []) ⟨hx, hb, hml, hown, hts⟩ (n_X2_lotsTold l dC dI cB ad S i j (by omega) (by omega) hI) (cwV 1 hts gX4_groups_X2_lotsTold rfl rfl rfl hdX2_lotsTold_1 ⟨Nat.le_of_ble_eq_true rfl, Nat.le_of_ble_eq_true rfl⟩) (hT.preRow hX hN (by omega)) rfl rfl hl.1 rfl (lv_room (Nat.le_of_ble_eq_true rfl)) dX4_groups_12 ⟨by show 0 + _ ≤ _; simp, by show 0 + _ ≤ _; simp⟩) hX hT (fun S1 q9 H locs hS9 hX hT => ?_)
  rw [hS9] at hX
  exact W.widen (k := 80) (n := 3752) (by omega) (by omega) (W.filt (fun locs1 hl1 => W.aret (v := .ref q9) hx hb hr (Or.inl ⟨_, rfl⟩) (Or.inr ⟨_, rfl⟩) (fun t9 ht9 hW9 => ⟨⟨S, _, rfl, rfl, hX.P ht9 hW9⟩, (hX.2.2.2.F ht9).X⟩) (free_X hX.2.2.2 hl1) dX4_groups_15))
end
section
/-! ranks told, the spare row in its bounds -/
def KR2 (S S1 : XS) : Prop := S1.2 = S.2 ∧ (∀ k, k ≠ 4 → S1.1 k = S.1 k) ∧ (rowOK (S.1 4) → rowOK (S1.1 4))
theorem KR2_refl {S : XS} : KR2 S S := ⟨rfl, fun _ _ => rfl, fun h => h⟩
theorem KR2_row {S S1 : XS} (h : KR2 S S1) {r : RowS} (hr : rowOK r) : KR2 S (xR S1 4 r) := ⟨h.1, fun k hk => by rw [xR_ne _ _ hk]; exact h.2.1 k hk, fun _ => by rw [xR_row]; exact hr⟩
set_option maxHeartbeats 4000000 in
set_option maxRecDepth 100000 in
theorem n_X4_ranks (l : Launch) (dC : Nat → ClassId) (dI : Nat → Nat → Nat) (cB : ClassId) (ad : Nat → Nat) (S : XS) (i j : Nat) (z : Bool) (hi : i < 3) (hj : j < 4) (hI : InvX S) : Met l yX4_ranks wsX4_ranks ({ frames := 7, cells := 80, slots := 900, locals := 151 } : Room) (va_Pc [.ref (ad 57), .int (nI i), .int (nI j), .int (bI z)] (PT dC dI cB ad S)) (va_Qr (fun S1 : XS => KR2 S S1) (fun S1 _ t => PX dC dI ad S1 t) (AX ad)) 80 900 (AX ad) := by
  refine Met.ofW (cc := cX4_ranks) (maxL := 9) (ret := (some (.object "java/lang/String"))) pl_X4 rfl ?_
  intro p e s m args below meth c s₁ B hml hv
  obtain ⟨rfl, hPT⟩ := hv
  have hx := B.exec
  have hb := B.bytes
  have hr := B.returns
  have hts := atoms_spec (ws := wsX4_ranks) B.pre
  have hown : s.vm.findClass RX4 = some m.cls := findClass_of_methodNamed B.named
  have hlocks := B.notSynchronized
  have hin4 : ∀ w ∈ u_ws RX4 TX4 9, w ∈ wsX4_ranks := tu 1328 (by decide +kernel) rfl
  have hinJ4 : ∀ w ∈ u_ws RJ4 TJ4 4, w ∈ wsX4_ranks := tu 1326 (by decide +kernel) rfl
  have hN : NT s := hPT.2.2.2
  have hX := WX.ofT hPT
  have hT := TB.of hPT
  have hl := lv_entry ([.ref (ad 57), .int (nI i), .int (nI j), .int (bI z)]) (n := 9) (Nat.le_of_ble_eq_true rfl)
  rw [lg_entry_eq]
  generalize (lg_sl ([.ref (ad 57), .int (nI i), .int (nI j), .int (bI z)]) ++ List.replicate (9 - (lg_sl ([.ref (ad 57), .int (nI i), .int (nI j), .int (bI z)])).length) Slot.unset).toArray = ls at hl ⊢
  have hl : lv_has ls 9 [(0, .ref (ad 57)), (1, .int (nI i)), (2, .int (nI j)), (3, .int (bI z))] := hl
  show W p l e ({ frames := 7, cells := 80, slots := 900, locals := 151 } : Room) s m ([.ref (ad 57), .int (nI i), .int (nI j), .int (bI z)]).toArray below meth c s.heap [] 0 0 (MQ below (va_Qr (fun S1 : XS => KR2 S S1) (fun S1 _ t => PX dC dI ad S1 t) (AX ad)) ([.ref (ad 57), .int (nI i), .int (nI j), .int (bI z)]).toArray s 80 900 (AX ad)) (F0 m 0 ls [])
  obtain ⟨S0, hS0⟩ : ∃ q : XS, q = S := ⟨_, rfl⟩
  generalize hQ9 : (MQ below (va_Qr (fun S1 : XS => KR2 S S1) (fun S1 _ t => PX dC dI ad S1 t) (AX ad)) ([.ref (ad 57), .int (nI i), .int (nI j), .int (bI z)]).toArray s 80 900 (AX ad)) = Q9
  refine lv_aload_n hx hb dX4_ranks_0 rfl (lv_at hl 0 rfl) ?_
  refine lv_iload_n hx hb dX4_ranks_1 rfl (lv_at hl 1 rfl) ?_
  refine va_csr (va_Run.run (va_runV (As := [.int (nI i)]) (rest := []) ⟨hx, hb, hml, hown, hts⟩ (m_X4_rowAt l dC dI ad S i (by omega)) (cwV 1 hts gX4_ranks_X4_rowAt rfl rfl rfl hdX4_rowAt_1 ⟨Nat.le_of_ble_eq_true rfl, Nat.le_of_ble_eq_true rfl⟩) (hX.preTop 57 6 (by decide) (by decide) rfl rfl) rfl rfl hl.1 rfl (lv_room (Nat.le_of_ble_eq_true rfl)) dX4_ranks_2 ⟨by show _ ≤ 80; omega, by show _ ≤ 900; omega⟩)) (fun k_ hk_ => ?_)
  rw [hk_]
  refine lv_astore (lv' := [(4, .ref (ad (3 * i))), (0, .ref (ad 57)), (1, .int (nI i)), (2, .int (nI j)), (3, .int (bI z))]) hx hb dX4_ranks_5 hl (by decide) rfl (fun ls hl => ?_)
  refine lv_aload_n hx hb dX4_ranks_7 rfl (lv_at hl 1 rfl) ?_
  refine lv_iload_n hx hb dX4_ranks_8 rfl (lv_at hl 3 rfl) ?_
  refine va_csr (va_Run.run (va_runV (As := [.int (nI j)]) (rest := []) ⟨hx, hb, hml, hown, hts⟩ (m_X4_orderAt l dC dI ad S j (by omega)) (cwV 1 hts gX4_ranks_X4_orderAt rfl rfl rfl hdX4_orderAt_1 ⟨Nat.le_of_ble_eq_true rfl, Nat.le_of_ble_eq_true rfl⟩) (hX.preTop 57 6 (by decide) (by decide) rfl rfl) rfl rfl hl.1 rfl (lv_room (Nat.le_of_ble_eq_true rfl)) dX4_ranks_9 ⟨by show _ ≤ 80; omega, by show _ ≤ 900; omega⟩)) (fun k_ hk_ => ?_)
  rw [hk_]
  refine lv_astore (lv' := [(5, .ref (ad (24 + 5 * j))), (4, .ref (ad (3 * i))), (0, .ref (ad 57)), (1, .int (nI i)), (2, .int (nI j)), (3, .int (bI z))]) hx hb dX4_ranks_12 hl (by decide) rfl (fun ls hl => ?_)
  refine lv_aload_n hx hb dX4_ranks_14 rfl (lv_at hl 2 rfl) ?_
  refine kx_gspareRow hx hb hts hin4 hown hX (hts (.fieldLink RX4 36 "Orderlattice" "spareRow" "LOrderlattice$Row;") (tm 453 (by decide +kernel) rfl)) dX4_ranks_15 ?_
  refine lv_aload hx hb dX4_ranks_18 (lv_at hl 1 rfl) ?_
  refine kt_x (va_runV (As := [.ref (ad (3 * i))]) (rest := []) ⟨hx, hb, hml, hown, hts⟩ (m_X2_becomeCopyOf l dC dI ad S 4 i (by omega) (by omega) (hI.1 i (by omega)).1) (cwV 1 hts gX4_ranks_X2_becomeCopyOf rfl rfl rfl hdX2_becomeCopyOf_1 ⟨Nat.le_of_ble_eq_true rfl, Nat.le_of_ble_eq_true rfl⟩) (hX.preRow (by omega)) rfl rfl hl.1 rfl (lv_room (Nat.le_of_ble_eq_true rfl)) dX4_ranks_20 ⟨by show _ ≤ 80; omega, by show _ ≤ 900; omega⟩) hX hT (fun S2 H locs hw hX hT => ?_)
  have hI2 : InvX S2 := by rw [hw]; exact InvX_row hI (rowOK_ovl (hI.1 4 (by decide)) (hI.1 i (by omega)))
  have hK : KR2 S0 S2 := by rw [hw, hS0]; exact KR2_row KR2_refl (rowOK_ovl (hI.1 4 (by decide)) (hI.1 i (by omega)))
  have hn2 : (S2.1 4).2.2 = (S.1 i).2.2 := by rw [hw, xR_row]
  have hn3 := (hI2.1 4 (by decide)).1
  clear hw
  refine kt_new hx hb hts hinJ4 hown (hts (.classLink RX4 187 RJ4) (tm 564 (by decide +kernel) rfl)) (hts (.instantiable RJ4 4) (tm 374 (by decide +kernel) rfl)) (hts (.initialized RJ4) (tm 328 (by decide +kernel) rfl)) hX hT (by show _ ≤ 80; omega) (by show _ ≤ 900; omega) dX4_ranks_23 (fun a9 H hX hT => ?_)
  refine lv_dup hx hb dX4_ranks_26 rfl ?_
  refine kt_v (va_runI (As := []) (rest := [.ref a9]) ⟨hx, hb, hml, hown, hts⟩ (m_J4_init_da8c8 l dC dI cB s.heap.size a9) (cwI 0 hts gX4_ranks_J4_init_da8c8 rfl rfl rfl (hts (.initialized yJ4_init_da8c8.cls) (tm 328 (by decide +kernel) rfl)) (hts (.methodLink RX4 189 yJ4_init_da8c8) (tm 565 (by decide +kernel) rfl)) (hts (.instanceMethod yJ4_init_da8c8) (tm 414 (by decide +kernel) rfl)) rfl (by decide +kernel) ⟨Nat.le_of_ble_eq_true rfl, Nat.le_of_ble_eq_true rfl⟩) (hT.preS hX) rfl rfl hl.1 rfl (lv_room (Nat.le_of_ble_eq_true rfl)) dX4_ranks_27 ⟨by show _ ≤ 80; omega, by show _ ≤ 900; omega⟩) hX hT (fun b0 H locs _ hX hT => ?_)
  refine W.widen (k := 2) (n := 4 + 2 * 16) (by omega) (by omega) ?_
  have hf : sb_Fit (fun _ => 0) := sb_fit0
  refine lv_astore (lv' := [(6, .ref a9), (5, .ref (ad (24 + 5 * j))), (4, .ref (ad (3 * i))), (0, .ref (ad 57)), (1, .int (nI i)), (2, .int (nI j)), (3, .int (bI z))]) hx hb dX4_ranks_30 hl (by decide) rfl (fun ls hl => ?_)
  refine lv_aload_n hx hb dX4_ranks_32 rfl (lv_at hl 3 rfl) ?_
  refine kx_gspareRow hx hb hts hin4 hown hX (hts (.fieldLink RX4 36 "Orderlattice" "spareRow" "LOrderlattice$Row;") (tm 453 (by decide +kernel) rfl)) dX4_ranks_33 ?_
  refine kx_cr (v := nI ((S2.1 4).2.2)) (va_runV (As := []) (rest := []) ⟨hx, hb, hml, hown, hts⟩ (m_X2_length l dC dI ad S2 4 (by omega)) (cwV 0 hts gX4_ranks_X2_length rfl rfl rfl hdX2_length_0 ⟨Nat.le_of_ble_eq_true rfl, Nat.le_of_ble_eq_true rfl⟩) (hX.preRow (by omega)) rfl rfl hl.1 rfl (lv_room (Nat.le_of_ble_eq_true rfl)) dX4_ranks_36 ⟨by show _ ≤ 80; omega, by show _ ≤ 900; omega⟩) (fun _ h => h) ?_
  refine lv_istore (lv' := [(7, .int (nI ((S2.1 4).2.2))), (6, .ref a9), (5, .ref (ad (24 + 5 * j))), (4, .ref (ad (3 * i))), (0, .ref (ad 57)), (1, .int (nI i)), (2, .int (nI j)), (3, .int (bI z))]) hx hb dX4_ranks_39 hl (by decide) rfl (fun ls hl => ?_)
  have loop41 : ∀ (fuel : Nat) (S : XS) (y : Nat) (b1 n1 c1 : Nat) (f1 : Nat → Int32) (hI : InvX S) (hK : KR2 S0 S) (hy : (S.1 4).2.2 = y ∧ y ≤ 16) (hn1 : n1 + 3 * y ≤ 48) (hnc : n1 ≤ c1 ∧ 16 ≤ c1 ∧ c1 ≤ 320) (hf : sb_Fit f1) (H : Heap) (locs : List Loc), y < fuel → WX dC dI ad S (AZ ad s.heap.size) s H locs → TB dC dI cB ad s.heap.size [(a9, eSB b1 n1), (b1, eBy cB c1 f1)] s H → ∀ ls : Array Slot, lv_has ls 9 [(0, .ref (ad 57)), (3, .int (bI z)), (5, .ref (ad (24 + 5 * j))), (6, .ref a9), (7, .int (nI y))] → W p l e ({ frames := 7, cells := 80, slots := 900, locals := 151 } : Room) s m ([.ref (ad 57), .int (nI i), .int (nI j), .int (bI z)]).toArray below meth c H locs (2 + 2 * (16 - y)) (4 + 2 * c1) Q9 (F0 m 41 ls []) := by
    intro fuel
    induction fuel with
    | zero => intro S y b1 n1 c1 f1 hI hK hy hn1 hnc hf H locs hf9; exact absurd hf9 (Nat.not_lt_zero _)
    | succ fuel ih41 =>
      intro S y b1 n1 c1 f1 hI hK hy hn1 hnc hf H locs hf9 hX hT ls hl
      refine lv_iload hx hb dX4_ranks_41 (lv_at hl 4 rfl) ?_
      refine kn_if_le (tgt := 105) hx hb (by omega) dX4_ranks_43 (by decide) (fun k_1 => ?_) (fun k_1 => ?_)
      · skip
        refine lv_aload hx hb dX4_ranks_105 (lv_at hl 3 rfl) ?_
        refine kt_r (va_runV (As := []) (rest := []) ⟨hx, hb, hml, hown, hts⟩ (m_J4_toString_0e30d l dC dI cB s.heap.size a9 b1 n1 c1 f1 (by omega) (by omega) hf) (cwV 0 hts gX4_ranks_J4_toString_0e30d rfl rfl rfl hdJ4_toString_0e30d_0 ⟨Nat.le_of_ble_eq_true rfl, Nat.le_of_ble_eq_true rfl⟩) (hT.preV hX (ci := 1) (q := (RJ4, TJ4, 4)) rfl 0 rfl) rfl rfl hl.1 rfl (lv_room (Nat.le_of_ble_eq_true rfl)) dX4_ranks_107 ⟨by show _ ≤ 80; omega, by show _ ≤ 900; omega⟩) hX hT (fun _ q9 H locs _ _ hX hT => ?_)
        rw [← hQ9]
        exact W.widen (k := 80) (n := 900) (by omega) (by omega) (W.filt (fun locs1 hl1 => W.aret (v := .ref q9) hx hb hr (Or.inl ⟨_, rfl⟩) (Or.inr ⟨_, rfl⟩) (fun t9 ht9 hW9 => ⟨⟨S, _, rfl, (by rw [← hS0]; exact hK), hX.P ht9 hW9⟩, (hX.2.2.2.F ht9).X⟩) (free_X hX.2.2.2 hl1) dX4_ranks_110))
      · skip
        refine lv_iload_n hx hb dX4_ranks_46 rfl (lv_at hl 1 rfl) ?_
        refine kb_if_eq (tgt := 62) hx hb dX4_ranks_47 (by decide) (fun k_2 => ?_) (fun k_2 => ?_)
        · skip
          refine lv_iconst (v := nI 0) hx hb dX4_ranks_62 (by decide) ?_
          refine lv_istore (lv' := [(8, .int (nI 0)), (0, .ref (ad 57)), (3, .int (bI z)), (5, .ref (ad (24 + 5 * j))), (6, .ref a9), (7, .int (nI y))]) hx hb dX4_ranks_63 hl (by decide) rfl (fun ls hl => ?_)
          refine lv_aload hx hb dX4_ranks_65 (lv_at hl 4 rfl) ?_
          have hcb := cap_b (q := n1 + 1) (cp := c1) (Q := 160) (by omega) (by omega)
          refine kt_gap (sl := 4) 160 (va_runS (As := [.ref a9]) (rest := []) ⟨hx, hb, hml, hown, hts⟩ (m_X4_appendGap l dC dI cB s.heap.size a9 b1 n1 c1 f1 (by omega) (by omega) hf (by omega) (by omega)) (cwS 1 hts gX4_ranks_X4_appendGap rfl rfl rfl (by decide +kernel) ⟨Nat.le_of_ble_eq_true rfl, Nat.le_of_ble_eq_true rfl⟩) (hT.preS hX) rfl rfl hl.1 rfl (lv_room (Nat.le_of_ble_eq_true rfl)) dX4_ranks_67 ⟨by show _ ≤ 80; omega, by show _ ≤ 900; have := gm_pot (n1 + 1) c1; omega⟩) hX hT (by omega) (by omega) (fun b_3 n_3 c_3 f_3 H locs hX hT hf _ _ _ _ => ?_)
          refine lv_aload hx hb dX4_ranks_70 (lv_at hl 4 rfl) ?_
          refine lv_aload hx hb dX4_ranks_72 (lv_at hl 3 rfl) ?_
          refine lv_aload_n hx hb dX4_ranks_74 rfl (lv_at hl 1 rfl) ?_
          refine kx_gspareRow hx hb hts hin4 hown hX (hts (.fieldLink RX4 36 "Orderlattice" "spareRow" "LOrderlattice$Row;") (tm 453 (by decide +kernel) rfl)) dX4_ranks_75 ?_
          refine lv_iload hx hb dX4_ranks_78 (lv_at hl 0 rfl) ?_
          refine kx_cr (v := nI (((S.1 4).1) 0)) (va_runV (As := [.int (nI 0)]) (rest := [.ref (ad (24 + 5 * j)), .ref a9]) ⟨hx, hb, hml, hown, hts⟩ (m_X2_valueOn l dC dI ad S 4 0 (by omega) (by omega)) (cwV 1 hts gX4_ranks_X2_valueOn rfl rfl rfl hdX2_valueOn_1 ⟨Nat.le_of_ble_eq_true rfl, Nat.le_of_ble_eq_true rfl⟩) (hX.preRow (by omega)) rfl rfl hl.1 rfl (lv_room (Nat.le_of_ble_eq_true rfl)) dX4_ranks_80 ⟨by show _ ≤ 80; omega, by show _ ≤ 900; omega⟩) (fun _ h => h) ?_
          have hv9 := (hI.1 4 (by decide)).2 0 (by omega)
          have hrk := ordOK.rnk (hI.2 j (by omega)) hv9.1
          have hd9 := dg2 (v := (S.2.1 j).2.2.2.1 ((S.1 4).1 0)) (by omega)
          refine kx_cr (v := nI (((S.2.1 j).2.2.2.1) (((S.1 4).1) 0))) (va_runV (As := [.int (nI (((S.1 4).1) 0))]) (rest := [.ref a9]) ⟨hx, hb, hml, hown, hts⟩ (m_X1_rankOf l dC dI ad S j (((S.1 4).1) 0) (by omega) (by omega)) (cwV 1 hts gX4_ranks_X1_rankOf rfl rfl rfl hdX1_rankOf_1 ⟨Nat.le_of_ble_eq_true rfl, Nat.le_of_ble_eq_true rfl⟩) (hX.preOrd (by omega)) rfl rfl hl.1 rfl (lv_room (Nat.le_of_ble_eq_true rfl)) dX4_ranks_83 ⟨by show _ ≤ 80; omega, by show _ ≤ 900; omega⟩) (fun _ h => h) ?_
          have hcb := cap_b (q := n_3 + sb_dg (((S.2.1 j).2.2.2.1) (((S.1 4).1) 0))) (cp := c_3) (Q := 160) (by omega) (by omega)
          refine kt_app (sl := 4) (n2 := n_3 + sb_dg (((S.2.1 j).2.2.2.1) (((S.1 4).1) 0))) 160 (va_runV (As := [.int (nI (((S.2.1 j).2.2.2.1) (((S.1 4).1) 0)))]) (rest := []) ⟨hx, hb, hml, hown, hts⟩ (m_J4_append_bf812 l dC dI cB s.heap.size a9 b_3 n_3 c_3 f_3 (by omega) (by omega) hf (((S.2.1 j).2.2.2.1) (((S.1 4).1) 0)) (by omega) (by omega)) (cwV 1 hts gX4_ranks_J4_append_bf812 rfl rfl rfl hdJ4_append_bf812_1 ⟨Nat.le_of_ble_eq_true rfl, Nat.le_of_ble_eq_true rfl⟩) (hT.preV hX (ci := 1) (q := (RJ4, TJ4, 4)) rfl 0 rfl) rfl rfl hl.1 rfl (lv_room (Nat.le_of_ble_eq_true rfl)) dX4_ranks_86 ⟨by show _ ≤ 80; omega, by show _ ≤ 900; have := gm_pot (n_3 + sb_dg (((S.2.1 j).2.2.2.1) (((S.1 4).1) 0))) c_3; omega⟩) hX hT (by omega) (by omega) (fun b_4 c_4 f_4 H locs hX hT hf _ _ _ => ?_)
          refine lv_pop hx hb dX4_ranks_89 rfl ?_
          refine lv_aload_n hx hb dX4_ranks_90 rfl (lv_at hl 1 rfl) ?_
          refine kx_gspareRow hx hb hts hin4 hown hX (hts (.fieldLink RX4 36 "Orderlattice" "spareRow" "LOrderlattice$Row;") (tm 453 (by decide +kernel) rfl)) dX4_ranks_91 ?_
          refine lv_iload hx hb dX4_ranks_94 (lv_at hl 0 rfl) ?_
          refine kt_x (va_runV (As := [.int (nI 0)]) (rest := []) ⟨hx, hb, hml, hown, hts⟩ (m_X2_remove l dC dI ad S 4 0 (by omega) (hI.1 4 (by decide)).1 (by omega)) (cwV 1 hts gX4_ranks_X2_remove rfl rfl rfl hdX2_remove_1 ⟨Nat.le_of_ble_eq_true rfl, Nat.le_of_ble_eq_true rfl⟩) (hX.preRow (by omega)) rfl rfl hl.1 rfl (lv_room (Nat.le_of_ble_eq_true rfl)) dX4_ranks_96 ⟨by show _ ≤ 80; omega, by show _ ≤ 900; omega⟩) hX hT (fun S3 H locs hw hX hT => ?_)
          have hI3 : InvX S3 := by rw [hw]; exact InvX_row hI (rowOK_rem (hI.1 4 (by decide)) (by omega))
          have hK3 : KR2 S0 S3 := by rw [hw]; exact KR2_row hK (rowOK_rem (hI.1 4 (by decide)) (by omega))
          have hn3 : (S3.1 4).2.2 = (S.1 4).2.2 - 1 := by rw [hw, xR_row]
          clear hw
          refine lv_iinc (v := nI (y - 1)) (lv' := [(7, .int (nI (y - 1))), (8, .int (nI 0)), (0, .ref (ad 57)), (3, .int (bI z)), (5, .ref (ad (24 + 5 * j))), (6, .ref a9)]) hx hb dX4_ranks_99 hl (k := 5) rfl (kn_dec (by omega)) (by decide) rfl (fun ls hl => ?_)
          refine lv_goto (tgt := 41) hx hb dX4_ranks_102 (by decide) ?_
          refine W.widen (k := 2 + 2 * (16 - (y - 1))) (n := 4 + 2 * c_4) (by omega) (by omega) ?_
          exact ih41  S3 (y - 1) b_4 (n_3 + sb_dg (((S.2.1 j).2.2.2.1) (((S.1 4).1) 0))) c_4 f_4 hI3 hK3 ⟨by omega, by omega⟩ (by omega) (by omega) hf _ _ (by omega) hX hT _ (lv_sub hl [2, 3, 4, 5, 0] rfl)
        · skip
          refine lv_aload_n hx hb dX4_ranks_50 rfl (lv_at hl 0 rfl) ?_
          refine kx_gspareRow hx hb hts hin4 hown hX (hts (.fieldLink RX4 36 "Orderlattice" "spareRow" "LOrderlattice$Row;") (tm 453 (by decide +kernel) rfl)) dX4_ranks_51 ?_
          refine lv_aload hx hb dX4_ranks_54 (lv_at hl 2 rfl) ?_
          refine kx_cr (v := (oI (bestB (fun _ => true) (fun a b => decide ((S.2.1 j).2.2.1 ((S.1 4).1 a) < (S.2.1 j).2.2.1 ((S.1 4).1 b))) (S.1 4).2.2))) (va_runV (As := [.ref (ad (24 + 5 * j))]) (rest := []) ⟨hx, hb, hml, hown, hts⟩ (m_X2_firstPlaceBy l dC dI ad S 4 j (by omega) (by omega) (hI.1 4 (by omega)) (hI.2 j (by omega))) (cwV 1 hts gX4_ranks_X2_firstPlaceBy rfl rfl rfl hdX2_firstPlaceBy_1 ⟨Nat.le_of_ble_eq_true rfl, Nat.le_of_ble_eq_true rfl⟩) (hX.preRow (by omega)) rfl rfl hl.1 rfl (lv_room (Nat.le_of_ble_eq_true rfl)) dX4_ranks_56 ⟨by show _ ≤ 80; omega, by show _ ≤ 900; omega⟩) (fun _ h => h) ?_
          obtain ⟨bb, hbb⟩ := bestB_some (lt := (fun a b => decide ((S.2.1 j).2.2.1 ((S.1 4).1 a) < (S.2.1 j).2.2.1 ((S.1 4).1 b)))) (show 0 < (S.1 4).2.2 by omega)
          have hb9 := (bestB_lt hbb).1
          rw [hbb]
          refine lv_goto (tgt := 63) hx hb dX4_ranks_59 (by decide) ?_
          refine lv_istore (lv' := [(8, .int (nI bb)), (0, .ref (ad 57)), (3, .int (bI z)), (5, .ref (ad (24 + 5 * j))), (6, .ref a9), (7, .int (nI y))]) hx hb dX4_ranks_63 hl (by decide) rfl (fun ls hl => ?_)
          refine lv_aload hx hb dX4_ranks_65 (lv_at hl 4 rfl) ?_
          have hcb := cap_b (q := n1 + 1) (cp := c1) (Q := 160) (by omega) (by omega)
          refine kt_gap (sl := 4) 160 (va_runS (As := [.ref a9]) (rest := []) ⟨hx, hb, hml, hown, hts⟩ (m_X4_appendGap l dC dI cB s.heap.size a9 b1 n1 c1 f1 (by omega) (by omega) hf (by omega) (by omega)) (cwS 1 hts gX4_ranks_X4_appendGap rfl rfl rfl (by decide +kernel) ⟨Nat.le_of_ble_eq_true rfl, Nat.le_of_ble_eq_true rfl⟩) (hT.preS hX) rfl rfl hl.1 rfl (lv_room (Nat.le_of_ble_eq_true rfl)) dX4_ranks_67 ⟨by show _ ≤ 80; omega, by show _ ≤ 900; have := gm_pot (n1 + 1) c1; omega⟩) hX hT (by omega) (by omega) (fun b_5 n_5 c_5 f_5 H locs hX hT hf _ _ _ _ => ?_)
          refine lv_aload hx hb dX4_ranks_70 (lv_at hl 4 rfl) ?_
          refine lv_aload hx hb dX4_ranks_72 (lv_at hl 3 rfl) ?_
          refine lv_aload_n hx hb dX4_ranks_74 rfl (lv_at hl 1 rfl) ?_
          refine kx_gspareRow hx hb hts hin4 hown hX (hts (.fieldLink RX4 36 "Orderlattice" "spareRow" "LOrderlattice$Row;") (tm 453 (by decide +kernel) rfl)) dX4_ranks_75 ?_
          refine lv_iload hx hb dX4_ranks_78 (lv_at hl 0 rfl) ?_
          refine kx_cr (v := nI (((S.1 4).1) bb)) (va_runV (As := [.int (nI bb)]) (rest := [.ref (ad (24 + 5 * j)), .ref a9]) ⟨hx, hb, hml, hown, hts⟩ (m_X2_valueOn l dC dI ad S 4 bb (by omega) (by omega)) (cwV 1 hts gX4_ranks_X2_valueOn rfl rfl rfl hdX2_valueOn_1 ⟨Nat.le_of_ble_eq_true rfl, Nat.le_of_ble_eq_true rfl⟩) (hX.preRow (by omega)) rfl rfl hl.1 rfl (lv_room (Nat.le_of_ble_eq_true rfl)) dX4_ranks_80 ⟨by show _ ≤ 80; omega, by show _ ≤ 900; omega⟩) (fun _ h => h) ?_
          have hv9 := (hI.1 4 (by decide)).2 bb (by omega)
          have hrk := ordOK.rnk (hI.2 j (by omega)) hv9.1
          have hd9 := dg2 (v := (S.2.1 j).2.2.2.1 ((S.1 4).1 bb)) (by omega)
          refine kx_cr (v := nI (((S.2.1 j).2.2.2.1) (((S.1 4).1) bb))) (va_runV (As := [.int (nI (((S.1 4).1) bb))]) (rest := [.ref a9]) ⟨hx, hb, hml, hown, hts⟩ (m_X1_rankOf l dC dI ad S j (((S.1 4).1) bb) (by omega) (by omega)) (cwV 1 hts gX4_ranks_X1_rankOf rfl rfl rfl hdX1_rankOf_1 ⟨Nat.le_of_ble_eq_true rfl, Nat.le_of_ble_eq_true rfl⟩) (hX.preOrd (by omega)) rfl rfl hl.1 rfl (lv_room (Nat.le_of_ble_eq_true rfl)) dX4_ranks_83 ⟨by show _ ≤ 80; omega, by show _ ≤ 900; omega⟩) (fun _ h => h) ?_
          have hcb := cap_b (q := n_5 + sb_dg (((S.2.1 j).2.2.2.1) (((S.1 4).1) bb))) (cp := c_5) (Q := 160) (by omega) (by omega)
          refine kt_app (sl := 4) (n2 := n_5 + sb_dg (((S.2.1 j).2.2.2.1) (((S.1 4).1) bb))) 160 (va_runV (As := [.int (nI (((S.2.1 j).2.2.2.1) (((S.1 4).1) bb)))]) (rest := []) ⟨hx, hb, hml, hown, hts⟩ (m_J4_append_bf812 l dC dI cB s.heap.size a9 b_5 n_5 c_5 f_5 (by omega) (by omega) hf (((S.2.1 j).2.2.2.1) (((S.1 4).1) bb)) (by omega) (by omega)) (cwV 1 hts gX4_ranks_J4_append_bf812 rfl rfl rfl hdJ4_append_bf812_1 ⟨Nat.le_of_ble_eq_true rfl, Nat.le_of_ble_eq_true rfl⟩) (hT.preV hX (ci := 1) (q := (RJ4, TJ4, 4)) rfl 0 rfl) rfl rfl hl.1 rfl (lv_room (Nat.le_of_ble_eq_true rfl)) dX4_ranks_86 ⟨by show _ ≤ 80; omega, by show _ ≤ 900; have := gm_pot (n_5 + sb_dg (((S.2.1 j).2.2.2.1) (((S.1 4).1) bb))) c_5; omega⟩) hX hT (by omega) (by omega) (fun b_6 c_6 f_6 H locs hX hT hf _ _ _ => ?_)
          refine lv_pop hx hb dX4_ranks_89 rfl ?_
          refine lv_aload_n hx hb dX4_ranks_90 rfl (lv_at hl 1 rfl) ?_
          refine kx_gspareRow hx hb hts hin4 hown hX (hts (.fieldLink RX4 36 "Orderlattice" "spareRow" "LOrderlattice$Row;") (tm 453 (by decide +kernel) rfl)) dX4_ranks_91 ?_
          refine lv_iload hx hb dX4_ranks_94 (lv_at hl 0 rfl) ?_
          refine kt_x (va_runV (As := [.int (nI bb)]) (rest := []) ⟨hx, hb, hml, hown, hts⟩ (m_X2_remove l dC dI ad S 4 bb (by omega) (hI.1 4 (by decide)).1 (by omega)) (cwV 1 hts gX4_ranks_X2_remove rfl rfl rfl hdX2_remove_1 ⟨Nat.le_of_ble_eq_true rfl, Nat.le_of_ble_eq_true rfl⟩) (hX.preRow (by omega)) rfl rfl hl.1 rfl (lv_room (Nat.le_of_ble_eq_true rfl)) dX4_ranks_96 ⟨by show _ ≤ 80; omega, by show _ ≤ 900; omega⟩) hX hT (fun S3 H locs hw hX hT => ?_)
          have hI3 : InvX S3 := by rw [hw]; exact InvX_row hI (rowOK_rem (hI.1 4 (by decide)) (by omega))
          have hK3 : KR2 S0 S3 := by rw [hw]; exact KR2_row hK (rowOK_rem (hI.1 4 (by decide)) (by omega))
          have hn3 : (S3.1 4).2.2 = (S.1 4).2.2 - 1 := by rw [hw, xR_row]
          clear hw
          refine lv_iinc (v := nI (y - 1)) (lv' := [(7, .int (nI (y - 1))), (8, .int (nI bb)), (0, .ref (ad 57)), (3, .int (bI z)), (5, .ref (ad (24 + 5 * j))), (6, .ref a9)]) hx hb dX4_ranks_99 hl (k := 5) rfl (kn_dec (by omega)) (by decide) rfl (fun ls hl => ?_)
          refine lv_goto (tgt := 41) hx hb dX4_ranks_102 (by decide) ?_
          refine W.widen (k := 2 + 2 * (16 - (y - 1))) (n := 4 + 2 * c_6) (by omega) (by omega) ?_
          exact ih41  S3 (y - 1) b_6 (n_5 + sb_dg (((S.2.1 j).2.2.2.1) (((S.1 4).1) bb))) c_6 f_6 hI3 hK3 ⟨by omega, by omega⟩ (by omega) (by omega) hf _ _ (by omega) hX hT _ (lv_sub hl [2, 3, 4, 5, 0] rfl)
  refine W.widen (k := 2 + 2 * (16 - ((S2.1 4).2.2))) (n := 4 + 2 * 16) (by omega) (by omega) ?_
  exact loop41 ((S2.1 4).2.2 + 1) S2 ((S2.1 4).2.2) b0 0 16 (fun _ => 0) hI2 hK ⟨rfl, hn3⟩ (by omega) (by omega) hf _ _ (by omega) hX hT _ (lv_sub hl [4, 7, 2, 1, 0] rfl)
end
