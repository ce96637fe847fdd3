/-! sorters -/
theorem min_nI {a b : Nat} (ha : a < 2 ^ 31) (hb : b < 2 ^ 31) : (if nI b < nI a then nI b else nI a) = nI (min a b) := by
  by_cases h : b < a
  · rw [if_pos (nI_lt h ha), Nat.min_eq_right (by omega)]
  · rw [if_neg (nI_nlt (by omega) hb), Nat.min_eq_left (by omega)]
section KMIN
variable {p : Program} {l : Launch} {e : Env} {R : Room} {s : State} {m : MethodId} {args : Array Value} {below : List Frame} {meth : Method} {c : Code} {H : Heap} {locs : List Loc} {cells slots : Nat} {Q : State → Prop}
theorem kn_min {cc : ByteArray} {pc : Nat} {ls : Array Slot} {rest : List Value} {a b : Nat} (hx : p.tables.exec = Jvm.exec) (hb : c.code = cc) (hml : c.maxLocals = ls.size) {own : String} {index : Nat} (hown : s.vm.findClass own = some m.cls) (hlink : (Cond.methodLink own index Lib.Math.min.name).before args s = true) (hstat : (Cond.static Lib.Math.min.name).before args s = true) (hini : (Cond.initialized "java/lang/Math").before args s = true) (hcode : (Cond.code Lib.Math.min.name Lib.Math.min.code 2 (some .int)).before args s = true)
    (hframes : 1 ≤ R.frames) (hlocals : (rest.map fun v => v.category).sum + 13 ≤ R.locals) (hc : cells ≤ R.cells) (hs : slots ≤ R.slots) (ha : a < 2 ^ 31) (hb2 : b < 2 ^ 31) (hdg : decode cc pc = .ok (.invokestatic index, 3))
    (kk : W p l e R s m args below meth c H locs cells slots Q (F0 m (pc + 3) ls (.int (nI (min a b)) :: rest))) : W p l e R s m args below meth c H locs cells slots Q (F0 m pc ls (.int (nI b) :: .int (nI a) :: rest)) :=
  va_mmin hx hb hml hown hlink hstat hini hcode hframes hlocals hc hs hdg (by rw [min_nI ha hb2]; exact kk)
end KMIN
theorem xch_lt {f : Nat → Nat} {a b k N : Nat} (h : ∀ q, q < 16 → f q < N) (ha : a < 16) (hb : b < 16) (hk : k < 16) : xch f a b k < N := by
  unfold xch va_up
  split
  · exact h a ha
  · split
    · exact h b hb
    · exact h k hk
theorem up_lt {f : Nat → Nat} {a v k N : Nat} (h : ∀ q, q < 16 → f q < N) (hv : v < N) (hk : k < 16) : va_up f a v k < N := by
  unfold va_up
  split
  · exact hv
  · exact h k hk
theorem rowOK_xch {r : RowS} (h : rowOK r) {a b : Nat} (ha : a < 16) (hb : b < 16) : rowOK (xch r.1 a b, xch r.2.1 a b, r.2.2) :=
  ⟨h.1, fun _ hk => ⟨xch_lt (fun q hq => (h.2 q hq).1) ha hb hk, xch_lt (fun q hq => (h.2 q hq).2) ha hb hk⟩⟩
theorem rowOK_app {r : RowS} (h : rowOK r) (hn : r.2.2 < 16) {v u : Nat} (hv : v < 16) (hu : u < 1000000) : rowOK (va_up r.1 r.2.2 v, va_up r.2.1 r.2.2 u, r.2.2 + 1) :=
  ⟨hn, fun _ hk => ⟨up_lt (fun q hq => (h.2 q hq).1) hv hk, up_lt (fun q hq => (h.2 q hq).2) hu hk⟩⟩
theorem rowOK_ovl {r t : RowS} (h : rowOK r) (h2 : rowOK t) : rowOK (ovl t.1 r.1 t.2.2, ovl t.2.1 r.2.1 t.2.2, t.2.2) :=
  ⟨h2.1, fun k hk => by
    dsimp only
    unfold ovl
    split
    · exact h2.2 k hk
    · exact h.2 k hk⟩
theorem rowOK_0 {r : RowS} (h : rowOK r) : rowOK (r.1, r.2.1, 0) := ⟨Nat.zero_le _, h.2⟩
set_option maxHeartbeats 4000000 in
set_option maxRecDepth 100000 in
theorem m_X3_insertEach (l : Launch) (dC : Nat → ClassId) (dI : Nat → Nat → Nat) (ad : Nat → Nat) (S : XS) (w i j f t9 : Nat) (hw : w < 2) (hi : i < 8) (hj : j < 6) (hro : rowOK (S.1 i)) (ho : ordOK (S.2.1 j)) (hf : f ≤ t9) (ht9 : t9 ≤ (S.1 i).2.2) : Met l yX3_insertEach wsX3_insertEach ({ frames := 2, cells := 0, slots := 0, locals := 47 } : Room) (va_Pc [.ref (ad (54 + w)), .ref (ad (3 * i)), .ref (ad (24 + 5 * j)), .int (nI f), .int (nI t9)] (PX dC dI ad S)) (va_Qv (fun S' => ∃ r' : RowS, S' = xR S i r' ∧ rowOK r' ∧ r'.2.2 = (S.1 i).2.2) (PX dC dI ad) (AX ad)) 0 0 (AX ad) := by
  refine Met.ofW (cc := cX3_insertEach) (maxL := 7) (ret := none) pl_X3 rfl ?_
  intro p e s m args below meth c s₁ B hml hv
  obtain ⟨rfl, hPX⟩ := hv
  have hx := B.exec
  have hb := B.bytes
  have hr := B.returns
  have hts := atoms_spec (ws := wsX3_insertEach) B.pre
  have hown : s.vm.findClass RX3 = some m.cls := findClass_of_methodNamed B.named
  have hlocks := B.notSynchronized
  have hX := WX.of hPX
  have hl := lv_entry ([.ref (ad (54 + w)), .ref (ad (3 * i)), .ref (ad (24 + 5 * j)), .int (nI f), .int (nI t9)]) (n := 7) (Nat.le_of_ble_eq_true rfl)
  rw [lg_entry_eq]
  generalize (lg_sl ([.ref (ad (54 + w)), .ref (ad (3 * i)), .ref (ad (24 + 5 * j)), .int (nI f), .int (nI t9)]) ++ List.replicate (7 - (lg_sl ([.ref (ad (54 + w)), .ref (ad (3 * i)), .ref (ad (24 + 5 * j)), .int (nI f), .int (nI t9)])).length) Slot.unset).toArray = ls at hl ⊢
  have hl : lv_has ls 7 [(0, .ref (ad (54 + w))), (1, .ref (ad (3 * i))), (2, .ref (ad (24 + 5 * j))), (3, .int (nI f)), (4, .int (nI t9))] := hl
  show W p l e ({ frames := 2, cells := 0, slots := 0, locals := 47 } : Room) s m ([.ref (ad (54 + w)), .ref (ad (3 * i)), .ref (ad (24 + 5 * j)), .int (nI f), .int (nI t9)]).toArray below meth c s.heap [] 0 0 (MQ below (va_Qv (fun S' => ∃ r' : RowS, S' = xR S i r' ∧ rowOK r' ∧ r'.2.2 = (S.1 i).2.2) (PX dC dI ad) (AX ad)) ([.ref (ad (54 + w)), .ref (ad (3 * i)), .ref (ad (24 + 5 * j)), .int (nI f), .int (nI t9)]).toArray s 0 0 (AX ad)) (F0 m 0 ls [])
  have hn := hro.1
  refine lv_iload_n hx hb dX3_insertEach_0 rfl (lv_at hl 3 rfl) ?_
  refine lv_iconst (v := nI 1) hx hb dX3_insertEach_1 (by decide) ?_
  refine kn_iadd hx hb dX3_insertEach_2 ?_
  refine lv_istore (lv' := [(5, .int (nI (f + 1))), (0, .ref (ad (54 + w))), (1, .ref (ad (3 * i))), (2, .ref (ad (24 + 5 * j))), (3, .int (nI f)), (4, .int (nI t9))]) hx hb dX3_insertEach_3 hl (by decide) rfl (fun ls hl => ?_)
  have loop5 : ∀ (fuel : Nat) (r : RowS) (nx : Nat) (hr9 : rowOK r ∧ r.2.2 = (S.1 i).2.2) (hnx : f + 1 ≤ nx ∧ nx ≤ 17) (H : Heap) (locs : List Loc), 18 - nx < fuel → WX dC dI ad (xR S i (r.1, r.2.1, r.2.2)) (AX ad) s H locs → ∀ ls : Array Slot, lv_has ls 7 [(0, .ref (ad (54 + w))), (1, .ref (ad (3 * i))), (2, .ref (ad (24 + 5 * j))), (3, .int (nI f)), (4, .int (nI t9)), (5, .int (nI nx))] → W p l e ({ frames := 2, cells := 0, slots := 0, locals := 47 } : Room) s m ([.ref (ad (54 + w)), .ref (ad (3 * i)), .ref (ad (24 + 5 * j)), .int (nI f), .int (nI t9)]).toArray below meth c H locs 0 0 (MQ below (va_Qv (fun S' => ∃ r' : RowS, S' = xR S i r' ∧ rowOK r' ∧ r'.2.2 = (S.1 i).2.2) (PX dC dI ad) (AX ad)) ([.ref (ad (54 + w)), .ref (ad (3 * i)), .ref (ad (24 + 5 * j)), .int (nI f), .int (nI t9)]).toArray s 0 0 (AX ad)) (F0 m 5 ls []) := by
    intro fuel
    induction fuel with
    | zero => intro r nx hr9 hnx H locs hf; exact absurd hf (Nat.not_lt_zero _)
    | succ fuel ih5 =>
      intro r nx hr9 hnx H locs hf hX ls hl
      refine lv_iload hx hb dX3_insertEach_5 (lv_at hl 5 rfl) ?_
      refine lv_iload hx hb dX3_insertEach_7 (lv_at hl 4 rfl) ?_
      refine kn_icmp_ge (tgt := 65) hx hb (by omega) (by omega) dX3_insertEach_9 (by decide) (fun k_1 => ?_) (fun k_1 => ?_)
      · skip
        exact W.vret hx hb hr (fun t9 ht9 hW9 => ⟨⟨(xR S i (r.1, r.2.1, r.2.2)), rfl, ⟨r, rfl, hr9⟩, hX.P ht9 hW9⟩, hX.2.2.2.F ht9⟩) hX.2.2.2.2.2 dX3_insertEach_65
      · skip
        refine lv_iload hx hb dX3_insertEach_12 (lv_at hl 5 rfl) ?_
        refine lv_istore (lv' := [(6, .int (nI nx)), (0, .ref (ad (54 + w))), (1, .ref (ad (3 * i))), (2, .ref (ad (24 + 5 * j))), (3, .int (nI f)), (4, .int (nI t9)), (5, .int (nI nx))]) hx hb dX3_insertEach_14 hl (by decide) rfl (fun ls hl => ?_)
        have loop16 : ∀ (fuel : Nat) (r : RowS) (a : Nat) (hr9 : rowOK r ∧ r.2.2 = (S.1 i).2.2) (ha : f ≤ a ∧ a ≤ nx) (H : Heap) (locs : List Loc), a < fuel → WX dC dI ad (xR S i (r.1, r.2.1, r.2.2)) (AX ad) s H locs → ∀ ls : Array Slot, lv_has ls 7 [(0, .ref (ad (54 + w))), (1, .ref (ad (3 * i))), (2, .ref (ad (24 + 5 * j))), (3, .int (nI f)), (4, .int (nI t9)), (5, .int (nI nx)), (6, .int (nI a))] → W p l e ({ frames := 2, cells := 0, slots := 0, locals := 47 } : Room) s m ([.ref (ad (54 + w)), .ref (ad (3 * i)), .ref (ad (24 + 5 * j)), .int (nI f), .int (nI t9)]).toArray below meth c H locs 0 0 (MQ below (va_Qv (fun S' => ∃ r' : RowS, S' = xR S i r' ∧ rowOK r' ∧ r'.2.2 = (S.1 i).2.2) (PX dC dI ad) (AX ad)) ([.ref (ad (54 + w)), .ref (ad (3 * i)), .ref (ad (24 + 5 * j)), .int (nI f), .int (nI t9)]).toArray s 0 0 (AX ad)) (F0 m 16 ls []) := by
          intro fuel
          induction fuel with
          | zero => intro r a hr9 ha H locs hf; exact absurd hf (Nat.not_lt_zero _)
          | succ fuel ih16 =>
            intro r a hr9 ha H locs hf hX ls hl
            refine lv_iload hx hb dX3_insertEach_16 (lv_at hl 6 rfl) ?_
            refine lv_iload_n hx hb dX3_insertEach_18 rfl (lv_at hl 3 rfl) ?_
            refine kn_icmp_le (tgt := 59) hx hb (by omega) (by omega) dX3_insertEach_19 (by decide) (fun k_2 => ?_) (fun k_2 => ?_)
            · skip
              refine lv_iinc (v := nI (nx + 1)) (lv' := [(5, .int (nI (nx + 1))), (0, .ref (ad (54 + w))), (1, .ref (ad (3 * i))), (2, .ref (ad (24 + 5 * j))), (3, .int (nI f)), (4, .int (nI t9)), (6, .int (nI a))]) hx hb dX3_insertEach_59 hl (k := 5) rfl (nI_1 nx) (by decide) rfl (fun ls hl => ?_)
              refine lv_goto (tgt := 5) hx hb dX3_insertEach_62 (by decide) ?_
              exact ih5  r (nx + 1) hr9 (by omega) _ _ (by omega) hX _ (lv_sub hl [1, 2, 3, 4, 5, 0] rfl)
            · skip
              refine lv_aload_n hx hb dX3_insertEach_22 rfl (lv_at hl 2 rfl) ?_
              refine lv_aload_n hx hb dX3_insertEach_23 rfl (lv_at hl 1 rfl) ?_
              refine lv_iload hx hb dX3_insertEach_24 (lv_at hl 6 rfl) ?_
              refine kx_cr (v := nI (r.1 a)) (va_runV (As := [.int (nI a)]) (rest := [.ref (ad (24 + 5 * j))]) ⟨hx, hb, hml, hown, hts⟩ (m_X2_valueOn l dC dI ad (xR S i (r.1, r.2.1, r.2.2)) i a hi (by omega)) (cwV 1 hts gX3_insertEach_X2_valueOn rfl rfl rfl hdX2_valueOn_1 ⟨Nat.le_of_ble_eq_true rfl, Nat.le_of_ble_eq_true rfl⟩) (hX.preRow hi) rfl rfl hl.1 rfl (lv_room (Nat.le_of_ble_eq_true rfl)) dX3_insertEach_26 ⟨Nat.le_of_ble_eq_true rfl, Nat.le_of_ble_eq_true rfl⟩) (fun _ h => by rw [h, xR_row]) ?_
              refine lv_aload_n hx hb dX3_insertEach_29 rfl (lv_at hl 1 rfl) ?_
              refine lv_iload hx hb dX3_insertEach_30 (lv_at hl 6 rfl) ?_
              refine lv_iconst (v := nI 1) hx hb dX3_insertEach_32 (by decide) ?_
              refine kn_isub hx hb (by omega) dX3_insertEach_33 ?_
              refine kx_cr (v := nI (r.1 (a - 1))) (va_runV (As := [.int (nI (a - 1))]) (rest := [.int (nI (r.1 a)), .ref (ad (24 + 5 * j))]) ⟨hx, hb, hml, hown, hts⟩ (m_X2_valueOn l dC dI ad (xR S i (r.1, r.2.1, r.2.2)) i (a - 1) hi (by omega)) (cwV 1 hts gX3_insertEach_X2_valueOn rfl rfl rfl hdX2_valueOn_1 ⟨Nat.le_of_ble_eq_true rfl, Nat.le_of_ble_eq_true rfl⟩) (hX.preRow hi) rfl rfl hl.1 rfl (lv_room (Nat.le_of_ble_eq_true rfl)) dX3_insertEach_34 ⟨Nat.le_of_ble_eq_true rfl, Nat.le_of_ble_eq_true rfl⟩) (fun _ h => by rw [h, xR_row]) ?_
              refine kx_cr (v := cmpI (((S.2.1 j).2.2.1) (r.1 a)) (((S.2.1 j).2.2.1) (r.1 (a - 1)))) (va_runV (As := [.int (nI (r.1 a)), .int (nI (r.1 (a - 1)))]) (rest := []) ⟨hx, hb, hml, hown, hts⟩ (m_X1_compared l dC dI ad (xR S i (r.1, r.2.1, r.2.2)) j (r.1 a) (r.1 (a - 1)) hj ho (hr9.1.2 _ (by omega)).1 (hr9.1.2 _ (by omega)).1) (cwV 2 hts gX3_insertEach_X1_compared rfl rfl rfl hdX1_compared_2 ⟨Nat.le_of_ble_eq_true rfl, Nat.le_of_ble_eq_true rfl⟩) (hX.preOrd hj) rfl rfl hl.1 rfl (lv_room (Nat.le_of_ble_eq_true rfl)) dX3_insertEach_37 ⟨Nat.le_of_ble_eq_true rfl, Nat.le_of_ble_eq_true rfl⟩) (fun _ h => h) ?_
              refine kc_if_ge (tgt := 59) hx hb dX3_insertEach_40 (by decide) (fun k_3 => ?_) (fun k_3 => ?_)
              · skip
                have hc := k_3
                refine lv_iinc (v := nI (nx + 1)) (lv' := [(5, .int (nI (nx + 1))), (0, .ref (ad (54 + w))), (1, .ref (ad (3 * i))), (2, .ref (ad (24 + 5 * j))), (3, .int (nI f)), (4, .int (nI t9)), (6, .int (nI a))]) hx hb dX3_insertEach_59 hl (k := 5) rfl (nI_1 nx) (by decide) rfl (fun ls hl => ?_)
                refine lv_goto (tgt := 5) hx hb dX3_insertEach_62 (by decide) ?_
                exact ih5  r (nx + 1) hr9 (by omega) _ _ (by omega) hX _ (lv_sub hl [1, 2, 3, 4, 5, 0] rfl)
              · skip
                have hc := k_3
                refine lv_aload_n hx hb dX3_insertEach_43 rfl (lv_at hl 1 rfl) ?_
                refine lv_iload hx hb dX3_insertEach_44 (lv_at hl 6 rfl) ?_
                refine lv_iload hx hb dX3_insertEach_46 (lv_at hl 6 rfl) ?_
                refine lv_iconst (v := nI 1) hx hb dX3_insertEach_48 (by decide) ?_
                refine kn_isub hx hb (by omega) dX3_insertEach_49 ?_
                refine kx_cv (va_runV (As := [.int (nI a), .int (nI (a - 1))]) (rest := []) ⟨hx, hb, hml, hown, hts⟩ (m_X2_exchange l dC dI ad (xR S i (r.1, r.2.1, r.2.2)) i a (a - 1) hi (by omega) (by omega)) (cwV 2 hts gX3_insertEach_X2_exchange rfl rfl rfl hdX2_exchange_2 ⟨Nat.le_of_ble_eq_true rfl, Nat.le_of_ble_eq_true rfl⟩) (hX.preRow hi) rfl rfl hl.1 rfl (lv_room (Nat.le_of_ble_eq_true rfl)) dX3_insertEach_50 ⟨Nat.le_of_ble_eq_true rfl, Nat.le_of_ble_eq_true rfl⟩) hX (fun _ h => h) (fun S_ H locs hw hX => ?_)
                rw [xR_row, xR_xR] at hw
                subst hw
                refine lv_iinc (v := nI (a - 1)) (lv' := [(6, .int (nI (a - 1))), (0, .ref (ad (54 + w))), (1, .ref (ad (3 * i))), (2, .ref (ad (24 + 5 * j))), (3, .int (nI f)), (4, .int (nI t9)), (5, .int (nI nx))]) hx hb dX3_insertEach_53 hl (k := 6) rfl (kn_dec (by omega)) (by decide) rfl (fun ls hl => ?_)
                refine lv_goto (tgt := 16) hx hb dX3_insertEach_56 (by decide) ?_
                exact ih16  (xch r.1 a (a - 1), xch r.2.1 a (a - 1), r.2.2) (a - 1) ⟨rowOK_xch hr9.1 (by omega) (by omega), hr9.2⟩ (by omega) _ _ (by omega) hX _ (lv_sub hl [1, 2, 3, 4, 5, 6, 0] rfl)
        exact loop16 (nx + 1) r nx hr9 (by omega) _ _ (by omega) (WX.eqS rfl hX) _ (lv_sub hl [1, 2, 3, 4, 5, 6, 0] rfl)
  exact loop5 (18 + 1) (S.1 i) (f + 1) ⟨hro, rfl⟩ (by omega) _ _ (by omega) (WX.eqS (xR_self S i).symm hX) _ (lv_sub hl [1, 2, 3, 4, 5, 0] rfl)
set_option maxHeartbeats 4000000 in
set_option maxRecDepth 100000 in
theorem m_X3_mergeTwo (l : Launch) (dC : Nat → ClassId) (dI : Nat → Nat → Nat) (ad : Nat → Nat) (S : XS) (w i j lo mi h9 : Nat) (hw : w < 2) (hi : i < 8) (hj : j < 6) (hro : rowOK (S.1 i)) (ho : ordOK (S.2.1 j)) (hig : i ≠ 3 + 2 * w) (hlo : lo ≤ mi) (hmi : mi ≤ h9) (hh9 : h9 ≤ (S.1 i).2.2) (hgo : rowOK (S.1 (3 + 2 * w))) (hgn : (S.1 (3 + 2 * w)).2.2 = lo) : Met l yX3_mergeTwo wsX3_mergeTwo ({ frames := 1, cells := 0, slots := 0, locals := 26 } : Room) (va_Pc [.ref (ad (54 + w)), .ref (ad (3 * i)), .ref (ad (24 + 5 * j)), .int (nI lo), .int (nI mi), .int (nI h9)] (PX dC dI ad S)) (va_Qv (fun S' => ∃ r' : RowS, S' = xR S (3 + 2 * w) r' ∧ rowOK r' ∧ r'.2.2 = h9) (PX dC dI ad) (AX ad)) 0 0 (AX ad) := by
  refine Met.ofW (cc := cX3_mergeTwo) (maxL := 11) (ret := none) pl_X3 rfl ?_
  intro p e s m args below meth c s₁ B hml hv
  obtain ⟨rfl, hPX⟩ := hv
  have hx := B.exec
  have hb := B.bytes
  have hr := B.returns
  have hts := atoms_spec (ws := wsX3_mergeTwo) B.pre
  have hown : s.vm.findClass RX3 = some m.cls := findClass_of_methodNamed B.named
  have hlocks := B.notSynchronized
  have hin3 : ∀ w ∈ u_ws RX3 TX3 1, w ∈ wsX3_mergeTwo := tu 1323 (by decide +kernel) rfl
  have hX := WX.of hPX
  have hl := lv_entry ([.ref (ad (54 + w)), .ref (ad (3 * i)), .ref (ad (24 + 5 * j)), .int (nI lo), .int (nI mi), .int (nI h9)]) (n := 11) (Nat.le_of_ble_eq_true rfl)
  rw [lg_entry_eq]
  generalize (lg_sl ([.ref (ad (54 + w)), .ref (ad (3 * i)), .ref (ad (24 + 5 * j)), .int (nI lo), .int (nI mi), .int (nI h9)]) ++ List.replicate (11 - (lg_sl ([.ref (ad (54 + w)), .ref (ad (3 * i)), .ref (ad (24 + 5 * j)), .int (nI lo), .int (nI mi), .int (nI h9)])).length) Slot.unset).toArray = ls at hl ⊢
  have hl : lv_has ls 11 [(0, .ref (ad (54 + w))), (1, .ref (ad (3 * i))), (2, .ref (ad (24 + 5 * j))), (3, .int (nI lo)), (4, .int (nI mi)), (5, .int (nI h9))] := hl
  show W p l e ({ frames := 1, cells := 0, slots := 0, locals := 26 } : Room) s m ([.ref (ad (54 + w)), .ref (ad (3 * i)), .ref (ad (24 + 5 * j)), .int (nI lo), .int (nI mi), .int (nI h9)]).toArray below meth c s.heap [] 0 0 (MQ below (va_Qv (fun S' => ∃ r' : RowS, S' = xR S (3 + 2 * w) r' ∧ rowOK r' ∧ r'.2.2 = h9) (PX dC dI ad) (AX ad)) ([.ref (ad (54 + w)), .ref (ad (3 * i)), .ref (ad (24 + 5 * j)), .int (nI lo), .int (nI mi), .int (nI h9)]).toArray s 0 0 (AX ad)) (F0 m 0 ls [])
  have hn := hro.1
  refine lv_iload_n hx hb dX3_mergeTwo_0 rfl (lv_at hl 3 rfl) ?_
  refine lv_istore (lv' := [(6, .int (nI lo)), (0, .ref (ad (54 + w))), (1, .ref (ad (3 * i))), (2, .ref (ad (24 + 5 * j))), (3, .int (nI lo)), (4, .int (nI mi)), (5, .int (nI h9))]) hx hb dX3_mergeTwo_1 hl (by decide) rfl (fun ls hl => ?_)
  refine lv_iload hx hb dX3_mergeTwo_3 (lv_at hl 5 rfl) ?_
  refine lv_istore (lv' := [(7, .int (nI mi)), (6, .int (nI lo)), (0, .ref (ad (54 + w))), (1, .ref (ad (3 * i))), (2, .ref (ad (24 + 5 * j))), (3, .int (nI lo)), (4, .int (nI mi)), (5, .int (nI h9))]) hx hb dX3_mergeTwo_5 hl (by decide) rfl (fun ls hl => ?_)
  refine lv_iload_n hx hb dX3_mergeTwo_7 rfl (lv_at hl 5 rfl) ?_
  refine lv_istore (lv' := [(8, .int (nI lo)), (7, .int (nI mi)), (6, .int (nI lo)), (0, .ref (ad (54 + w))), (1, .ref (ad (3 * i))), (2, .ref (ad (24 + 5 * j))), (3, .int (nI lo)), (4, .int (nI mi)), (5, .int (nI h9))]) hx hb dX3_mergeTwo_8 hl (by decide) rfl (fun ls hl => ?_)
  have loop10 : ∀ (fuel : Nat) (r : RowS) (a c9 q : Nat) (hr9 : rowOK r ∧ r.2.2 = q) (ha : lo ≤ a ∧ a ≤ mi ∧ mi ≤ c9 ∧ c9 ≤ h9 ∧ a + c9 = q + mi) (H : Heap) (locs : List Loc), h9 - q < fuel → WX dC dI ad (xR S (3 + 2 * w) (r.1, r.2.1, r.2.2)) (AX ad) s H locs → ∀ ls : Array Slot, lv_has ls 11 [(0, .ref (ad (54 + w))), (1, .ref (ad (3 * i))), (2, .ref (ad (24 + 5 * j))), (3, .int (nI lo)), (4, .int (nI mi)), (5, .int (nI h9)), (6, .int (nI a)), (7, .int (nI c9)), (8, .int (nI q))] → W p l e ({ frames := 1, cells := 0, slots := 0, locals := 26 } : Room) s m ([.ref (ad (54 + w)), .ref (ad (3 * i)), .ref (ad (24 + 5 * j)), .int (nI lo), .int (nI mi), .int (nI h9)]).toArray below meth c H locs 0 0 (MQ below (va_Qv (fun S' => ∃ r' : RowS, S' = xR S (3 + 2 * w) r' ∧ rowOK r' ∧ r'.2.2 = h9) (PX dC dI ad) (AX ad)) ([.ref (ad (54 + w)), .ref (ad (3 * i)), .ref (ad (24 + 5 * j)), .int (nI lo), .int (nI mi), .int (nI h9)]).toArray s 0 0 (AX ad)) (F0 m 10 ls []) := by
    intro fuel
    induction fuel with
    | zero => intro r a c9 q hr9 ha H locs hf; exact absurd hf (Nat.not_lt_zero _)
    | succ fuel ih10 =>
      intro r a c9 q hr9 ha H locs hf hX ls hl
      refine lv_iload hx hb dX3_mergeTwo_10 (lv_at hl 8 rfl) ?_
      refine lv_iload hx hb dX3_mergeTwo_12 (lv_at hl 5 rfl) ?_
      refine kn_icmp_ge (tgt := 110) hx hb (by omega) (by omega) dX3_mergeTwo_14 (by decide) (fun k_1 => ?_) (fun k_1 => ?_)
      · skip
        exact W.vret hx hb hr (fun t9 ht9 hW9 => ⟨⟨(xR S (3 + 2 * w) (r.1, r.2.1, r.2.2)), rfl, ⟨r, rfl, hr9.1, by omega⟩, hX.P ht9 hW9⟩, hX.2.2.2.F ht9⟩) hX.2.2.2.2.2 dX3_mergeTwo_110
      · skip
        refine lv_iload hx hb dX3_mergeTwo_17 (lv_at hl 6 rfl) ?_
        refine lv_iload hx hb dX3_mergeTwo_19 (lv_at hl 4 rfl) ?_
        refine kn_icmp_ge (tgt := 50) hx hb (by omega) (by omega) dX3_mergeTwo_21 (by decide) (fun k_2 => ?_) (fun k_2 => ?_)
        · skip
          refine lv_iconst (v := nI 1) hx hb dX3_mergeTwo_50 (by decide) ?_
          refine lv_goto (tgt := 55) hx hb dX3_mergeTwo_51 (by decide) ?_
          refine lv_istore (lv' := [(9, .int (nI 1)), (0, .ref (ad (54 + w))), (1, .ref (ad (3 * i))), (2, .ref (ad (24 + 5 * j))), (3, .int (nI lo)), (4, .int (nI mi)), (5, .int (nI h9)), (6, .int (nI a)), (7, .int (nI c9)), (8, .int (nI q))]) hx hb dX3_mergeTwo_55 hl (by decide) rfl (fun ls hl => ?_)
          refine lv_iload hx hb dX3_mergeTwo_57 (lv_at hl 0 rfl) ?_
          refine kn_if_eq (tgt := 67) hx hb (by omega) dX3_mergeTwo_59 (by decide) (fun k_3 => absurd k_3 (by omega)) (fun k_3 => ?_)
          refine lv_iload hx hb dX3_mergeTwo_62 (lv_at hl 8 rfl) ?_
          refine lv_goto (tgt := 69) hx hb dX3_mergeTwo_64 (by decide) ?_
          refine lv_istore (lv' := [(10, .int (nI c9)), (9, .int (nI 1)), (0, .ref (ad (54 + w))), (1, .ref (ad (3 * i))), (2, .ref (ad (24 + 5 * j))), (3, .int (nI lo)), (4, .int (nI mi)), (5, .int (nI h9)), (6, .int (nI a)), (7, .int (nI c9)), (8, .int (nI q))]) hx hb dX3_mergeTwo_69 hl (by decide) rfl (fun ls hl => ?_)
          refine lv_aload_n hx hb dX3_mergeTwo_71 rfl (lv_at hl 2 rfl) ?_
          refine ks_gg hx hb hts hin3 hown hX hw (hts (.fieldLink RX3 10 "Orderlattice$Sorter" "gathered" "LOrderlattice$Row;") (tm 20 (by decide +kernel) rfl)) dX3_mergeTwo_72 ?_
          refine lv_aload_n hx hb dX3_mergeTwo_75 rfl (lv_at hl 3 rfl) ?_
          refine lv_iload hx hb dX3_mergeTwo_76 (lv_at hl 0 rfl) ?_
          refine kx_cr (v := nI ((S.1 i).1 c9)) (va_runV (As := [.int (nI c9)]) (rest := [.ref (ad (3 * (3 + 2 * w)))]) ⟨hx, hb, hml, hown, hts⟩ (m_X2_valueOn l dC dI ad (xR S (3 + 2 * w) (r.1, r.2.1, r.2.2)) i c9 hi (by omega)) (cwV 1 hts gX3_mergeTwo_X2_valueOn rfl rfl rfl hdX2_valueOn_1 ⟨Nat.le_of_ble_eq_true rfl, Nat.le_of_ble_eq_true rfl⟩) (hX.preRow hi) rfl rfl hl.1 rfl (lv_room (Nat.le_of_ble_eq_true rfl)) dX3_mergeTwo_78 ⟨Nat.le_of_ble_eq_true rfl, Nat.le_of_ble_eq_true rfl⟩) (fun _ h => by rw [h, xR_ne _ _ hig]) ?_
          refine lv_aload_n hx hb dX3_mergeTwo_81 rfl (lv_at hl 3 rfl) ?_
          refine lv_iload hx hb dX3_mergeTwo_82 (lv_at hl 0 rfl) ?_
          refine kx_cr (v := nI ((S.1 i).2.1 c9)) (va_runV (As := [.int (nI c9)]) (rest := [.int (nI ((S.1 i).1 c9)), .ref (ad (3 * (3 + 2 * w)))]) ⟨hx, hb, hml, hown, hts⟩ (m_X2_markOn l dC dI ad (xR S (3 + 2 * w) (r.1, r.2.1, r.2.2)) i c9 hi (by omega)) (cwV 1 hts gX3_mergeTwo_X2_markOn rfl rfl rfl hdX2_markOn_1 ⟨Nat.le_of_ble_eq_true rfl, Nat.le_of_ble_eq_true rfl⟩) (hX.preRow hi) rfl rfl hl.1 rfl (lv_room (Nat.le_of_ble_eq_true rfl)) dX3_mergeTwo_84 ⟨Nat.le_of_ble_eq_true rfl, Nat.le_of_ble_eq_true rfl⟩) (fun _ h => by rw [h, xR_ne _ _ hig]) ?_
          refine kx_cv (va_runV (As := [.int (nI ((S.1 i).1 c9)), .int (nI ((S.1 i).2.1 c9))]) (rest := []) ⟨hx, hb, hml, hown, hts⟩ (m_X2_append l dC dI ad (xR S (3 + 2 * w) (r.1, r.2.1, r.2.2)) (3 + 2 * w) ((S.1 i).1 c9) ((S.1 i).2.1 c9) (by omega) (by rw [xR_row]; show r.2.2 < 16; omega)) (cwV 2 hts gX3_mergeTwo_X2_append rfl rfl rfl hdX2_append_2 ⟨Nat.le_of_ble_eq_true rfl, Nat.le_of_ble_eq_true rfl⟩) (hX.preRow (by omega)) rfl rfl hl.1 rfl (lv_room (Nat.le_of_ble_eq_true rfl)) dX3_mergeTwo_87 ⟨Nat.le_of_ble_eq_true rfl, Nat.le_of_ble_eq_true rfl⟩) hX (fun _ h => h) (fun S_ H locs hw hX => ?_)
          rw [xR_row, xR_xR] at hw
          subst hw
          refine lv_iload hx hb dX3_mergeTwo_90 (lv_at hl 1 rfl) ?_
          refine kn_if_eq (tgt := 101) hx hb (by omega) dX3_mergeTwo_92 (by decide) (fun k_4 => absurd k_4 (by omega)) (fun k_4 => ?_)
          refine lv_iinc (v := nI (c9 + 1)) (lv' := [(7, .int (nI (c9 + 1))), (10, .int (nI c9)), (9, .int (nI 1)), (0, .ref (ad (54 + w))), (1, .ref (ad (3 * i))), (2, .ref (ad (24 + 5 * j))), (3, .int (nI lo)), (4, .int (nI mi)), (5, .int (nI h9)), (6, .int (nI a)), (8, .int (nI q))]) hx hb dX3_mergeTwo_95 hl (k := 9) rfl (nI_1 c9) (by decide) rfl (fun ls hl => ?_)
          refine lv_goto (tgt := 104) hx hb dX3_mergeTwo_98 (by decide) ?_
          refine lv_iinc (v := nI (q + 1)) (lv' := [(8, .int (nI (q + 1))), (7, .int (nI (c9 + 1))), (10, .int (nI c9)), (9, .int (nI 1)), (0, .ref (ad (54 + w))), (1, .ref (ad (3 * i))), (2, .ref (ad (24 + 5 * j))), (3, .int (nI lo)), (4, .int (nI mi)), (5, .int (nI h9)), (6, .int (nI a))]) hx hb dX3_mergeTwo_104 hl (k := 10) rfl (nI_1 q) (by decide) rfl (fun ls hl => ?_)
          refine lv_goto (tgt := 10) hx hb dX3_mergeTwo_107 (by decide) ?_
          exact ih10  (va_up r.1 r.2.2 ((S.1 i).1 c9), va_up r.2.1 r.2.2 ((S.1 i).2.1 c9), r.2.2 + 1) a (c9 + 1) (q + 1) ⟨rowOK_app hr9.1 (by omega) (hro.2 _ (by omega)).1 (hro.2 _ (by omega)).2, congrArg (· + 1) hr9.2⟩ (by omega) _ _ (by omega) hX _ (lv_sub hl [4, 5, 6, 7, 8, 9, 10, 1, 0] rfl)
        · skip
          refine lv_iload hx hb dX3_mergeTwo_24 (lv_at hl 7 rfl) ?_
          refine lv_iload hx hb dX3_mergeTwo_26 (lv_at hl 5 rfl) ?_
          refine kn_icmp_ge (tgt := 54) hx hb (by omega) (by omega) dX3_mergeTwo_28 (by decide) (fun k_5 => ?_) (fun k_5 => ?_)
          · skip
            refine lv_iconst (v := nI 0) hx hb dX3_mergeTwo_54 (by decide) ?_
            refine lv_istore (lv' := [(9, .int (nI 0)), (0, .ref (ad (54 + w))), (1, .ref (ad (3 * i))), (2, .ref (ad (24 + 5 * j))), (3, .int (nI lo)), (4, .int (nI mi)), (5, .int (nI h9)), (6, .int (nI a)), (7, .int (nI c9)), (8, .int (nI q))]) hx hb dX3_mergeTwo_55 hl (by decide) rfl (fun ls hl => ?_)
            refine lv_iload hx hb dX3_mergeTwo_57 (lv_at hl 0 rfl) ?_
            refine kn_if_eq (tgt := 67) hx hb (by omega) dX3_mergeTwo_59 (by decide) (fun k_6 => ?_) (fun k_6 => absurd k_6 (by omega))
            refine lv_iload hx hb dX3_mergeTwo_67 (lv_at hl 7 rfl) ?_
            refine lv_istore (lv' := [(10, .int (nI a)), (9, .int (nI 0)), (0, .ref (ad (54 + w))), (1, .ref (ad (3 * i))), (2, .ref (ad (24 + 5 * j))), (3, .int (nI lo)), (4, .int (nI mi)), (5, .int (nI h9)), (6, .int (nI a)), (7, .int (nI c9)), (8, .int (nI q))]) hx hb dX3_mergeTwo_69 hl (by decide) rfl (fun ls hl => ?_)
            refine lv_aload_n hx hb dX3_mergeTwo_71 rfl (lv_at hl 2 rfl) ?_
            refine ks_gg hx hb hts hin3 hown hX hw (hts (.fieldLink RX3 10 "Orderlattice$Sorter" "gathered" "LOrderlattice$Row;") (tm 20 (by decide +kernel) rfl)) dX3_mergeTwo_72 ?_
            refine lv_aload_n hx hb dX3_mergeTwo_75 rfl (lv_at hl 3 rfl) ?_
            refine lv_iload hx hb dX3_mergeTwo_76 (lv_at hl 0 rfl) ?_
            refine kx_cr (v := nI ((S.1 i).1 a)) (va_runV (As := [.int (nI a)]) (rest := [.ref (ad (3 * (3 + 2 * w)))]) ⟨hx, hb, hml, hown, hts⟩ (m_X2_valueOn l dC dI ad (xR S (3 + 2 * w) (r.1, r.2.1, r.2.2)) i a hi (by omega)) (cwV 1 hts gX3_mergeTwo_X2_valueOn rfl rfl rfl hdX2_valueOn_1 ⟨Nat.le_of_ble_eq_true rfl, Nat.le_of_ble_eq_true rfl⟩) (hX.preRow hi) rfl rfl hl.1 rfl (lv_room (Nat.le_of_ble_eq_true rfl)) dX3_mergeTwo_78 ⟨Nat.le_of_ble_eq_true rfl, Nat.le_of_ble_eq_true rfl⟩) (fun _ h => by rw [h, xR_ne _ _ hig]) ?_
            refine lv_aload_n hx hb dX3_mergeTwo_81 rfl (lv_at hl 3 rfl) ?_
            refine lv_iload hx hb dX3_mergeTwo_82 (lv_at hl 0 rfl) ?_
            refine kx_cr (v := nI ((S.1 i).2.1 a)) (va_runV (As := [.int (nI a)]) (rest := [.int (nI ((S.1 i).1 a)), .ref (ad (3 * (3 + 2 * w)))]) ⟨hx, hb, hml, hown, hts⟩ (m_X2_markOn l dC dI ad (xR S (3 + 2 * w) (r.1, r.2.1, r.2.2)) i a hi (by omega)) (cwV 1 hts gX3_mergeTwo_X2_markOn rfl rfl rfl hdX2_markOn_1 ⟨Nat.le_of_ble_eq_true rfl, Nat.le_of_ble_eq_true rfl⟩) (hX.preRow hi) rfl rfl hl.1 rfl (lv_room (Nat.le_of_ble_eq_true rfl)) dX3_mergeTwo_84 ⟨Nat.le_of_ble_eq_true rfl, Nat.le_of_ble_eq_true rfl⟩) (fun _ h => by rw [h, xR_ne _ _ hig]) ?_
            refine kx_cv (va_runV (As := [.int (nI ((S.1 i).1 a)), .int (nI ((S.1 i).2.1 a))]) (rest := []) ⟨hx, hb, hml, hown, hts⟩ (m_X2_append l dC dI ad (xR S (3 + 2 * w) (r.1, r.2.1, r.2.2)) (3 + 2 * w) ((S.1 i).1 a) ((S.1 i).2.1 a) (by omega) (by rw [xR_row]; show r.2.2 < 16; omega)) (cwV 2 hts gX3_mergeTwo_X2_append rfl rfl rfl hdX2_append_2 ⟨Nat.le_of_ble_eq_true rfl, Nat.le_of_ble_eq_true rfl⟩) (hX.preRow (by omega)) rfl rfl hl.1 rfl (lv_room (Nat.le_of_ble_eq_true rfl)) dX3_mergeTwo_87 ⟨Nat.le_of_ble_eq_true rfl, Nat.le_of_ble_eq_true rfl⟩) hX (fun _ h => h) (fun S_ H locs hw hX => ?_)
            rw [xR_row, xR_xR] at hw
            subst hw
            refine lv_iload hx hb dX3_mergeTwo_90 (lv_at hl 1 rfl) ?_
            refine kn_if_eq (tgt := 101) hx hb (by omega) dX3_mergeTwo_92 (by decide) (fun k_7 => ?_) (fun k_7 => absurd k_7 (by omega))
            refine lv_iinc (v := nI (a + 1)) (lv' := [(6, .int (nI (a + 1))), (10, .int (nI a)), (9, .int (nI 0)), (0, .ref (ad (54 + w))), (1, .ref (ad (3 * i))), (2, .ref (ad (24 + 5 * j))), (3, .int (nI lo)), (4, .int (nI mi)), (5, .int (nI h9)), (7, .int (nI c9)), (8, .int (nI q))]) hx hb dX3_mergeTwo_101 hl (k := 8) rfl (nI_1 a) (by decide) rfl (fun ls hl => ?_)
            refine lv_iinc (v := nI (q + 1)) (lv' := [(8, .int (nI (q + 1))), (6, .int (nI (a + 1))), (10, .int (nI a)), (9, .int (nI 0)), (0, .ref (ad (54 + w))), (1, .ref (ad (3 * i))), (2, .ref (ad (24 + 5 * j))), (3, .int (nI lo)), (4, .int (nI mi)), (5, .int (nI h9)), (7, .int (nI c9))]) hx hb dX3_mergeTwo_104 hl (k := 10) rfl (nI_1 q) (by decide) rfl (fun ls hl => ?_)
            refine lv_goto (tgt := 10) hx hb dX3_mergeTwo_107 (by decide) ?_
            exact ih10  (va_up r.1 r.2.2 ((S.1 i).1 a), va_up r.2.1 r.2.2 ((S.1 i).2.1 a), r.2.2 + 1) (a + 1) c9 (q + 1) ⟨rowOK_app hr9.1 (by omega) (hro.2 _ (by omega)).1 (hro.2 _ (by omega)).2, congrArg (· + 1) hr9.2⟩ (by omega) _ _ (by omega) hX _ (lv_sub hl [4, 5, 6, 7, 8, 9, 1, 10, 0] rfl)
          · skip
            refine lv_aload_n hx hb dX3_mergeTwo_31 rfl (lv_at hl 2 rfl) ?_
            refine lv_aload_n hx hb dX3_mergeTwo_32 rfl (lv_at hl 1 rfl) ?_
            refine lv_iload hx hb dX3_mergeTwo_33 (lv_at hl 7 rfl) ?_
            refine kx_cr (v := nI ((S.1 i).1 c9)) (va_runV (As := [.int (nI c9)]) (rest := [.ref (ad (24 + 5 * j))]) ⟨hx, hb, hml, hown, hts⟩ (m_X2_valueOn l dC dI ad (xR S (3 + 2 * w) (r.1, r.2.1, r.2.2)) i c9 hi (by omega)) (cwV 1 hts gX3_mergeTwo_X2_valueOn rfl rfl rfl hdX2_valueOn_1 ⟨Nat.le_of_ble_eq_true rfl, Nat.le_of_ble_eq_true rfl⟩) (hX.preRow hi) rfl rfl hl.1 rfl (lv_room (Nat.le_of_ble_eq_true rfl)) dX3_mergeTwo_35 ⟨Nat.le_of_ble_eq_true rfl, Nat.le_of_ble_eq_true rfl⟩) (fun _ h => by rw [h, xR_ne _ _ hig]) ?_
            refine lv_aload_n hx hb dX3_mergeTwo_38 rfl (lv_at hl 1 rfl) ?_
            refine lv_iload hx hb dX3_mergeTwo_39 (lv_at hl 6 rfl) ?_
            refine kx_cr (v := nI ((S.1 i).1 a)) (va_runV (As := [.int (nI a)]) (rest := [.int (nI ((S.1 i).1 c9)), .ref (ad (24 + 5 * j))]) ⟨hx, hb, hml, hown, hts⟩ (m_X2_valueOn l dC dI ad (xR S (3 + 2 * w) (r.1, r.2.1, r.2.2)) i a hi (by omega)) (cwV 1 hts gX3_mergeTwo_X2_valueOn rfl rfl rfl hdX2_valueOn_1 ⟨Nat.le_of_ble_eq_true rfl, Nat.le_of_ble_eq_true rfl⟩) (hX.preRow hi) rfl rfl hl.1 rfl (lv_room (Nat.le_of_ble_eq_true rfl)) dX3_mergeTwo_41 ⟨Nat.le_of_ble_eq_true rfl, Nat.le_of_ble_eq_true rfl⟩) (fun _ h => by rw [h, xR_ne _ _ hig]) ?_
            refine kx_cr (v := cmpI (((S.2.1 j).2.2.1) ((S.1 i).1 c9)) (((S.2.1 j).2.2.1) ((S.1 i).1 a))) (va_runV (As := [.int (nI ((S.1 i).1 c9)), .int (nI ((S.1 i).1 a))]) (rest := []) ⟨hx, hb, hml, hown, hts⟩ (m_X1_compared l dC dI ad (xR S (3 + 2 * w) (r.1, r.2.1, r.2.2)) j ((S.1 i).1 c9) ((S.1 i).1 a) hj ho (hro.2 _ (by omega)).1 (hro.2 _ (by omega)).1) (cwV 2 hts gX3_mergeTwo_X1_compared rfl rfl rfl hdX1_compared_2 ⟨Nat.le_of_ble_eq_true rfl, Nat.le_of_ble_eq_true rfl⟩) (hX.preOrd hj) rfl rfl hl.1 rfl (lv_room (Nat.le_of_ble_eq_true rfl)) dX3_mergeTwo_44 ⟨Nat.le_of_ble_eq_true rfl, Nat.le_of_ble_eq_true rfl⟩) (fun _ h => h) ?_
            refine kc_if_ge (tgt := 54) hx hb dX3_mergeTwo_47 (by decide) (fun k_8 => ?_) (fun k_8 => ?_)
            · skip
              refine lv_iconst (v := nI 0) hx hb dX3_mergeTwo_54 (by decide) ?_
              refine lv_istore (lv' := [(9, .int (nI 0)), (0, .ref (ad (54 + w))), (1, .ref (ad (3 * i))), (2, .ref (ad (24 + 5 * j))), (3, .int (nI lo)), (4, .int (nI mi)), (5, .int (nI h9)), (6, .int (nI a)), (7, .int (nI c9)), (8, .int (nI q))]) hx hb dX3_mergeTwo_55 hl (by decide) rfl (fun ls hl => ?_)
              refine lv_iload hx hb dX3_mergeTwo_57 (lv_at hl 0 rfl) ?_
              refine kn_if_eq (tgt := 67) hx hb (by omega) dX3_mergeTwo_59 (by decide) (fun k_9 => ?_) (fun k_9 => absurd k_9 (by omega))
              refine lv_iload hx hb dX3_mergeTwo_67 (lv_at hl 7 rfl) ?_
              refine lv_istore (lv' := [(10, .int (nI a)), (9, .int (nI 0)), (0, .ref (ad (54 + w))), (1, .ref (ad (3 * i))), (2, .ref (ad (24 + 5 * j))), (3, .int (nI lo)), (4, .int (nI mi)), (5, .int (nI h9)), (6, .int (nI a)), (7, .int (nI c9)), (8, .int (nI q))]) hx hb dX3_mergeTwo_69 hl (by decide) rfl (fun ls hl => ?_)
              refine lv_aload_n hx hb dX3_mergeTwo_71 rfl (lv_at hl 2 rfl) ?_
              refine ks_gg hx hb hts hin3 hown hX hw (hts (.fieldLink RX3 10 "Orderlattice$Sorter" "gathered" "LOrderlattice$Row;") (tm 20 (by decide +kernel) rfl)) dX3_mergeTwo_72 ?_
              refine lv_aload_n hx hb dX3_mergeTwo_75 rfl (lv_at hl 3 rfl) ?_
              refine lv_iload hx hb dX3_mergeTwo_76 (lv_at hl 0 rfl) ?_
              refine kx_cr (v := nI ((S.1 i).1 a)) (va_runV (As := [.int (nI a)]) (rest := [.ref (ad (3 * (3 + 2 * w)))]) ⟨hx, hb, hml, hown, hts⟩ (m_X2_valueOn l dC dI ad (xR S (3 + 2 * w) (r.1, r.2.1, r.2.2)) i a hi (by omega)) (cwV 1 hts gX3_mergeTwo_X2_valueOn rfl rfl rfl hdX2_valueOn_1 ⟨Nat.le_of_ble_eq_true rfl, Nat.le_of_ble_eq_true rfl⟩) (hX.preRow hi) rfl rfl hl.1 rfl (lv_room (Nat.le_of_ble_eq_true rfl)) dX3_mergeTwo_78 ⟨Nat.le_of_ble_eq_true rfl, Nat.le_of_ble_eq_true rfl⟩) (fun _ h => by rw [h, xR_ne _ _ hig]) ?_
              refine lv_aload_n hx hb dX3_mergeTwo_81 rfl (lv_at hl 3 rfl) ?_
              refine lv_iload hx hb dX3_mergeTwo_82 (lv_at hl 0 rfl) ?_
              refine kx_cr (v := nI ((S.1 i).2.1 a)) (va_runV (As := [.int (nI a)]) (rest := [.int (nI ((S.1 i).1 a)), .ref (ad (3 * (3 + 2 * w)))]) ⟨hx, hb, hml, hown, hts⟩ (m_X2_markOn l dC dI ad (xR S (3 + 2 * w) (r.1, r.2.1, r.2.2)) i a hi (by omega)) (cwV 1 hts gX3_mergeTwo_X2_markOn rfl rfl rfl hdX2_markOn_1 ⟨Nat.le_of_ble_eq_true rfl, Nat.le_of_ble_eq_true rfl⟩) (hX.preRow hi) rfl rfl hl.1 rfl (lv_room (Nat.le_of_ble_eq_true rfl)) dX3_mergeTwo_84 ⟨Nat.le_of_ble_eq_true rfl, Nat.le_of_ble_eq_true rfl⟩) (fun _ h => by rw [h, xR_ne _ _ hig]) ?_
              refine kx_cv (va_runV (As := [.int (nI ((S.1 i).1 a)), .int (nI ((S.1 i).2.1 a))]) (rest := []) ⟨hx, hb, hml, hown, hts⟩ (m_X2_append l dC dI ad (xR S (3 + 2 * w) (r.1, r.2.1, r.2.2)) (3 + 2 * w) ((S.1 i).1 a) ((S.1 i).2.1 a) (by omega) (by rw [xR_row]; show r.2.2 < 16; omega)) (cwV 2 hts gX3_mergeTwo_X2_append rfl rfl rfl hdX2_append_2 ⟨Nat.le_of_ble_eq_true rfl, Nat.le_of_ble_eq_true rfl⟩) (hX.preRow (by omega)) rfl rfl hl.1 rfl (lv_room (Nat.le_of_ble_eq_true rfl)) dX3_mergeTwo_87 ⟨Nat.le_of_ble_eq_true rfl, Nat.le_of_ble_eq_true rfl⟩) hX (fun _ h => h) (fun S_ H locs hw hX => ?_)
              rw [xR_row, xR_xR] at hw
              subst hw
              refine lv_iload hx hb dX3_mergeTwo_90 (lv_at hl 1 rfl) ?_
              refine kn_if_eq (tgt := 101) hx hb (by omega) dX3_mergeTwo_92 (by decide) (fun k_10 => ?_) (fun k_10 => absurd k_10 (by omega))
              refine lv_iinc (v := nI (a + 1)) (lv' := [(6, .int (nI (a + 1))), (10, .int (nI a)), (9, .int (nI 0)), (0, .ref (ad (54 + w))), (1, .ref (ad (3 * i))), (2, .ref (ad (24 + 5 * j))), (3, .int (nI lo)), (4, .int (nI mi)), (5, .int (nI h9)), (7, .int (nI c9)), (8, .int (nI q))]) hx hb dX3_mergeTwo_101 hl (k := 8) rfl (nI_1 a) (by decide) rfl (fun ls hl => ?_)
              refine lv_iinc (v := nI (q + 1)) (lv' := [(8, .int (nI (q + 1))), (6, .int (nI (a + 1))), (10, .int (nI a)), (9, .int (nI 0)), (0, .ref (ad (54 + w))), (1, .ref (ad (3 * i))), (2, .ref (ad (24 + 5 * j))), (3, .int (nI lo)), (4, .int (nI mi)), (5, .int (nI h9)), (7, .int (nI c9))]) hx hb dX3_mergeTwo_104 hl (k := 10) rfl (nI_1 q) (by decide) rfl (fun ls hl => ?_)
              refine lv_goto (tgt := 10) hx hb dX3_mergeTwo_107 (by decide) ?_
              exact ih10  (va_up r.1 r.2.2 ((S.1 i).1 a), va_up r.2.1 r.2.2 ((S.1 i).2.1 a), r.2.2 + 1) (a + 1) c9 (q + 1) ⟨rowOK_app hr9.1 (by omega) (hro.2 _ (by omega)).1 (hro.2 _ (by omega)).2, congrArg (· + 1) hr9.2⟩ (by omega) _ _ (by omega) hX _ (lv_sub hl [4, 5, 6, 7, 8, 9, 1, 10, 0] rfl)
            · skip
              refine lv_iconst (v := nI 1) hx hb dX3_mergeTwo_50 (by decide) ?_
              refine lv_goto (tgt := 55) hx hb dX3_mergeTwo_51 (by decide) ?_
              refine lv_istore (lv' := [(9, .int (nI 1)), (0, .ref (ad (54 + w))), (1, .ref (ad (3 * i))), (2, .ref (ad (24 + 5 * j))), (3, .int (nI lo)), (4, .int (nI mi)), (5, .int (nI h9)), (6, .int (nI a)), (7, .int (nI c9)), (8, .int (nI q))]) hx hb dX3_mergeTwo_55 hl (by decide) rfl (fun ls hl => ?_)
              refine lv_iload hx hb dX3_mergeTwo_57 (lv_at hl 0 rfl) ?_
              refine kn_if_eq (tgt := 67) hx hb (by omega) dX3_mergeTwo_59 (by decide) (fun k_11 => absurd k_11 (by omega)) (fun k_11 => ?_)
              refine lv_iload hx hb dX3_mergeTwo_62 (lv_at hl 8 rfl) ?_
              refine lv_goto (tgt := 69) hx hb dX3_mergeTwo_64 (by decide) ?_
              refine lv_istore (lv' := [(10, .int (nI c9)), (9, .int (nI 1)), (0, .ref (ad (54 + w))), (1, .ref (ad (3 * i))), (2, .ref (ad (24 + 5 * j))), (3, .int (nI lo)), (4, .int (nI mi)), (5, .int (nI h9)), (6, .int (nI a)), (7, .int (nI c9)), (8, .int (nI q))]) hx hb dX3_mergeTwo_69 hl (by decide) rfl (fun ls hl => ?_)
              refine lv_aload_n hx hb dX3_mergeTwo_71 rfl (lv_at hl 2 rfl) ?_
              refine ks_gg hx hb hts hin3 hown hX hw (hts (.fieldLink RX3 10 "Orderlattice$Sorter" "gathered" "LOrderlattice$Row;") (tm 20 (by decide +kernel) rfl)) dX3_mergeTwo_72 ?_
              refine lv_aload_n hx hb dX3_mergeTwo_75 rfl (lv_at hl 3 rfl) ?_
              refine lv_iload hx hb dX3_mergeTwo_76 (lv_at hl 0 rfl) ?_
              refine kx_cr (v := nI ((S.1 i).1 c9)) (va_runV (As := [.int (nI c9)]) (rest := [.ref (ad (3 * (3 + 2 * w)))]) ⟨hx, hb, hml, hown, hts⟩ (m_X2_valueOn l dC dI ad (xR S (3 + 2 * w) (r.1, r.2.1, r.2.2)) i c9 hi (by omega)) (cwV 1 hts gX3_mergeTwo_X2_valueOn rfl rfl rfl hdX2_valueOn_1 ⟨Nat.le_of_ble_eq_true rfl, Nat.le_of_ble_eq_true rfl⟩) (hX.preRow hi) rfl rfl hl.1 rfl (lv_room (Nat.le_of_ble_eq_true rfl)) dX3_mergeTwo_78 ⟨Nat.le_of_ble_eq_true rfl, Nat.le_of_ble_eq_true rfl⟩) (fun _ h => by rw [h, xR_ne _ _ hig]) ?_
              refine lv_aload_n hx hb dX3_mergeTwo_81 rfl (lv_at hl 3 rfl) ?_
              refine lv_iload hx hb dX3_mergeTwo_82 (lv_at hl 0 rfl) ?_
              refine kx_cr (v := nI ((S.1 i).2.1 c9)) (va_runV (As := [.int (nI c9)]) (rest := [.int (nI ((S.1 i).1 c9)), .ref (ad (3 * (3 + 2 * w)))]) ⟨hx, hb, hml, hown, hts⟩ (m_X2_markOn l dC dI ad (xR S (3 + 2 * w) (r.1, r.2.1, r.2.2)) i c9 hi (by omega)) (cwV 1 hts gX3_mergeTwo_X2_markOn rfl rfl rfl hdX2_markOn_1 ⟨Nat.le_of_ble_eq_true rfl, Nat.le_of_ble_eq_true rfl⟩) (hX.preRow hi) rfl rfl hl.1 rfl (lv_room (Nat.le_of_ble_eq_true rfl)) dX3_mergeTwo_84 ⟨Nat.le_of_ble_eq_true rfl, Nat.le_of_ble_eq_true rfl⟩) (fun _ h => by rw [h, xR_ne _ _ hig]) ?_
              refine kx_cv (va_runV (As := [.int (nI ((S.1 i).1 c9)), .int (nI ((S.1 i).2.1 c9))]) (rest := []) ⟨hx, hb, hml, hown, hts⟩ (m_X2_append l dC dI ad (xR S (3 + 2 * w) (r.1, r.2.1, r.2.2)) (3 + 2 * w) ((S.1 i).1 c9) ((S.1 i).2.1 c9) (by omega) (by rw [xR_row]; show r.2.2 < 16; omega)) (cwV 2 hts gX3_mergeTwo_X2_append rfl rfl rfl hdX2_append_2 ⟨Nat.le_of_ble_eq_true rfl, Nat.le_of_ble_eq_true rfl⟩) (hX.preRow (by omega)) rfl rfl hl.1 rfl (lv_room (Nat.le_of_ble_eq_true rfl)) dX3_mergeTwo_87 ⟨Nat.le_of_ble_eq_true rfl, Nat.le_of_ble_eq_true rfl⟩) hX (fun _ h => h) (fun S_ H locs hw hX => ?_)
              rw [xR_row, xR_xR] at hw
              subst hw
              refine lv_iload hx hb dX3_mergeTwo_90 (lv_at hl 1 rfl) ?_
              refine kn_if_eq (tgt := 101) hx hb (by omega) dX3_mergeTwo_92 (by decide) (fun k_12 => absurd k_12 (by omega)) (fun k_12 => ?_)
              refine lv_iinc (v := nI (c9 + 1)) (lv' := [(7, .int (nI (c9 + 1))), (10, .int (nI c9)), (9, .int (nI 1)), (0, .ref (ad (54 + w))), (1, .ref (ad (3 * i))), (2, .ref (ad (24 + 5 * j))), (3, .int (nI lo)), (4, .int (nI mi)), (5, .int (nI h9)), (6, .int (nI a)), (8, .int (nI q))]) hx hb dX3_mergeTwo_95 hl (k := 9) rfl (nI_1 c9) (by decide) rfl (fun ls hl => ?_)
              refine lv_goto (tgt := 104) hx hb dX3_mergeTwo_98 (by decide) ?_
              refine lv_iinc (v := nI (q + 1)) (lv' := [(8, .int (nI (q + 1))), (7, .int (nI (c9 + 1))), (10, .int (nI c9)), (9, .int (nI 1)), (0, .ref (ad (54 + w))), (1, .ref (ad (3 * i))), (2, .ref (ad (24 + 5 * j))), (3, .int (nI lo)), (4, .int (nI mi)), (5, .int (nI h9)), (6, .int (nI a))]) hx hb dX3_mergeTwo_104 hl (k := 10) rfl (nI_1 q) (by decide) rfl (fun ls hl => ?_)
              refine lv_goto (tgt := 10) hx hb dX3_mergeTwo_107 (by decide) ?_
              exact ih10  (va_up r.1 r.2.2 ((S.1 i).1 c9), va_up r.2.1 r.2.2 ((S.1 i).2.1 c9), r.2.2 + 1) a (c9 + 1) (q + 1) ⟨rowOK_app hr9.1 (by omega) (hro.2 _ (by omega)).1 (hro.2 _ (by omega)).2, congrArg (· + 1) hr9.2⟩ (by omega) _ _ (by omega) hX _ (lv_sub hl [4, 5, 6, 7, 8, 9, 10, 1, 0] rfl)
  exact loop10 (h9 + 1) (S.1 (3 + 2 * w)) lo mi lo ⟨hgo, hgn⟩ (by omega) _ _ (by omega) (WX.eqS (xR_self S _).symm hX) _ (lv_sub hl [3, 4, 5, 6, 7, 8, 2, 1, 0] rfl)
