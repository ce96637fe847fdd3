/-! digests -/
def mixI (d : Int64) (x : Nat) : Int64 := d * lN 31 + lN x
def bN (b : Bool) : Nat := if b then 1 else 0
def iterL (f : Nat → Int64 → Int64) : Nat → Int64 → Int64
  | 0, d => d
  | n + 1, d => f n (iterL f n d)
def mixRow (S : XS) (i : Nat) (d : Int64) : Int64 := iterL (fun k d => mixI (mixI d ((S.1 i).1 k)) ((S.1 i).2.1 k)) (S.1 i).2.2 (mixI d (S.1 i).2.2)
def mixRows (S : XS) (d : Int64) : Int64 := iterL (mixRow S) 3 d
def mixOrd (S : XS) (j : Nat) (d : Int64) : Int64 := iterL (fun v d => mixI d ((S.2.1 j).2.2.2.1 v)) 16 (mixI (iterL (fun k d => mixI (mixI d ((S.2.1 j).1 k)) (bN ((S.2.1 j).2.1 k))) (S.2.1 j).2.2.2.2.1 (mixI d (S.2.1 j).2.2.2.2.1)) (S.2.1 j).2.2.2.2.2)
def mixOrders (S : XS) (d : Int64) : Int64 := iterL (mixOrd S) 4 d
def mixPair (S : XS) (a b : Nat) (d : Int64) : Int64 := mixI (mixI d (apartN (S.2.1 a).2.2.1 (S.2.1 b).2.2.1)) (bN (finerB (S.2.1 a).2.2.1 (S.2.1 b).2.2.1))
def mixPairs (S : XS) (d : Int64) : Int64 := iterL (fun a d => iterL (mixPair S a) 4 d) 4 d
def mixSeq (S : XS) (i j : Nat) (d : Int64) : Int64 := mixI (mixI d (cntB (firstB (S.2.1 j).2.2.1 (S.1 i).1) (S.1 i).2.2)) (bN (seqB (S.2.1 j).2.2.1 (S.1 i).1 (S.1 i).2.2))
def mixSeqs (S : XS) (d : Int64) : Int64 := iterL (fun i d => iterL (mixSeq S i) 4 d) 3 d
theorem sumN_le {f : Nat → Nat} {c : Nat} (h : ∀ k, f k ≤ c) : ∀ n, sumN f n ≤ n * c
  | 0 => Nat.zero_le _
  | n + 1 => by
    have ih := sumN_le h n
    have := h n
    rw [sumN, Nat.add_mul, Nat.one_mul]
    omega
theorem apartN_le (c d : Nat → Nat) : apartN c d ≤ 256 := sumN_le (c := 16) (fun _ => cntB_le _ 16) 16
section KXL
variable {p : Program} {l : Launch} {e : Env} {R : Room} {s : State} {m : MethodId} {args : Array Value} {below : List Frame} {meth : Method} {c : Code} {H : Heap} {locs : List Loc} {cells slots : Nat} {Q : State → Prop}
theorem kx_crl {pc : Nat} {ls : Array Slot} {rest st0 : List Value} {a : Array Value} {v : Int64} {post : Int64 → Prop} (hr : va_Run p l e R s m args below meth c H locs cells slots 0 0 (F0 m pc ls st0) rest (vp_Sl post a) (fun _ => False)) (hv : ∀ r, post r → r = v) (kk : W p l e R s m args below meth c H locs cells slots Q (F0 m (pc + 3) ls (.long v :: rest))) : W p l e R s m args below meth c H locs cells slots Q (F0 m pc ls st0) :=
  vp_callSl (va_Run.run hr) (fun r h => by rw [hv r h]; exact kk)
end KXL
set_option maxHeartbeats 4000000 in
set_option maxRecDepth 100000 in
theorem m_X4_mixed (l : Launch) (dC : Nat → ClassId) (dI : Nat → Nat → Nat) (ad : Nat → Nat) (S : XS) (d : Int64) (x : Nat) (hx3 : x < 2 ^ 31) : Met l yX4_mixed wsX4_mixed ({ frames := 0, cells := 0, slots := 0, locals := 0 } : Room) (va_Pc [.long d, .int (nI x)] (PX dC dI ad S)) (vp_Sl (fun r => r = mixI d x)) 0 0 (fun _ => False) := by
  refine Met.ofW (cc := cX4_mixed) (maxL := 3) (ret := (some .long)) pl_X4 rfl ?_
  intro p e s m args below meth c s₁ B hml hv
  obtain ⟨rfl, hPX⟩ := hv
  have hx := B.exec
  have hb := B.bytes
  have hr := B.returns
  have hts := atoms_spec (ws := wsX4_mixed) B.pre
  have hown : s.vm.findClass RX4 = some m.cls := findClass_of_methodNamed B.named
  have hlocks := B.notSynchronized
  have hX := WX.of hPX
  have hl := lv_entry ([.long d, .int (nI x)]) (n := 3) (Nat.le_of_ble_eq_true rfl)
  rw [lg_entry_eq]
  generalize (lg_sl ([.long d, .int (nI x)]) ++ List.replicate (3 - (lg_sl ([.long d, .int (nI x)])).length) Slot.unset).toArray = ls at hl ⊢
  have hl : lv_has ls 3 [(0, .long d), (2, .int (nI x))] := hl
  show W p l e ({ frames := 0, cells := 0, slots := 0, locals := 0 } : Room) s m ([.long d, .int (nI x)]).toArray below meth c s.heap [] 0 0 (MQ below (vp_Sl (fun r => r = mixI d x)) ([.long d, .int (nI x)]).toArray s 0 0 (fun _ => False)) (F0 m 0 ls [])
  refine lv_lload_n hx hb dX4_mixed_0 rfl (lv_at hl 0 rfl) ?_
  refine lv_ldc2 (v := lN 31) hx hb hown (hts (.constantLong RX4 326 31) (tm 654 (by decide +kernel) rfl)) dX4_mixed_1 ?_
  refine lv_lmul hx hb dX4_mixed_4 ?_
  refine lv_iload_n hx hb dX4_mixed_5 rfl (lv_at hl 1 rfl) ?_
  refine lv_i2l (v := lN x) hx hb dX4_mixed_6 (nI_l (by omega)) ?_
  refine lv_ladd hx hb dX4_mixed_7 ?_
  exact W.lret (v := (d * lN 31) + lN x) hx hb hr (fun t9 ht9 hW9 => ⟨_, rfl, rfl, ht9⟩) (fun _ h => nomatch h) dX4_mixed_8
set_option maxHeartbeats 4000000 in
set_option maxRecDepth 100000 in
theorem m_X4_mixedWithRows (l : Launch) (dC : Nat → ClassId) (dI : Nat → Nat → Nat) (ad : Nat → Nat) (S : XS) (d : Int64) (hI : InvX S) : Met l yX4_mixedWithRows wsX4_mixedWithRows ({ frames := 1, cells := 0, slots := 0, locals := 22 } : Room) (va_Pc [.ref (ad 57), .long d] (PX dC dI ad S)) (vp_Sl (fun r => r = mixRows S d)) 0 0 (fun _ => False) := by
  refine Met.ofW (cc := cX4_mixedWithRows) (maxL := 8) (ret := (some .long)) pl_X4 rfl ?_
  intro p e s m args below meth c s₁ B hml hv
  obtain ⟨rfl, hPX⟩ := hv
  have hx := B.exec
  have hb := B.bytes
  have hr := B.returns
  have hts := atoms_spec (ws := wsX4_mixedWithRows) B.pre
  have hown : s.vm.findClass RX4 = some m.cls := findClass_of_methodNamed B.named
  have hlocks := B.notSynchronized
  have hX := WX.of hPX
  have hl := lv_entry ([.ref (ad 57), .long d]) (n := 8) (Nat.le_of_ble_eq_true rfl)
  rw [lg_entry_eq]
  generalize (lg_sl ([.ref (ad 57), .long d]) ++ List.replicate (8 - (lg_sl ([.ref (ad 57), .long d])).length) Slot.unset).toArray = ls at hl ⊢
  have hl : lv_has ls 8 [(0, .ref (ad 57)), (1, .long d)] := hl
  show W p l e ({ frames := 1, cells := 0, slots := 0, locals := 22 } : Room) s m ([.ref (ad 57), .long d]).toArray below meth c s.heap [] 0 0 (MQ below (vp_Sl (fun r => r = mixRows S d)) ([.ref (ad 57), .long d]).toArray s 0 0 (fun _ => False)) (F0 m 0 ls [])
  refine lv_lload_n hx hb dX4_mixedWithRows_0 rfl (lv_at hl 1 rfl) ?_
  refine lv_lstore_n (lv' := [(3, .long d), (0, .ref (ad 57)), (1, .long d)]) hx hb dX4_mixedWithRows_1 rfl hl (by decide) rfl (fun ls hl => ?_)
  refine lv_iconst (v := nI 0) hx hb dX4_mixedWithRows_2 (by decide) ?_
  refine lv_istore (lv' := [(5, .int (nI 0)), (3, .long d), (0, .ref (ad 57)), (1, .long d)]) hx hb dX4_mixedWithRows_3 hl (by decide) rfl (fun ls hl => ?_)
  have loop5 : ∀ (fuel : Nat) (x5 : Int64) (i : Nat) (hi : i ≤ 3) (hx5 : x5 = iterL (mixRow S) i d), 3 - i < fuel → ∀ ls : Array Slot, lv_has ls 8 [(0, .ref (ad 57)), (1, .long d), (3, .long x5), (5, .int (nI i))] → W p l e ({ frames := 1, cells := 0, slots := 0, locals := 22 } : Room) s m ([.ref (ad 57), .long d]).toArray below meth c s.heap [] 0 0 (MQ below (vp_Sl (fun r => r = mixRows S d)) ([.ref (ad 57), .long d]).toArray s 0 0 (fun _ => False)) (F0 m 5 ls []) := by
    intro fuel
    induction fuel with
    | zero => intro x5 i hi hx5 hf; exact absurd hf (Nat.not_lt_zero _)
    | succ fuel ih5 =>
      intro x5 i hi hx5 hf ls hl
      refine lv_iload hx hb dX4_mixedWithRows_5 (lv_at hl 3 rfl) ?_
      refine lv_iconst (v := nI 3) hx hb dX4_mixedWithRows_7 (by decide) ?_
      refine kn_icmp_ge (tgt := 78) hx hb (by omega) (by omega) dX4_mixedWithRows_8 (by decide) (fun k_1 => ?_) (fun k_1 => ?_)
      · skip
        refine lv_lload_n hx hb dX4_mixedWithRows_78 rfl (lv_at hl 2 rfl) ?_
        exact W.lret (v := x5) hx hb hr (fun t9 ht9 hW9 => ⟨_, rfl, (by rw [hx5, show i = 3 by omega]; rfl), ht9⟩) (fun _ h => nomatch h) dX4_mixedWithRows_79
      · skip
        have hr9 := hI.1 i (by omega)
        have hn9 := hr9.1
        refine lv_aload_n hx hb dX4_mixedWithRows_11 rfl (lv_at hl 0 rfl) ?_
        refine lv_iload hx hb dX4_mixedWithRows_12 (lv_at hl 3 rfl) ?_
        refine va_csr (va_Run.run (va_runV (As := [.int (nI i)]) (rest := []) ⟨hx, hb, hml, hown, hts⟩ (m_X4_rowAt l dC dI ad S i (by omega)) (cwV 1 hts gX4_mixedWithRows_X4_rowAt rfl rfl rfl hdX4_rowAt_1 ⟨Nat.le_of_ble_eq_true rfl, Nat.le_of_ble_eq_true rfl⟩) (hX.preTop 57 6 (by decide) (by decide) rfl rfl) rfl rfl hl.1 rfl (lv_room (Nat.le_of_ble_eq_true rfl)) dX4_mixedWithRows_14 ⟨Nat.le_of_ble_eq_true rfl, Nat.le_of_ble_eq_true rfl⟩)) (fun k_ hk_ => ?_)
        rw [hk_]
        refine lv_astore (lv' := [(6, .ref (ad (3 * i))), (0, .ref (ad 57)), (1, .long d), (3, .long x5), (5, .int (nI i))]) hx hb dX4_mixedWithRows_17 hl (by decide) rfl (fun ls hl => ?_)
        refine lv_lload_n hx hb dX4_mixedWithRows_19 rfl (lv_at hl 3 rfl) ?_
        refine lv_aload hx hb dX4_mixedWithRows_20 (lv_at hl 0 rfl) ?_
        refine kx_cr (v := nI ((S.1 i).2.2)) (va_runV (As := []) (rest := [.long x5]) ⟨hx, hb, hml, hown, hts⟩ (m_X2_length l dC dI ad S i (by omega)) (cwV 0 hts gX4_mixedWithRows_X2_length rfl rfl rfl hdX2_length_0 ⟨Nat.le_of_ble_eq_true rfl, Nat.le_of_ble_eq_true rfl⟩) (hX.preRow (by omega)) rfl rfl hl.1 rfl (lv_room (Nat.le_of_ble_eq_true rfl)) dX4_mixedWithRows_22 ⟨Nat.le_of_ble_eq_true rfl, Nat.le_of_ble_eq_true rfl⟩) (fun _ h => h) ?_
        refine kx_crl (v := mixI x5 ((S.1 i).2.2)) (va_runS (As := [.long x5, .int (nI ((S.1 i).2.2))]) (rest := []) ⟨hx, hb, hml, hown, hts⟩ (m_X4_mixed l dC dI ad S x5 ((S.1 i).2.2) (by omega)) (va_cwS 2 hts gX4_mixedWithRows_X4_mixed rfl rfl rfl hdX4_mixed_2.2 ⟨Nat.le_of_ble_eq_true rfl, Nat.le_of_ble_eq_true rfl⟩) hX.preS rfl rfl hl.1 rfl (lv_room (Nat.le_of_ble_eq_true rfl)) dX4_mixedWithRows_25 ⟨Nat.le_of_ble_eq_true rfl, Nat.le_of_ble_eq_true rfl⟩) (fun _ h => h) ?_
        refine lv_lstore_n (lv' := [(3, .long (mixI x5 ((S.1 i).2.2))), (6, .ref (ad (3 * i))), (0, .ref (ad 57)), (1, .long d), (5, .int (nI i))]) hx hb dX4_mixedWithRows_28 rfl hl (by decide) rfl (fun ls hl => ?_)
        refine lv_iconst (v := nI 0) hx hb dX4_mixedWithRows_29 (by decide) ?_
        refine lv_istore (lv' := [(7, .int (nI 0)), (3, .long (mixI x5 ((S.1 i).2.2))), (6, .ref (ad (3 * i))), (0, .ref (ad 57)), (1, .long d), (5, .int (nI i))]) hx hb dX4_mixedWithRows_30 hl (by decide) rfl (fun ls hl => ?_)
        have loop32 : ∀ (fuel : Nat) (x7 : Int64) (q : Nat) (hq : q ≤ (S.1 i).2.2) (hx7 : x7 = iterL (fun k d => mixI (mixI d ((S.1 i).1 k)) ((S.1 i).2.1 k)) q (mixI x5 (S.1 i).2.2)), (S.1 i).2.2 - q < fuel → ∀ ls : Array Slot, lv_has ls 8 [(0, .ref (ad 57)), (1, .long d), (3, .long x7), (5, .int (nI i)), (6, .ref (ad (3 * i))), (7, .int (nI q))] → W p l e ({ frames := 1, cells := 0, slots := 0, locals := 22 } : Room) s m ([.ref (ad 57), .long d]).toArray below meth c s.heap [] 0 0 (MQ below (vp_Sl (fun r => r = mixRows S d)) ([.ref (ad 57), .long d]).toArray s 0 0 (fun _ => False)) (F0 m 32 ls []) := by
          intro fuel
          induction fuel with
          | zero => intro x7 q hq hx7 hf; exact absurd hf (Nat.not_lt_zero _)
          | succ fuel ih32 =>
            intro x7 q hq hx7 hf ls hl
            refine lv_iload hx hb dX4_mixedWithRows_32 (lv_at hl 5 rfl) ?_
            refine lv_aload hx hb dX4_mixedWithRows_34 (lv_at hl 4 rfl) ?_
            refine kx_cr (v := nI ((S.1 i).2.2)) (va_runV (As := []) (rest := [.int (nI q)]) ⟨hx, hb, hml, hown, hts⟩ (m_X2_length l dC dI ad S i (by omega)) (cwV 0 hts gX4_mixedWithRows_X2_length rfl rfl rfl hdX2_length_0 ⟨Nat.le_of_ble_eq_true rfl, Nat.le_of_ble_eq_true rfl⟩) (hX.preRow (by omega)) rfl rfl hl.1 rfl (lv_room (Nat.le_of_ble_eq_true rfl)) dX4_mixedWithRows_36 ⟨Nat.le_of_ble_eq_true rfl, Nat.le_of_ble_eq_true rfl⟩) (fun _ h => h) ?_
            refine kn_icmp_ge (tgt := 72) hx hb (by omega) (by omega) dX4_mixedWithRows_39 (by decide) (fun k_2 => ?_) (fun k_2 => ?_)
            · skip
              refine lv_iinc (v := nI (i + 1)) (lv' := [(5, .int (nI (i + 1))), (0, .ref (ad 57)), (1, .long d), (3, .long x7), (6, .ref (ad (3 * i))), (7, .int (nI q))]) hx hb dX4_mixedWithRows_72 hl (k := 3) rfl (nI_1 i) (by decide) rfl (fun ls hl => ?_)
              refine lv_goto (tgt := 5) hx hb dX4_mixedWithRows_75 (by decide) ?_
              exact ih5  x7 (i + 1) (by omega) (by rw [hx7, hx5, show q = (S.1 i).2.2 by omega]; rfl) (by omega) _ (lv_sub hl [1, 2, 3, 0] rfl)
            · skip
              refine lv_lload_n hx hb dX4_mixedWithRows_42 rfl (lv_at hl 2 rfl) ?_
              refine lv_aload hx hb dX4_mixedWithRows_43 (lv_at hl 4 rfl) ?_
              refine lv_iload hx hb dX4_mixedWithRows_45 (lv_at hl 5 rfl) ?_
              have hv9 := hr9.2 q (by omega)
              refine kx_cr (v := nI (((S.1 i).1) q)) (va_runV (As := [.int (nI q)]) (rest := [.long x7]) ⟨hx, hb, hml, hown, hts⟩ (m_X2_valueOn l dC dI ad S i q (by omega) (by omega)) (cwV 1 hts gX4_mixedWithRows_X2_valueOn rfl rfl rfl hdX2_valueOn_1 ⟨Nat.le_of_ble_eq_true rfl, Nat.le_of_ble_eq_true rfl⟩) (hX.preRow (by omega)) rfl rfl hl.1 rfl (lv_room (Nat.le_of_ble_eq_true rfl)) dX4_mixedWithRows_47 ⟨Nat.le_of_ble_eq_true rfl, Nat.le_of_ble_eq_true rfl⟩) (fun _ h => h) ?_
              refine kx_crl (v := mixI x7 (((S.1 i).1) q)) (va_runS (As := [.long x7, .int (nI (((S.1 i).1) q))]) (rest := []) ⟨hx, hb, hml, hown, hts⟩ (m_X4_mixed l dC dI ad S x7 (((S.1 i).1) q) (by omega)) (va_cwS 2 hts gX4_mixedWithRows_X4_mixed rfl rfl rfl hdX4_mixed_2.2 ⟨Nat.le_of_ble_eq_true rfl, Nat.le_of_ble_eq_true rfl⟩) hX.preS rfl rfl hl.1 rfl (lv_room (Nat.le_of_ble_eq_true rfl)) dX4_mixedWithRows_50 ⟨Nat.le_of_ble_eq_true rfl, Nat.le_of_ble_eq_true rfl⟩) (fun _ h => h) ?_
              refine lv_lstore_n (lv' := [(3, .long (mixI x7 (((S.1 i).1) q))), (0, .ref (ad 57)), (1, .long d), (5, .int (nI i)), (6, .ref (ad (3 * i))), (7, .int (nI q))]) hx hb dX4_mixedWithRows_53 rfl hl (by decide) rfl (fun ls hl => ?_)
              refine lv_lload_n hx hb dX4_mixedWithRows_54 rfl (lv_at hl 0 rfl) ?_
              refine lv_aload hx hb dX4_mixedWithRows_55 (lv_at hl 4 rfl) ?_
              refine lv_iload hx hb dX4_mixedWithRows_57 (lv_at hl 5 rfl) ?_
              refine kx_cr (v := nI (((S.1 i).2.1) q)) (va_runV (As := [.int (nI q)]) (rest := [.long (mixI x7 (((S.1 i).1) q))]) ⟨hx, hb, hml, hown, hts⟩ (m_X2_markOn l dC dI ad S i q (by omega) (by omega)) (cwV 1 hts gX4_mixedWithRows_X2_markOn rfl rfl rfl hdX2_markOn_1 ⟨Nat.le_of_ble_eq_true rfl, Nat.le_of_ble_eq_true rfl⟩) (hX.preRow (by omega)) rfl rfl hl.1 rfl (lv_room (Nat.le_of_ble_eq_true rfl)) dX4_mixedWithRows_59 ⟨Nat.le_of_ble_eq_true rfl, Nat.le_of_ble_eq_true rfl⟩) (fun _ h => h) ?_
              refine kx_crl (v := mixI (mixI x7 (((S.1 i).1) q)) (((S.1 i).2.1) q)) (va_runS (As := [.long (mixI x7 (((S.1 i).1) q)), .int (nI (((S.1 i).2.1) q))]) (rest := []) ⟨hx, hb, hml, hown, hts⟩ (m_X4_mixed l dC dI ad S (mixI x7 (((S.1 i).1) q)) (((S.1 i).2.1) q) (by omega)) (va_cwS 2 hts gX4_mixedWithRows_X4_mixed rfl rfl rfl hdX4_mixed_2.2 ⟨Nat.le_of_ble_eq_true rfl, Nat.le_of_ble_eq_true rfl⟩) hX.preS rfl rfl hl.1 rfl (lv_room (Nat.le_of_ble_eq_true rfl)) dX4_mixedWithRows_62 ⟨Nat.le_of_ble_eq_true rfl, Nat.le_of_ble_eq_true rfl⟩) (fun _ h => h) ?_
              refine lv_lstore_n (lv' := [(3, .long (mixI (mixI x7 (((S.1 i).1) q)) (((S.1 i).2.1) q))), (0, .ref (ad 57)), (1, .long d), (5, .int (nI i)), (6, .ref (ad (3 * i))), (7, .int (nI q))]) hx hb dX4_mixedWithRows_65 rfl hl (by decide) rfl (fun ls hl => ?_)
              refine lv_iinc (v := nI (q + 1)) (lv' := [(7, .int (nI (q + 1))), (3, .long (mixI (mixI x7 (((S.1 i).1) q)) (((S.1 i).2.1) q))), (0, .ref (ad 57)), (1, .long d), (5, .int (nI i)), (6, .ref (ad (3 * i)))]) hx hb dX4_mixedWithRows_66 hl (k := 5) rfl (nI_1 q) (by decide) rfl (fun ls hl => ?_)
              refine lv_goto (tgt := 32) hx hb dX4_mixedWithRows_69 (by decide) ?_
              exact ih32  (mixI (mixI x7 (((S.1 i).1) q)) (((S.1 i).2.1) q)) (q + 1) (by omega) (by rw [hx7]; rfl) (by omega) _ (lv_sub hl [2, 3, 1, 4, 5, 0] rfl)
        exact loop32 ((S.1 i).2.2 + 1) (mixI x5 ((S.1 i).2.2)) 0 (by omega) rfl (by omega) _ (lv_sub hl [3, 4, 1, 5, 2, 0] rfl)
  exact loop5 (3 + 1) d 0 (by omega) rfl (by omega) _ (lv_sub hl [2, 3, 1, 0] rfl)
set_option maxHeartbeats 4000000 in
set_option maxRecDepth 100000 in
theorem m_X4_mixedWithOrders (l : Launch) (dC : Nat → ClassId) (dI : Nat → Nat → Nat) (ad : Nat → Nat) (S : XS) (d : Int64) (hI : InvX S) : Met l yX4_mixedWithOrders wsX4_mixedWithOrders ({ frames := 1, cells := 0, slots := 0, locals := 22 } : Room) (va_Pc [.ref (ad 57), .long d] (PX dC dI ad S)) (vp_Sl (fun r => r = mixOrders S d)) 0 0 (fun _ => False) := by
  refine Met.ofW (cc := cX4_mixedWithOrders) (maxL := 8) (ret := (some .long)) pl_X4 rfl ?_
  intro p e s m args below meth c s₁ B hml hv
  obtain ⟨rfl, hPX⟩ := hv
  have hx := B.exec
  have hb := B.bytes
  have hr := B.returns
  have hts := atoms_spec (ws := wsX4_mixedWithOrders) B.pre
  have hown : s.vm.findClass RX4 = some m.cls := findClass_of_methodNamed B.named
  have hlocks := B.notSynchronized
  have hX := WX.of hPX
  have hl := lv_entry ([.ref (ad 57), .long d]) (n := 8) (Nat.le_of_ble_eq_true rfl)
  rw [lg_entry_eq]
  generalize (lg_sl ([.ref (ad 57), .long d]) ++ List.replicate (8 - (lg_sl ([.ref (ad 57), .long d])).length) Slot.unset).toArray = ls at hl ⊢
  have hl : lv_has ls 8 [(0, .ref (ad 57)), (1, .long d)] := hl
  show W p l e ({ frames := 1, cells := 0, slots := 0, locals := 22 } : Room) s m ([.ref (ad 57), .long d]).toArray below meth c s.heap [] 0 0 (MQ below (vp_Sl (fun r => r = mixOrders S d)) ([.ref (ad 57), .long d]).toArray s 0 0 (fun _ => False)) (F0 m 0 ls [])
  refine lv_lload_n hx hb dX4_mixedWithOrders_0 rfl (lv_at hl 1 rfl) ?_
  refine lv_lstore_n (lv' := [(3, .long d), (0, .ref (ad 57)), (1, .long d)]) hx hb dX4_mixedWithOrders_1 rfl hl (by decide) rfl (fun ls hl => ?_)
  refine lv_iconst (v := nI 0) hx hb dX4_mixedWithOrders_2 (by decide) ?_
  refine lv_istore (lv' := [(5, .int (nI 0)), (3, .long d), (0, .ref (ad 57)), (1, .long d)]) hx hb dX4_mixedWithOrders_3 hl (by decide) rfl (fun ls hl => ?_)
  have loop5 : ∀ (fuel : Nat) (x5 : Int64) (j : Nat) (hj : j ≤ 4) (hx5 : x5 = iterL (mixOrd S) j d), 4 - j < fuel → ∀ ls : Array Slot, lv_has ls 8 [(0, .ref (ad 57)), (1, .long d), (3, .long x5), (5, .int (nI j))] → W p l e ({ frames := 1, cells := 0, slots := 0, locals := 22 } : Room) s m ([.ref (ad 57), .long d]).toArray below meth c s.heap [] 0 0 (MQ below (vp_Sl (fun r => r = mixOrders S d)) ([.ref (ad 57), .long d]).toArray s 0 0 (fun _ => False)) (F0 m 5 ls []) := by
    intro fuel
    induction fuel with
    | zero => intro x5 j hj hx5 hf; exact absurd hf (Nat.not_lt_zero _)
    | succ fuel ih5 =>
      intro x5 j hj hx5 hf ls hl
      refine lv_iload hx hb dX4_mixedWithOrders_5 (lv_at hl 3 rfl) ?_
      refine lv_iconst (v := nI 4) hx hb dX4_mixedWithOrders_7 (by decide) ?_
      refine kn_icmp_ge (tgt := 124) hx hb (by omega) (by omega) dX4_mixedWithOrders_8 (by decide) (fun k_1 => ?_) (fun k_1 => ?_)
      · skip
        refine lv_lload_n hx hb dX4_mixedWithOrders_124 rfl (lv_at hl 2 rfl) ?_
        exact W.lret (v := x5) hx hb hr (fun t9 ht9 hW9 => ⟨_, rfl, (by rw [hx5, show j = 4 by omega]; rfl), ht9⟩) (fun _ h => nomatch h) dX4_mixedWithOrders_125
      · skip
        have ho9 := hI.2 j (by omega)
        have hn9 := ho9.1.1
        have hc9 := ordOK.cls ho9
        refine lv_aload_n hx hb dX4_mixedWithOrders_11 rfl (lv_at hl 0 rfl) ?_
        refine lv_iload hx hb dX4_mixedWithOrders_12 (lv_at hl 3 rfl) ?_
        refine va_csr (va_Run.run (va_runV (As := [.int (nI j)]) (rest := []) ⟨hx, hb, hml, hown, hts⟩ (m_X4_orderAt l dC dI ad S j (by omega)) (cwV 1 hts gX4_mixedWithOrders_X4_orderAt rfl rfl rfl hdX4_orderAt_1 ⟨Nat.le_of_ble_eq_true rfl, Nat.le_of_ble_eq_true rfl⟩) (hX.preTop 57 6 (by decide) (by decide) rfl rfl) rfl rfl hl.1 rfl (lv_room (Nat.le_of_ble_eq_true rfl)) dX4_mixedWithOrders_14 ⟨Nat.le_of_ble_eq_true rfl, Nat.le_of_ble_eq_true rfl⟩)) (fun k_ hk_ => ?_)
        rw [hk_]
        refine lv_astore (lv' := [(6, .ref (ad (24 + 5 * j))), (0, .ref (ad 57)), (1, .long d), (3, .long x5), (5, .int (nI j))]) hx hb dX4_mixedWithOrders_17 hl (by decide) rfl (fun ls hl => ?_)
        refine lv_lload_n hx hb dX4_mixedWithOrders_19 rfl (lv_at hl 3 rfl) ?_
        refine lv_aload hx hb dX4_mixedWithOrders_20 (lv_at hl 0 rfl) ?_
        refine kx_cr (v := nI ((S.2.1 j).2.2.2.2.1)) (va_runV (As := []) (rest := [.long x5]) ⟨hx, hb, hml, hown, hts⟩ (m_X1_length l dC dI ad S j  (by omega)) (cwV 0 hts gX4_mixedWithOrders_X1_length rfl rfl rfl hdX1_length_0 ⟨Nat.le_of_ble_eq_true rfl, Nat.le_of_ble_eq_true rfl⟩) (hX.preOrd (by omega)) rfl rfl hl.1 rfl (lv_room (Nat.le_of_ble_eq_true rfl)) dX4_mixedWithOrders_22 ⟨Nat.le_of_ble_eq_true rfl, Nat.le_of_ble_eq_true rfl⟩) (fun _ h => h) ?_
        refine kx_crl (v := mixI x5 ((S.2.1 j).2.2.2.2.1)) (va_runS (As := [.long x5, .int (nI ((S.2.1 j).2.2.2.2.1))]) (rest := []) ⟨hx, hb, hml, hown, hts⟩ (m_X4_mixed l dC dI ad S x5 ((S.2.1 j).2.2.2.2.1) (by omega)) (va_cwS 2 hts gX4_mixedWithOrders_X4_mixed rfl rfl rfl hdX4_mixed_2.2 ⟨Nat.le_of_ble_eq_true rfl, Nat.le_of_ble_eq_true rfl⟩) hX.preS rfl rfl hl.1 rfl (lv_room (Nat.le_of_ble_eq_true rfl)) dX4_mixedWithOrders_25 ⟨Nat.le_of_ble_eq_true rfl, Nat.le_of_ble_eq_true rfl⟩) (fun _ h => h) ?_
        refine lv_lstore_n (lv' := [(3, .long (mixI x5 ((S.2.1 j).2.2.2.2.1))), (6, .ref (ad (24 + 5 * j))), (0, .ref (ad 57)), (1, .long d), (5, .int (nI j))]) hx hb dX4_mixedWithOrders_28 rfl hl (by decide) rfl (fun ls hl => ?_)
        refine lv_iconst (v := nI 0) hx hb dX4_mixedWithOrders_29 (by decide) ?_
        refine lv_istore (lv' := [(7, .int (nI 0)), (3, .long (mixI x5 ((S.2.1 j).2.2.2.2.1))), (6, .ref (ad (24 + 5 * j))), (0, .ref (ad 57)), (1, .long d), (5, .int (nI j))]) hx hb dX4_mixedWithOrders_30 hl (by decide) rfl (fun ls hl => ?_)
        have loop32 : ∀ (fuel : Nat) (x7 : Int64) (q : Nat) (hq : q ≤ (S.2.1 j).2.2.2.2.1) (hx7 : x7 = iterL (fun k d => mixI (mixI d ((S.2.1 j).1 k)) (bN ((S.2.1 j).2.1 k))) q (mixI x5 (S.2.1 j).2.2.2.2.1)), (S.2.1 j).2.2.2.2.1 - q < fuel → ∀ ls : Array Slot, lv_has ls 8 [(0, .ref (ad 57)), (1, .long d), (3, .long x7), (5, .int (nI j)), (6, .ref (ad (24 + 5 * j))), (7, .int (nI q))] → W p l e ({ frames := 1, cells := 0, slots := 0, locals := 22 } : Room) s m ([.ref (ad 57), .long d]).toArray below meth c s.heap [] 0 0 (MQ below (vp_Sl (fun r => r = mixOrders S d)) ([.ref (ad 57), .long d]).toArray s 0 0 (fun _ => False)) (F0 m 32 ls []) := by
          intro fuel
          induction fuel with
          | zero => intro x7 q hq hx7 hf; exact absurd hf (Nat.not_lt_zero _)
          | succ fuel ih32 =>
            intro x7 q hq hx7 hf ls hl
            refine lv_iload hx hb dX4_mixedWithOrders_32 (lv_at hl 5 rfl) ?_
            refine lv_aload hx hb dX4_mixedWithOrders_34 (lv_at hl 4 rfl) ?_
            refine kx_cr (v := nI ((S.2.1 j).2.2.2.2.1)) (va_runV (As := []) (rest := [.int (nI q)]) ⟨hx, hb, hml, hown, hts⟩ (m_X1_length l dC dI ad S j  (by omega)) (cwV 0 hts gX4_mixedWithOrders_X1_length rfl rfl rfl hdX1_length_0 ⟨Nat.le_of_ble_eq_true rfl, Nat.le_of_ble_eq_true rfl⟩) (hX.preOrd (by omega)) rfl rfl hl.1 rfl (lv_room (Nat.le_of_ble_eq_true rfl)) dX4_mixedWithOrders_36 ⟨Nat.le_of_ble_eq_true rfl, Nat.le_of_ble_eq_true rfl⟩) (fun _ h => h) ?_
            refine kn_icmp_ge (tgt := 80) hx hb (by omega) (by omega) dX4_mixedWithOrders_39 (by decide) (fun k_2 => ?_) (fun k_2 => ?_)
            · skip
              refine lv_lload_n hx hb dX4_mixedWithOrders_80 rfl (lv_at hl 2 rfl) ?_
              refine lv_aload hx hb dX4_mixedWithOrders_81 (lv_at hl 4 rfl) ?_
              refine kx_cr (v := nI ((S.2.1 j).2.2.2.2.2)) (va_runV (As := []) (rest := [.long x7]) ⟨hx, hb, hml, hown, hts⟩ (m_X1_classCount l dC dI ad S j  (by omega)) (cwV 0 hts gX4_mixedWithOrders_X1_classCount rfl rfl rfl hdX1_classCount_0 ⟨Nat.le_of_ble_eq_true rfl, Nat.le_of_ble_eq_true rfl⟩) (hX.preOrd (by omega)) rfl rfl hl.1 rfl (lv_room (Nat.le_of_ble_eq_true rfl)) dX4_mixedWithOrders_83 ⟨Nat.le_of_ble_eq_true rfl, Nat.le_of_ble_eq_true rfl⟩) (fun _ h => h) ?_
              refine kx_crl (v := mixI x7 ((S.2.1 j).2.2.2.2.2)) (va_runS (As := [.long x7, .int (nI ((S.2.1 j).2.2.2.2.2))]) (rest := []) ⟨hx, hb, hml, hown, hts⟩ (m_X4_mixed l dC dI ad S x7 ((S.2.1 j).2.2.2.2.2) (by omega)) (va_cwS 2 hts gX4_mixedWithOrders_X4_mixed rfl rfl rfl hdX4_mixed_2.2 ⟨Nat.le_of_ble_eq_true rfl, Nat.le_of_ble_eq_true rfl⟩) hX.preS rfl rfl hl.1 rfl (lv_room (Nat.le_of_ble_eq_true rfl)) dX4_mixedWithOrders_86 ⟨Nat.le_of_ble_eq_true rfl, Nat.le_of_ble_eq_true rfl⟩) (fun _ h => h) ?_
              refine lv_lstore_n (lv' := [(3, .long (mixI x7 ((S.2.1 j).2.2.2.2.2))), (0, .ref (ad 57)), (1, .long d), (5, .int (nI j)), (6, .ref (ad (24 + 5 * j))), (7, .int (nI q))]) hx hb dX4_mixedWithOrders_89 rfl hl (by decide) rfl (fun ls hl => ?_)
              refine lv_iconst (v := nI 0) hx hb dX4_mixedWithOrders_90 (by decide) ?_
              refine lv_istore (lv' := [(7, .int (nI 0)), (3, .long (mixI x7 ((S.2.1 j).2.2.2.2.2))), (0, .ref (ad 57)), (1, .long d), (5, .int (nI j)), (6, .ref (ad (24 + 5 * j)))]) hx hb dX4_mixedWithOrders_91 hl (by decide) rfl (fun ls hl => ?_)
              have loop93 : ∀ (fuel : Nat) (y7 : Int64) (v : Nat) (hv : v ≤ 16) (hy7 : y7 = iterL (fun v d => mixI d ((S.2.1 j).2.2.2.1 v)) v (mixI x7 (S.2.1 j).2.2.2.2.2)), 16 - v < fuel → ∀ ls : Array Slot, lv_has ls 8 [(0, .ref (ad 57)), (1, .long d), (3, .long y7), (5, .int (nI j)), (6, .ref (ad (24 + 5 * j))), (7, .int (nI v))] → W p l e ({ frames := 1, cells := 0, slots := 0, locals := 22 } : Room) s m ([.ref (ad 57), .long d]).toArray below meth c s.heap [] 0 0 (MQ below (vp_Sl (fun r => r = mixOrders S d)) ([.ref (ad 57), .long d]).toArray s 0 0 (fun _ => False)) (F0 m 93 ls []) := by
                intro fuel
                induction fuel with
                | zero => intro y7 v hv hy7 hf; exact absurd hf (Nat.not_lt_zero _)
                | succ fuel ih93 =>
                  intro y7 v hv hy7 hf ls hl
                  refine lv_iload hx hb dX4_mixedWithOrders_93 (lv_at hl 5 rfl) ?_
                  refine lv_bipush (v := nI 16) hx hb dX4_mixedWithOrders_95 (by decide) ?_
                  refine kn_icmp_ge (tgt := 118) hx hb (by omega) (by omega) dX4_mixedWithOrders_97 (by decide) (fun k_3 => ?_) (fun k_3 => ?_)
                  · skip
                    refine lv_iinc (v := nI (j + 1)) (lv' := [(5, .int (nI (j + 1))), (0, .ref (ad 57)), (1, .long d), (3, .long y7), (6, .ref (ad (24 + 5 * j))), (7, .int (nI v))]) hx hb dX4_mixedWithOrders_118 hl (k := 3) rfl (nI_1 j) (by decide) rfl (fun ls hl => ?_)
                    refine lv_goto (tgt := 5) hx hb dX4_mixedWithOrders_121 (by decide) ?_
                    exact ih5  y7 (j + 1) (by omega) (by rw [hy7, hx7, hx5, show v = 16 by omega, show q = (S.2.1 j).2.2.2.2.1 by omega]; rfl) (by omega) _ (lv_sub hl [1, 2, 3, 0] rfl)
                  · skip
                    refine lv_lload_n hx hb dX4_mixedWithOrders_100 rfl (lv_at hl 2 rfl) ?_
                    refine lv_aload hx hb dX4_mixedWithOrders_101 (lv_at hl 4 rfl) ?_
                    refine lv_iload hx hb dX4_mixedWithOrders_103 (lv_at hl 5 rfl) ?_
                    refine kx_cr (v := nI (((S.2.1 j).2.2.2.1) v)) (va_runV (As := [.int (nI v)]) (rest := [.long y7]) ⟨hx, hb, hml, hown, hts⟩ (m_X1_rankOf l dC dI ad S j v (by omega) (by omega)) (cwV 1 hts gX4_mixedWithOrders_X1_rankOf rfl rfl rfl hdX1_rankOf_1 ⟨Nat.le_of_ble_eq_true rfl, Nat.le_of_ble_eq_true rfl⟩) (hX.preOrd (by omega)) rfl rfl hl.1 rfl (lv_room (Nat.le_of_ble_eq_true rfl)) dX4_mixedWithOrders_105 ⟨Nat.le_of_ble_eq_true rfl, Nat.le_of_ble_eq_true rfl⟩) (fun _ h => h) ?_
                    have hv9 := ordOK.rnk ho9 (show v < 16 by omega)
                    refine kx_crl (v := mixI y7 (((S.2.1 j).2.2.2.1) v)) (va_runS (As := [.long y7, .int (nI (((S.2.1 j).2.2.2.1) v))]) (rest := []) ⟨hx, hb, hml, hown, hts⟩ (m_X4_mixed l dC dI ad S y7 (((S.2.1 j).2.2.2.1) v) (by omega)) (va_cwS 2 hts gX4_mixedWithOrders_X4_mixed rfl rfl rfl hdX4_mixed_2.2 ⟨Nat.le_of_ble_eq_true rfl, Nat.le_of_ble_eq_true rfl⟩) hX.preS rfl rfl hl.1 rfl (lv_room (Nat.le_of_ble_eq_true rfl)) dX4_mixedWithOrders_108 ⟨Nat.le_of_ble_eq_true rfl, Nat.le_of_ble_eq_true rfl⟩) (fun _ h => h) ?_
                    refine lv_lstore_n (lv' := [(3, .long (mixI y7 (((S.2.1 j).2.2.2.1) v))), (0, .ref (ad 57)), (1, .long d), (5, .int (nI j)), (6, .ref (ad (24 + 5 * j))), (7, .int (nI v))]) hx hb dX4_mixedWithOrders_111 rfl hl (by decide) rfl (fun ls hl => ?_)
                    refine lv_iinc (v := nI (v + 1)) (lv' := [(7, .int (nI (v + 1))), (3, .long (mixI y7 (((S.2.1 j).2.2.2.1) v))), (0, .ref (ad 57)), (1, .long d), (5, .int (nI j)), (6, .ref (ad (24 + 5 * j)))]) hx hb dX4_mixedWithOrders_112 hl (k := 5) rfl (nI_1 v) (by decide) rfl (fun ls hl => ?_)
                    refine lv_goto (tgt := 93) hx hb dX4_mixedWithOrders_115 (by decide) ?_
                    exact ih93  (mixI y7 (((S.2.1 j).2.2.2.1) v)) (v + 1) (by omega) (by rw [hy7]; rfl) (by omega) _ (lv_sub hl [2, 3, 1, 4, 5, 0] rfl)
              exact loop93 (16 + 1) (mixI x7 ((S.2.1 j).2.2.2.2.2)) 0 (by omega) rfl (by omega) _ (lv_sub hl [2, 3, 1, 4, 5, 0] rfl)
            · skip
              refine lv_lload_n hx hb dX4_mixedWithOrders_42 rfl (lv_at hl 2 rfl) ?_
              refine lv_aload hx hb dX4_mixedWithOrders_43 (lv_at hl 4 rfl) ?_
              refine lv_iload hx hb dX4_mixedWithOrders_45 (lv_at hl 5 rfl) ?_
              refine kx_cr (v := nI (((S.2.1 j).1) q)) (va_runV (As := [.int (nI q)]) (rest := [.long x7]) ⟨hx, hb, hml, hown, hts⟩ (m_X1_keyOn l dC dI ad S j q (by omega) (by omega)) (cwV 1 hts gX4_mixedWithOrders_X1_keyOn rfl rfl rfl hdX1_keyOn_1 ⟨Nat.le_of_ble_eq_true rfl, Nat.le_of_ble_eq_true rfl⟩) (hX.preOrd (by omega)) rfl rfl hl.1 rfl (lv_room (Nat.le_of_ble_eq_true rfl)) dX4_mixedWithOrders_47 ⟨Nat.le_of_ble_eq_true rfl, Nat.le_of_ble_eq_true rfl⟩) (fun _ h => h) ?_
              have hk9 := ho9.1.2 q (by omega)
              refine kx_crl (v := mixI x7 (((S.2.1 j).1) q)) (va_runS (As := [.long x7, .int (nI (((S.2.1 j).1) q))]) (rest := []) ⟨hx, hb, hml, hown, hts⟩ (m_X4_mixed l dC dI ad S x7 (((S.2.1 j).1) q) (by omega)) (va_cwS 2 hts gX4_mixedWithOrders_X4_mixed rfl rfl rfl hdX4_mixed_2.2 ⟨Nat.le_of_ble_eq_true rfl, Nat.le_of_ble_eq_true rfl⟩) hX.preS rfl rfl hl.1 rfl (lv_room (Nat.le_of_ble_eq_true rfl)) dX4_mixedWithOrders_50 ⟨Nat.le_of_ble_eq_true rfl, Nat.le_of_ble_eq_true rfl⟩) (fun _ h => h) ?_
              refine lv_lstore_n (lv' := [(3, .long (mixI x7 (((S.2.1 j).1) q))), (0, .ref (ad 57)), (1, .long d), (5, .int (nI j)), (6, .ref (ad (24 + 5 * j))), (7, .int (nI q))]) hx hb dX4_mixedWithOrders_53 rfl hl (by decide) rfl (fun ls hl => ?_)
              refine lv_lload_n hx hb dX4_mixedWithOrders_54 rfl (lv_at hl 0 rfl) ?_
              refine lv_aload hx hb dX4_mixedWithOrders_55 (lv_at hl 4 rfl) ?_
              refine lv_iload hx hb dX4_mixedWithOrders_57 (lv_at hl 5 rfl) ?_
              refine kx_cr (v := bI (((S.2.1 j).2.1) q)) (va_runV (As := [.int (nI q)]) (rest := [.long (mixI x7 (((S.2.1 j).1) q))]) ⟨hx, hb, hml, hown, hts⟩ (m_X1_isDownOn l dC dI ad S j q (by omega) (by omega)) (cwV 1 hts gX4_mixedWithOrders_X1_isDownOn rfl rfl rfl hdX1_isDownOn_1 ⟨Nat.le_of_ble_eq_true rfl, Nat.le_of_ble_eq_true rfl⟩) (hX.preOrd (by omega)) rfl rfl hl.1 rfl (lv_room (Nat.le_of_ble_eq_true rfl)) dX4_mixedWithOrders_59 ⟨Nat.le_of_ble_eq_true rfl, Nat.le_of_ble_eq_true rfl⟩) (fun _ h => h) ?_
              refine kb_if_eq (tgt := 69) hx hb dX4_mixedWithOrders_62 (by decide) (fun k_4 => ?_) (fun k_4 => ?_)
              · skip
                have hc := k_4
                refine lv_iconst (v := nI 0) hx hb dX4_mixedWithOrders_69 (by decide) ?_
                refine kx_crl (v := mixI (mixI x7 (((S.2.1 j).1) q)) 0) (va_runS (As := [.long (mixI x7 (((S.2.1 j).1) q)), .int (nI 0)]) (rest := []) ⟨hx, hb, hml, hown, hts⟩ (m_X4_mixed l dC dI ad S (mixI x7 (((S.2.1 j).1) q)) 0 (by omega)) (va_cwS 2 hts gX4_mixedWithOrders_X4_mixed rfl rfl rfl hdX4_mixed_2.2 ⟨Nat.le_of_ble_eq_true rfl, Nat.le_of_ble_eq_true rfl⟩) hX.preS rfl rfl hl.1 rfl (lv_room (Nat.le_of_ble_eq_true rfl)) dX4_mixedWithOrders_70 ⟨Nat.le_of_ble_eq_true rfl, Nat.le_of_ble_eq_true rfl⟩) (fun _ h => h) ?_
                refine lv_lstore_n (lv' := [(3, .long (mixI (mixI x7 (((S.2.1 j).1) q)) 0)), (0, .ref (ad 57)), (1, .long d), (5, .int (nI j)), (6, .ref (ad (24 + 5 * j))), (7, .int (nI q))]) hx hb dX4_mixedWithOrders_73 rfl hl (by decide) rfl (fun ls hl => ?_)
                refine lv_iinc (v := nI (q + 1)) (lv' := [(7, .int (nI (q + 1))), (3, .long (mixI (mixI x7 (((S.2.1 j).1) q)) 0)), (0, .ref (ad 57)), (1, .long d), (5, .int (nI j)), (6, .ref (ad (24 + 5 * j)))]) hx hb dX4_mixedWithOrders_74 hl (k := 5) rfl (nI_1 q) (by decide) rfl (fun ls hl => ?_)
                refine lv_goto (tgt := 32) hx hb dX4_mixedWithOrders_77 (by decide) ?_
                exact ih32  (mixI (mixI x7 (((S.2.1 j).1) q)) 0) (q + 1) (by omega) (by rw [hx7]; show _ = mixI (mixI _ _) (bN ((S.2.1 j).2.1 q)); rw [hc]; rfl) (by omega) _ (lv_sub hl [2, 3, 1, 4, 5, 0] rfl)
              · skip
                have hc := k_4
                refine lv_iconst (v := nI 1) hx hb dX4_mixedWithOrders_65 (by decide) ?_
                refine lv_goto (tgt := 70) hx hb dX4_mixedWithOrders_66 (by decide) ?_
                refine kx_crl (v := mixI (mixI x7 (((S.2.1 j).1) q)) 1) (va_runS (As := [.long (mixI x7 (((S.2.1 j).1) q)), .int (nI 1)]) (rest := []) ⟨hx, hb, hml, hown, hts⟩ (m_X4_mixed l dC dI ad S (mixI x7 (((S.2.1 j).1) q)) 1 (by omega)) (va_cwS 2 hts gX4_mixedWithOrders_X4_mixed rfl rfl rfl hdX4_mixed_2.2 ⟨Nat.le_of_ble_eq_true rfl, Nat.le_of_ble_eq_true rfl⟩) hX.preS rfl rfl hl.1 rfl (lv_room (Nat.le_of_ble_eq_true rfl)) dX4_mixedWithOrders_70 ⟨Nat.le_of_ble_eq_true rfl, Nat.le_of_ble_eq_true rfl⟩) (fun _ h => h) ?_
                refine lv_lstore_n (lv' := [(3, .long (mixI (mixI x7 (((S.2.1 j).1) q)) 1)), (0, .ref (ad 57)), (1, .long d), (5, .int (nI j)), (6, .ref (ad (24 + 5 * j))), (7, .int (nI q))]) hx hb dX4_mixedWithOrders_73 rfl hl (by decide) rfl (fun ls hl => ?_)
                refine lv_iinc (v := nI (q + 1)) (lv' := [(7, .int (nI (q + 1))), (3, .long (mixI (mixI x7 (((S.2.1 j).1) q)) 1)), (0, .ref (ad 57)), (1, .long d), (5, .int (nI j)), (6, .ref (ad (24 + 5 * j)))]) hx hb dX4_mixedWithOrders_74 hl (k := 5) rfl (nI_1 q) (by decide) rfl (fun ls hl => ?_)
                refine lv_goto (tgt := 32) hx hb dX4_mixedWithOrders_77 (by decide) ?_
                exact ih32  (mixI (mixI x7 (((S.2.1 j).1) q)) 1) (q + 1) (by omega) (by rw [hx7]; show _ = mixI (mixI _ _) (bN ((S.2.1 j).2.1 q)); rw [hc]; rfl) (by omega) _ (lv_sub hl [2, 3, 1, 4, 5, 0] rfl)
        exact loop32 ((S.2.1 j).2.2.2.2.1 + 1) (mixI x5 ((S.2.1 j).2.2.2.2.1)) 0 (by omega) rfl (by omega) _ (lv_sub hl [3, 4, 1, 5, 2, 0] rfl)
  exact loop5 (4 + 1) d 0 (by omega) rfl (by omega) _ (lv_sub hl [2, 3, 1, 0] rfl)
set_option maxHeartbeats 4000000 in
set_option maxRecDepth 100000 in
theorem m_X4_mixedWithPairs (l : Launch) (dC : Nat → ClassId) (dI : Nat → Nat → Nat) (ad : Nat → Nat) (S : XS) (d : Int64) (hI : InvX S) : Met l yX4_mixedWithPairs wsX4_mixedWithPairs ({ frames := 3, cells := 0, slots := 0, locals := 75 } : Room) (va_Pc [.ref (ad 57), .long d] (PX dC dI ad S)) (vp_Sl (fun r => r = mixPairs S d)) 0 0 (fun _ => False) := by
  refine Met.ofW (cc := cX4_mixedWithPairs) (maxL := 7) (ret := (some .long)) pl_X4 rfl ?_
  intro p e s m args below meth c s₁ B hml hv
  obtain ⟨rfl, hPX⟩ := hv
  have hx := B.exec
  have hb := B.bytes
  have hr := B.returns
  have hts := atoms_spec (ws := wsX4_mixedWithPairs) B.pre
  have hown : s.vm.findClass RX4 = some m.cls := findClass_of_methodNamed B.named
  have hlocks := B.notSynchronized
  have hX := WX.of hPX
  have hl := lv_entry ([.ref (ad 57), .long d]) (n := 7) (Nat.le_of_ble_eq_true rfl)
  rw [lg_entry_eq]
  generalize (lg_sl ([.ref (ad 57), .long d]) ++ List.replicate (7 - (lg_sl ([.ref (ad 57), .long d])).length) Slot.unset).toArray = ls at hl ⊢
  have hl : lv_has ls 7 [(0, .ref (ad 57)), (1, .long d)] := hl
  show W p l e ({ frames := 3, cells := 0, slots := 0, locals := 75 } : Room) s m ([.ref (ad 57), .long d]).toArray below meth c s.heap [] 0 0 (MQ below (vp_Sl (fun r => r = mixPairs S d)) ([.ref (ad 57), .long d]).toArray s 0 0 (fun _ => False)) (F0 m 0 ls [])
  refine lv_lload_n hx hb dX4_mixedWithPairs_0 rfl (lv_at hl 1 rfl) ?_
  refine lv_lstore_n (lv' := [(3, .long d), (0, .ref (ad 57)), (1, .long d)]) hx hb dX4_mixedWithPairs_1 rfl hl (by decide) rfl (fun ls hl => ?_)
  refine lv_iconst (v := nI 0) hx hb dX4_mixedWithPairs_2 (by decide) ?_
  refine lv_istore (lv' := [(5, .int (nI 0)), (3, .long d), (0, .ref (ad 57)), (1, .long d)]) hx hb dX4_mixedWithPairs_3 hl (by decide) rfl (fun ls hl => ?_)
  have loop5 : ∀ (fuel : Nat) (x5 : Int64) (a : Nat) (ha : a ≤ 4) (hx5 : x5 = iterL (fun a d => iterL (mixPair S a) 4 d) a d), 4 - a < fuel → ∀ ls : Array Slot, lv_has ls 7 [(0, .ref (ad 57)), (1, .long d), (3, .long x5), (5, .int (nI a))] → W p l e ({ frames := 3, cells := 0, slots := 0, locals := 75 } : Room) s m ([.ref (ad 57), .long d]).toArray below meth c s.heap [] 0 0 (MQ below (vp_Sl (fun r => r = mixPairs S d)) ([.ref (ad 57), .long d]).toArray s 0 0 (fun _ => False)) (F0 m 5 ls []) := by
    intro fuel
    induction fuel with
    | zero => intro x5 a ha hx5 hf; exact absurd hf (Nat.not_lt_zero _)
    | succ fuel ih5 =>
      intro x5 a ha hx5 hf ls hl
      refine lv_iload hx hb dX4_mixedWithPairs_5 (lv_at hl 3 rfl) ?_
      refine lv_iconst (v := nI 4) hx hb dX4_mixedWithPairs_7 (by decide) ?_
      refine kn_icmp_ge (tgt := 80) hx hb (by omega) (by omega) dX4_mixedWithPairs_8 (by decide) (fun k_1 => ?_) (fun k_1 => ?_)
      · skip
        refine lv_lload_n hx hb dX4_mixedWithPairs_80 rfl (lv_at hl 2 rfl) ?_
        exact W.lret (v := x5) hx hb hr (fun t9 ht9 hW9 => ⟨_, rfl, (by rw [hx5, show a = 4 by omega]; rfl), ht9⟩) (fun _ h => nomatch h) dX4_mixedWithPairs_81
      · skip
        refine lv_iconst (v := nI 0) hx hb dX4_mixedWithPairs_11 (by decide) ?_
        refine lv_istore (lv' := [(6, .int (nI 0)), (0, .ref (ad 57)), (1, .long d), (3, .long x5), (5, .int (nI a))]) hx hb dX4_mixedWithPairs_12 hl (by decide) rfl (fun ls hl => ?_)
        have loop14 : ∀ (fuel : Nat) (x6 : Int64) (b9 : Nat) (hb9 : b9 ≤ 4) (hx6 : x6 = iterL (mixPair S a) b9 x5), 4 - b9 < fuel → ∀ ls : Array Slot, lv_has ls 7 [(0, .ref (ad 57)), (1, .long d), (3, .long x6), (5, .int (nI a)), (6, .int (nI b9))] → W p l e ({ frames := 3, cells := 0, slots := 0, locals := 75 } : Room) s m ([.ref (ad 57), .long d]).toArray below meth c s.heap [] 0 0 (MQ below (vp_Sl (fun r => r = mixPairs S d)) ([.ref (ad 57), .long d]).toArray s 0 0 (fun _ => False)) (F0 m 14 ls []) := by
          intro fuel
          induction fuel with
          | zero => intro x6 b9 hb9 hx6 hf; exact absurd hf (Nat.not_lt_zero _)
          | succ fuel ih14 =>
            intro x6 b9 hb9 hx6 hf ls hl
            refine lv_iload hx hb dX4_mixedWithPairs_14 (lv_at hl 4 rfl) ?_
            refine lv_iconst (v := nI 4) hx hb dX4_mixedWithPairs_16 (by decide) ?_
            refine kn_icmp_ge (tgt := 74) hx hb (by omega) (by omega) dX4_mixedWithPairs_17 (by decide) (fun k_2 => ?_) (fun k_2 => ?_)
            · skip
              refine lv_iinc (v := nI (a + 1)) (lv' := [(5, .int (nI (a + 1))), (0, .ref (ad 57)), (1, .long d), (3, .long x6), (6, .int (nI b9))]) hx hb dX4_mixedWithPairs_74 hl (k := 3) rfl (nI_1 a) (by decide) rfl (fun ls hl => ?_)
              refine lv_goto (tgt := 5) hx hb dX4_mixedWithPairs_77 (by decide) ?_
              exact ih5  x6 (a + 1) (by omega) (by rw [hx6, hx5, show b9 = 4 by omega]; rfl) (by omega) _ (lv_sub hl [1, 2, 3, 0] rfl)
            · skip
              refine lv_lload_n hx hb dX4_mixedWithPairs_20 rfl (lv_at hl 2 rfl) ?_
              refine lv_aload_n hx hb dX4_mixedWithPairs_21 rfl (lv_at hl 0 rfl) ?_
              refine lv_iload hx hb dX4_mixedWithPairs_22 (lv_at hl 3 rfl) ?_
              refine va_csr (va_Run.run (va_runV (As := [.int (nI a)]) (rest := [.long x6]) ⟨hx, hb, hml, hown, hts⟩ (m_X4_orderAt l dC dI ad S a (by omega)) (cwV 1 hts gX4_mixedWithPairs_X4_orderAt rfl rfl rfl hdX4_orderAt_1 ⟨Nat.le_of_ble_eq_true rfl, Nat.le_of_ble_eq_true rfl⟩) (hX.preTop 57 6 (by decide) (by decide) rfl rfl) rfl rfl hl.1 rfl (lv_room (Nat.le_of_ble_eq_true rfl)) dX4_mixedWithPairs_24 ⟨Nat.le_of_ble_eq_true rfl, Nat.le_of_ble_eq_true rfl⟩)) (fun k_ hk_ => ?_)
              rw [hk_]
              refine lv_aload_n hx hb dX4_mixedWithPairs_27 rfl (lv_at hl 0 rfl) ?_
              refine lv_iload hx hb dX4_mixedWithPairs_28 (lv_at hl 4 rfl) ?_
              refine va_csr (va_Run.run (va_runV (As := [.int (nI b9)]) (rest := [.ref (ad (24 + 5 * a)), .long x6]) ⟨hx, hb, hml, hown, hts⟩ (m_X4_orderAt l dC dI ad S b9 (by omega)) (cwV 1 hts gX4_mixedWithPairs_X4_orderAt rfl rfl rfl hdX4_orderAt_1 ⟨Nat.le_of_ble_eq_true rfl, Nat.le_of_ble_eq_true rfl⟩) (hX.preTop 57 6 (by decide) (by decide) rfl rfl) rfl rfl hl.1 rfl (lv_room (Nat.le_of_ble_eq_true rfl)) dX4_mixedWithPairs_30 ⟨Nat.le_of_ble_eq_true rfl, Nat.le_of_ble_eq_true rfl⟩)) (fun k_ hk_ => ?_)
              rw [hk_]
              refine kx_cr (v := nI (apartN (S.2.1 a).2.2.1 (S.2.1 b9).2.2.1)) (va_runS (As := [.ref (ad (24 + 5 * a)), .ref (ad (24 + 5 * b9))]) (rest := [.long x6]) ⟨hx, hb, hml, hown, hts⟩ (m_X4_pairsApart l dC dI ad S a b9 (by omega) (by omega) (hI.2 a (by omega)) (hI.2 b9 (by omega))) (va_cwS 2 hts gX4_mixedWithPairs_X4_pairsApart rfl rfl rfl hdX4_pairsApart_2.2 ⟨Nat.le_of_ble_eq_true rfl, Nat.le_of_ble_eq_true rfl⟩) hX.preS rfl rfl hl.1 rfl (lv_room (Nat.le_of_ble_eq_true rfl)) dX4_mixedWithPairs_33 ⟨Nat.le_of_ble_eq_true rfl, Nat.le_of_ble_eq_true rfl⟩) (fun _ h => h) ?_
              have h1 := apartN_le (S.2.1 a).2.2.1 (S.2.1 b9).2.2.1
              refine kx_crl (v := mixI x6 (apartN (S.2.1 a).2.2.1 (S.2.1 b9).2.2.1)) (va_runS (As := [.long x6, .int (nI (apartN (S.2.1 a).2.2.1 (S.2.1 b9).2.2.1))]) (rest := []) ⟨hx, hb, hml, hown, hts⟩ (m_X4_mixed l dC dI ad S x6 (apartN (S.2.1 a).2.2.1 (S.2.1 b9).2.2.1) (by omega)) (va_cwS 2 hts gX4_mixedWithPairs_X4_mixed rfl rfl rfl hdX4_mixed_2.2 ⟨Nat.le_of_ble_eq_true rfl, Nat.le_of_ble_eq_true rfl⟩) hX.preS rfl rfl hl.1 rfl (lv_room (Nat.le_of_ble_eq_true rfl)) dX4_mixedWithPairs_36 ⟨Nat.le_of_ble_eq_true rfl, Nat.le_of_ble_eq_true rfl⟩) (fun _ h => h) ?_
              refine lv_lstore_n (lv' := [(3, .long (mixI x6 (apartN (S.2.1 a).2.2.1 (S.2.1 b9).2.2.1))), (0, .ref (ad 57)), (1, .long d), (5, .int (nI a)), (6, .int (nI b9))]) hx hb dX4_mixedWithPairs_39 rfl hl (by decide) rfl (fun ls hl => ?_)
              refine lv_lload_n hx hb dX4_mixedWithPairs_40 rfl (lv_at hl 0 rfl) ?_
              refine lv_aload_n hx hb dX4_mixedWithPairs_41 rfl (lv_at hl 1 rfl) ?_
              refine lv_iload hx hb dX4_mixedWithPairs_42 (lv_at hl 3 rfl) ?_
              refine va_csr (va_Run.run (va_runV (As := [.int (nI a)]) (rest := [.long (mixI x6 (apartN (S.2.1 a).2.2.1 (S.2.1 b9).2.2.1))]) ⟨hx, hb, hml, hown, hts⟩ (m_X4_orderAt l dC dI ad S a (by omega)) (cwV 1 hts gX4_mixedWithPairs_X4_orderAt rfl rfl rfl hdX4_orderAt_1 ⟨Nat.le_of_ble_eq_true rfl, Nat.le_of_ble_eq_true rfl⟩) (hX.preTop 57 6 (by decide) (by decide) rfl rfl) rfl rfl hl.1 rfl (lv_room (Nat.le_of_ble_eq_true rfl)) dX4_mixedWithPairs_44 ⟨Nat.le_of_ble_eq_true rfl, Nat.le_of_ble_eq_true rfl⟩)) (fun k_ hk_ => ?_)
              rw [hk_]
              refine lv_aload_n hx hb dX4_mixedWithPairs_47 rfl (lv_at hl 1 rfl) ?_
              refine lv_iload hx hb dX4_mixedWithPairs_48 (lv_at hl 4 rfl) ?_
              refine va_csr (va_Run.run (va_runV (As := [.int (nI b9)]) (rest := [.ref (ad (24 + 5 * a)), .long (mixI x6 (apartN (S.2.1 a).2.2.1 (S.2.1 b9).2.2.1))]) ⟨hx, hb, hml, hown, hts⟩ (m_X4_orderAt l dC dI ad S b9 (by omega)) (cwV 1 hts gX4_mixedWithPairs_X4_orderAt rfl rfl rfl hdX4_orderAt_1 ⟨Nat.le_of_ble_eq_true rfl, Nat.le_of_ble_eq_true rfl⟩) (hX.preTop 57 6 (by decide) (by decide) rfl rfl) rfl rfl hl.1 rfl (lv_room (Nat.le_of_ble_eq_true rfl)) dX4_mixedWithPairs_50 ⟨Nat.le_of_ble_eq_true rfl, Nat.le_of_ble_eq_true rfl⟩)) (fun k_ hk_ => ?_)
              rw [hk_]
              refine kx_cr (v := bI (finerB (S.2.1 a).2.2.1 (S.2.1 b9).2.2.1)) (va_runV (As := [.ref (ad (24 + 5 * b9))]) (rest := [.long (mixI x6 (apartN (S.2.1 a).2.2.1 (S.2.1 b9).2.2.1))]) ⟨hx, hb, hml, hown, hts⟩ (m_X1_isFinerThan l dC dI ad S a b9 (by omega) (by omega) (hI.2 a (by omega)) (hI.2 b9 (by omega))) (cwV 1 hts gX4_mixedWithPairs_X1_isFinerThan rfl rfl rfl hdX1_isFinerThan_1 ⟨Nat.le_of_ble_eq_true rfl, Nat.le_of_ble_eq_true rfl⟩) (hX.preOrd (by omega)) rfl rfl hl.1 rfl (lv_room (Nat.le_of_ble_eq_true rfl)) dX4_mixedWithPairs_53 ⟨Nat.le_of_ble_eq_true rfl, Nat.le_of_ble_eq_true rfl⟩) (fun _ h => h) ?_
              refine kb_if_eq (tgt := 63) hx hb dX4_mixedWithPairs_56 (by decide) (fun k_3 => ?_) (fun k_3 => ?_)
              · skip
                have hc := k_3
                refine lv_iconst (v := nI 0) hx hb dX4_mixedWithPairs_63 (by decide) ?_
                refine kx_crl (v := mixI (mixI x6 (apartN (S.2.1 a).2.2.1 (S.2.1 b9).2.2.1)) 0) (va_runS (As := [.long (mixI x6 (apartN (S.2.1 a).2.2.1 (S.2.1 b9).2.2.1)), .int (nI 0)]) (rest := []) ⟨hx, hb, hml, hown, hts⟩ (m_X4_mixed l dC dI ad S (mixI x6 (apartN (S.2.1 a).2.2.1 (S.2.1 b9).2.2.1)) 0 (by omega)) (va_cwS 2 hts gX4_mixedWithPairs_X4_mixed rfl rfl rfl hdX4_mixed_2.2 ⟨Nat.le_of_ble_eq_true rfl, Nat.le_of_ble_eq_true rfl⟩) hX.preS rfl rfl hl.1 rfl (lv_room (Nat.le_of_ble_eq_true rfl)) dX4_mixedWithPairs_64 ⟨Nat.le_of_ble_eq_true rfl, Nat.le_of_ble_eq_true rfl⟩) (fun _ h => h) ?_
                refine lv_lstore_n (lv' := [(3, .long (mixI (mixI x6 (apartN (S.2.1 a).2.2.1 (S.2.1 b9).2.2.1)) 0)), (0, .ref (ad 57)), (1, .long d), (5, .int (nI a)), (6, .int (nI b9))]) hx hb dX4_mixedWithPairs_67 rfl hl (by decide) rfl (fun ls hl => ?_)
                refine lv_iinc (v := nI (b9 + 1)) (lv' := [(6, .int (nI (b9 + 1))), (3, .long (mixI (mixI x6 (apartN (S.2.1 a).2.2.1 (S.2.1 b9).2.2.1)) 0)), (0, .ref (ad 57)), (1, .long d), (5, .int (nI a))]) hx hb dX4_mixedWithPairs_68 hl (k := 4) rfl (nI_1 b9) (by decide) rfl (fun ls hl => ?_)
                refine lv_goto (tgt := 14) hx hb dX4_mixedWithPairs_71 (by decide) ?_
                exact ih14  (mixI (mixI x6 (apartN (S.2.1 a).2.2.1 (S.2.1 b9).2.2.1)) 0) (b9 + 1) (by omega) (by rw [hx6]; show _ = mixI (mixI _ _) (bN (finerB (S.2.1 a).2.2.1 (S.2.1 b9).2.2.1)); rw [hc]; rfl) (by omega) _ (lv_sub hl [2, 3, 1, 4, 0] rfl)
              · skip
                have hc := k_3
                refine lv_iconst (v := nI 1) hx hb dX4_mixedWithPairs_59 (by decide) ?_
                refine lv_goto (tgt := 64) hx hb dX4_mixedWithPairs_60 (by decide) ?_
                refine kx_crl (v := mixI (mixI x6 (apartN (S.2.1 a).2.2.1 (S.2.1 b9).2.2.1)) 1) (va_runS (As := [.long (mixI x6 (apartN (S.2.1 a).2.2.1 (S.2.1 b9).2.2.1)), .int (nI 1)]) (rest := []) ⟨hx, hb, hml, hown, hts⟩ (m_X4_mixed l dC dI ad S (mixI x6 (apartN (S.2.1 a).2.2.1 (S.2.1 b9).2.2.1)) 1 (by omega)) (va_cwS 2 hts gX4_mixedWithPairs_X4_mixed rfl rfl rfl hdX4_mixed_2.2 ⟨Nat.le_of_ble_eq_true rfl, Nat.le_of_ble_eq_true rfl⟩) hX.preS rfl rfl hl.1 rfl (lv_room (Nat.le_of_ble_eq_true rfl)) dX4_mixedWithPairs_64 ⟨Nat.le_of_ble_eq_true rfl, Nat.le_of_ble_eq_true rfl⟩) (fun _ h => h) ?_
                refine lv_lstore_n (lv' := [(3, .long (mixI (mixI x6 (apartN (S.2.1 a).2.2.1 (S.2.1 b9).2.2.1)) 1)), (0, .ref (ad 57)), (1, .long d), (5, .int (nI a)), (6, .int (nI b9))]) hx hb dX4_mixedWithPairs_67 rfl hl (by decide) rfl (fun ls hl => ?_)
                refine lv_iinc (v := nI (b9 + 1)) (lv' := [(6, .int (nI (b9 + 1))), (3, .long (mixI (mixI x6 (apartN (S.2.1 a).2.2.1 (S.2.1 b9).2.2.1)) 1)), (0, .ref (ad 57)), (1, .long d), (5, .int (nI a))]) hx hb dX4_mixedWithPairs_68 hl (k := 4) rfl (nI_1 b9) (by decide) rfl (fun ls hl => ?_)
                refine lv_goto (tgt := 14) hx hb dX4_mixedWithPairs_71 (by decide) ?_
                exact ih14  (mixI (mixI x6 (apartN (S.2.1 a).2.2.1 (S.2.1 b9).2.2.1)) 1) (b9 + 1) (by omega) (by rw [hx6]; show _ = mixI (mixI _ _) (bN (finerB (S.2.1 a).2.2.1 (S.2.1 b9).2.2.1)); rw [hc]; rfl) (by omega) _ (lv_sub hl [2, 3, 1, 4, 0] rfl)
        exact loop14 (4 + 1) x5 0 (by omega) rfl (by omega) _ (lv_sub hl [1, 2, 3, 4, 0] rfl)
  exact loop5 (4 + 1) d 0 (by omega) rfl (by omega) _ (lv_sub hl [2, 3, 1, 0] rfl)
set_option maxHeartbeats 4000000 in
set_option maxRecDepth 100000 in
theorem m_X4_mixedWithSequences (l : Launch) (dC : Nat → ClassId) (dI : Nat → Nat → Nat) (ad : Nat → Nat) (S : XS) (d : Int64) (hI : InvX S) : Met l yX4_mixedWithSequences wsX4_mixedWithSequences ({ frames := 3, cells := 0, slots := 0, locals := 72 } : Room) (va_Pc [.ref (ad 57), .long d] (PX dC dI ad S)) (vp_Sl (fun r => r = mixSeqs S d)) 0 0 (fun _ => False) := by
  refine Met.ofW (cc := cX4_mixedWithSequences) (maxL := 7) (ret := (some .long)) pl_X4 rfl ?_
  intro p e s m args below meth c s₁ B hml hv
  obtain ⟨rfl, hPX⟩ := hv
  have hx := B.exec
  have hb := B.bytes
  have hr := B.returns
  have hts := atoms_spec (ws := wsX4_mixedWithSequences) B.pre
  have hown : s.vm.findClass RX4 = some m.cls := findClass_of_methodNamed B.named
  have hlocks := B.notSynchronized
  have hX := WX.of hPX
  have hl := lv_entry ([.ref (ad 57), .long d]) (n := 7) (Nat.le_of_ble_eq_true rfl)
  rw [lg_entry_eq]
  generalize (lg_sl ([.ref (ad 57), .long d]) ++ List.replicate (7 - (lg_sl ([.ref (ad 57), .long d])).length) Slot.unset).toArray = ls at hl ⊢
  have hl : lv_has ls 7 [(0, .ref (ad 57)), (1, .long d)] := hl
  show W p l e ({ frames := 3, cells := 0, slots := 0, locals := 72 } : Room) s m ([.ref (ad 57), .long d]).toArray below meth c s.heap [] 0 0 (MQ below (vp_Sl (fun r => r = mixSeqs S d)) ([.ref (ad 57), .long d]).toArray s 0 0 (fun _ => False)) (F0 m 0 ls [])
  refine lv_lload_n hx hb dX4_mixedWithSequences_0 rfl (lv_at hl 1 rfl) ?_
  refine lv_lstore_n (lv' := [(3, .long d), (0, .ref (ad 57)), (1, .long d)]) hx hb dX4_mixedWithSequences_1 rfl hl (by decide) rfl (fun ls hl => ?_)
  refine lv_iconst (v := nI 0) hx hb dX4_mixedWithSequences_2 (by decide) ?_
  refine lv_istore (lv' := [(5, .int (nI 0)), (3, .long d), (0, .ref (ad 57)), (1, .long d)]) hx hb dX4_mixedWithSequences_3 hl (by decide) rfl (fun ls hl => ?_)
  have loop5 : ∀ (fuel : Nat) (x5 : Int64) (a : Nat) (ha : a ≤ 3) (hx5 : x5 = iterL (fun i d => iterL (mixSeq S i) 4 d) a d), 3 - a < fuel → ∀ ls : Array Slot, lv_has ls 7 [(0, .ref (ad 57)), (1, .long d), (3, .long x5), (5, .int (nI a))] → W p l e ({ frames := 3, cells := 0, slots := 0, locals := 72 } : Room) s m ([.ref (ad 57), .long d]).toArray below meth c s.heap [] 0 0 (MQ below (vp_Sl (fun r => r = mixSeqs S d)) ([.ref (ad 57), .long d]).toArray s 0 0 (fun _ => False)) (F0 m 5 ls []) := by
    intro fuel
    induction fuel with
    | zero => intro x5 a ha hx5 hf; exact absurd hf (Nat.not_lt_zero _)
    | succ fuel ih5 =>
      intro x5 a ha hx5 hf ls hl
      refine lv_iload hx hb dX4_mixedWithSequences_5 (lv_at hl 3 rfl) ?_
      refine lv_iconst (v := nI 3) hx hb dX4_mixedWithSequences_7 (by decide) ?_
      refine kn_icmp_ge (tgt := 80) hx hb (by omega) (by omega) dX4_mixedWithSequences_8 (by decide) (fun k_1 => ?_) (fun k_1 => ?_)
      · skip
        refine lv_lload_n hx hb dX4_mixedWithSequences_80 rfl (lv_at hl 2 rfl) ?_
        exact W.lret (v := x5) hx hb hr (fun t9 ht9 hW9 => ⟨_, rfl, (by rw [hx5, show a = 3 by omega]; rfl), ht9⟩) (fun _ h => nomatch h) dX4_mixedWithSequences_81
      · skip
        refine lv_iconst (v := nI 0) hx hb dX4_mixedWithSequences_11 (by decide) ?_
        refine lv_istore (lv' := [(6, .int (nI 0)), (0, .ref (ad 57)), (1, .long d), (3, .long x5), (5, .int (nI a))]) hx hb dX4_mixedWithSequences_12 hl (by decide) rfl (fun ls hl => ?_)
        have loop14 : ∀ (fuel : Nat) (x6 : Int64) (b9 : Nat) (hb9 : b9 ≤ 4) (hx6 : x6 = iterL (mixSeq S a) b9 x5), 4 - b9 < fuel → ∀ ls : Array Slot, lv_has ls 7 [(0, .ref (ad 57)), (1, .long d), (3, .long x6), (5, .int (nI a)), (6, .int (nI b9))] → W p l e ({ frames := 3, cells := 0, slots := 0, locals := 72 } : Room) s m ([.ref (ad 57), .long d]).toArray below meth c s.heap [] 0 0 (MQ below (vp_Sl (fun r => r = mixSeqs S d)) ([.ref (ad 57), .long d]).toArray s 0 0 (fun _ => False)) (F0 m 14 ls []) := by
          intro fuel
          induction fuel with
          | zero => intro x6 b9 hb9 hx6 hf; exact absurd hf (Nat.not_lt_zero _)
          | succ fuel ih14 =>
            intro x6 b9 hb9 hx6 hf ls hl
            refine lv_iload hx hb dX4_mixedWithSequences_14 (lv_at hl 4 rfl) ?_
            refine lv_iconst (v := nI 4) hx hb dX4_mixedWithSequences_16 (by decide) ?_
            refine kn_icmp_ge (tgt := 74) hx hb (by omega) (by omega) dX4_mixedWithSequences_17 (by decide) (fun k_2 => ?_) (fun k_2 => ?_)
            · skip
              refine lv_iinc (v := nI (a + 1)) (lv' := [(5, .int (nI (a + 1))), (0, .ref (ad 57)), (1, .long d), (3, .long x6), (6, .int (nI b9))]) hx hb dX4_mixedWithSequences_74 hl (k := 3) rfl (nI_1 a) (by decide) rfl (fun ls hl => ?_)
              refine lv_goto (tgt := 5) hx hb dX4_mixedWithSequences_77 (by decide) ?_
              exact ih5  x6 (a + 1) (by omega) (by rw [hx6, hx5, show b9 = 4 by omega]; rfl) (by omega) _ (lv_sub hl [1, 2, 3, 0] rfl)
            · skip
              refine lv_lload_n hx hb dX4_mixedWithSequences_20 rfl (lv_at hl 2 rfl) ?_
              refine lv_aload_n hx hb dX4_mixedWithSequences_21 rfl (lv_at hl 0 rfl) ?_
              refine lv_iload hx hb dX4_mixedWithSequences_22 (lv_at hl 3 rfl) ?_
              refine va_csr (va_Run.run (va_runV (As := [.int (nI a)]) (rest := [.long x6]) ⟨hx, hb, hml, hown, hts⟩ (m_X4_rowAt l dC dI ad S a (by omega)) (cwV 1 hts gX4_mixedWithSequences_X4_rowAt rfl rfl rfl hdX4_rowAt_1 ⟨Nat.le_of_ble_eq_true rfl, Nat.le_of_ble_eq_true rfl⟩) (hX.preTop 57 6 (by decide) (by decide) rfl rfl) rfl rfl hl.1 rfl (lv_room (Nat.le_of_ble_eq_true rfl)) dX4_mixedWithSequences_24 ⟨Nat.le_of_ble_eq_true rfl, Nat.le_of_ble_eq_true rfl⟩)) (fun k_ hk_ => ?_)
              rw [hk_]
              refine lv_aload_n hx hb dX4_mixedWithSequences_27 rfl (lv_at hl 0 rfl) ?_
              refine lv_iload hx hb dX4_mixedWithSequences_28 (lv_at hl 4 rfl) ?_
              refine va_csr (va_Run.run (va_runV (As := [.int (nI b9)]) (rest := [.ref (ad (3 * a)), .long x6]) ⟨hx, hb, hml, hown, hts⟩ (m_X4_orderAt l dC dI ad S b9 (by omega)) (cwV 1 hts gX4_mixedWithSequences_X4_orderAt rfl rfl rfl hdX4_orderAt_1 ⟨Nat.le_of_ble_eq_true rfl, Nat.le_of_ble_eq_true rfl⟩) (hX.preTop 57 6 (by decide) (by decide) rfl rfl) rfl rfl hl.1 rfl (lv_room (Nat.le_of_ble_eq_true rfl)) dX4_mixedWithSequences_30 ⟨Nat.le_of_ble_eq_true rfl, Nat.le_of_ble_eq_true rfl⟩)) (fun k_ hk_ => ?_)
              rw [hk_]
              refine kx_cr (v := nI (cntB (firstB (S.2.1 b9).2.2.1 (S.1 a).1) (S.1 a).2.2)) (va_runV (As := [.ref (ad (24 + 5 * b9))]) (rest := [.long x6]) ⟨hx, hb, hml, hown, hts⟩ (m_X2_lots l dC dI ad S a b9 (by omega) (by omega) (hI.1 a (by omega)) (hI.2 b9 (by omega))) (cwV 1 hts gX4_mixedWithSequences_X2_lots rfl rfl rfl hdX2_lots_1 ⟨Nat.le_of_ble_eq_true rfl, Nat.le_of_ble_eq_true rfl⟩) (hX.preRow (by omega)) rfl rfl hl.1 rfl (lv_room (Nat.le_of_ble_eq_true rfl)) dX4_mixedWithSequences_33 ⟨Nat.le_of_ble_eq_true rfl, Nat.le_of_ble_eq_true rfl⟩) (fun _ h => h) ?_
              have h1 := cntB_le (firstB (S.2.1 b9).2.2.1 (S.1 a).1) (S.1 a).2.2
              have h2 := (hI.1 a (by omega)).1
              refine kx_crl (v := mixI x6 (cntB (firstB (S.2.1 b9).2.2.1 (S.1 a).1) (S.1 a).2.2)) (va_runS (As := [.long x6, .int (nI (cntB (firstB (S.2.1 b9).2.2.1 (S.1 a).1) (S.1 a).2.2))]) (rest := []) ⟨hx, hb, hml, hown, hts⟩ (m_X4_mixed l dC dI ad S x6 (cntB (firstB (S.2.1 b9).2.2.1 (S.1 a).1) (S.1 a).2.2) (by omega)) (va_cwS 2 hts gX4_mixedWithSequences_X4_mixed rfl rfl rfl hdX4_mixed_2.2 ⟨Nat.le_of_ble_eq_true rfl, Nat.le_of_ble_eq_true rfl⟩) hX.preS rfl rfl hl.1 rfl (lv_room (Nat.le_of_ble_eq_true rfl)) dX4_mixedWithSequences_36 ⟨Nat.le_of_ble_eq_true rfl, Nat.le_of_ble_eq_true rfl⟩) (fun _ h => h) ?_
              refine lv_lstore_n (lv' := [(3, .long (mixI x6 (cntB (firstB (S.2.1 b9).2.2.1 (S.1 a).1) (S.1 a).2.2))), (0, .ref (ad 57)), (1, .long d), (5, .int (nI a)), (6, .int (nI b9))]) hx hb dX4_mixedWithSequences_39 rfl hl (by decide) rfl (fun ls hl => ?_)
              refine lv_lload_n hx hb dX4_mixedWithSequences_40 rfl (lv_at hl 0 rfl) ?_
              refine lv_aload_n hx hb dX4_mixedWithSequences_41 rfl (lv_at hl 1 rfl) ?_
              refine lv_iload hx hb dX4_mixedWithSequences_42 (lv_at hl 3 rfl) ?_
              refine va_csr (va_Run.run (va_runV (As := [.int (nI a)]) (rest := [.long (mixI x6 (cntB (firstB (S.2.1 b9).2.2.1 (S.1 a).1) (S.1 a).2.2))]) ⟨hx, hb, hml, hown, hts⟩ (m_X4_rowAt l dC dI ad S a (by omega)) (cwV 1 hts gX4_mixedWithSequences_X4_rowAt rfl rfl rfl hdX4_rowAt_1 ⟨Nat.le_of_ble_eq_true rfl, Nat.le_of_ble_eq_true rfl⟩) (hX.preTop 57 6 (by decide) (by decide) rfl rfl) rfl rfl hl.1 rfl (lv_room (Nat.le_of_ble_eq_true rfl)) dX4_mixedWithSequences_44 ⟨Nat.le_of_ble_eq_true rfl, Nat.le_of_ble_eq_true rfl⟩)) (fun k_ hk_ => ?_)
              rw [hk_]
              refine lv_aload_n hx hb dX4_mixedWithSequences_47 rfl (lv_at hl 1 rfl) ?_
              refine lv_iload hx hb dX4_mixedWithSequences_48 (lv_at hl 4 rfl) ?_
              refine va_csr (va_Run.run (va_runV (As := [.int (nI b9)]) (rest := [.ref (ad (3 * a)), .long (mixI x6 (cntB (firstB (S.2.1 b9).2.2.1 (S.1 a).1) (S.1 a).2.2))]) ⟨hx, hb, hml, hown, hts⟩ (m_X4_orderAt l dC dI ad S b9 (by omega)) (cwV 1 hts gX4_mixedWithSequences_X4_orderAt rfl rfl rfl hdX4_orderAt_1 ⟨Nat.le_of_ble_eq_true rfl, Nat.le_of_ble_eq_true rfl⟩) (hX.preTop 57 6 (by decide) (by decide) rfl rfl) rfl rfl hl.1 rfl (lv_room (Nat.le_of_ble_eq_true rfl)) dX4_mixedWithSequences_50 ⟨Nat.le_of_ble_eq_true rfl, Nat.le_of_ble_eq_true rfl⟩)) (fun k_ hk_ => ?_)
              rw [hk_]
              refine kx_cr (v := bI (seqB (S.2.1 b9).2.2.1 (S.1 a).1 (S.1 a).2.2)) (va_runV (As := [.ref (ad (24 + 5 * b9))]) (rest := [.long (mixI x6 (cntB (firstB (S.2.1 b9).2.2.1 (S.1 a).1) (S.1 a).2.2))]) ⟨hx, hb, hml, hown, hts⟩ (m_X2_isInSequenceBy l dC dI ad S a b9 (by omega) (by omega) (hI.1 a (by omega)) (hI.2 b9 (by omega))) (cwV 1 hts gX4_mixedWithSequences_X2_isInSequenceBy rfl rfl rfl hdX2_isInSequenceBy_1 ⟨Nat.le_of_ble_eq_true rfl, Nat.le_of_ble_eq_true rfl⟩) (hX.preRow (by omega)) rfl rfl hl.1 rfl (lv_room (Nat.le_of_ble_eq_true rfl)) dX4_mixedWithSequences_53 ⟨Nat.le_of_ble_eq_true rfl, Nat.le_of_ble_eq_true rfl⟩) (fun _ h => h) ?_
              refine kb_if_eq (tgt := 63) hx hb dX4_mixedWithSequences_56 (by decide) (fun k_3 => ?_) (fun k_3 => ?_)
              · skip
                have hc := k_3
                refine lv_iconst (v := nI 0) hx hb dX4_mixedWithSequences_63 (by decide) ?_
                refine kx_crl (v := mixI (mixI x6 (cntB (firstB (S.2.1 b9).2.2.1 (S.1 a).1) (S.1 a).2.2)) 0) (va_runS (As := [.long (mixI x6 (cntB (firstB (S.2.1 b9).2.2.1 (S.1 a).1) (S.1 a).2.2)), .int (nI 0)]) (rest := []) ⟨hx, hb, hml, hown, hts⟩ (m_X4_mixed l dC dI ad S (mixI x6 (cntB (firstB (S.2.1 b9).2.2.1 (S.1 a).1) (S.1 a).2.2)) 0 (by omega)) (va_cwS 2 hts gX4_mixedWithSequences_X4_mixed rfl rfl rfl hdX4_mixed_2.2 ⟨Nat.le_of_ble_eq_true rfl, Nat.le_of_ble_eq_true rfl⟩) hX.preS rfl rfl hl.1 rfl (lv_room (Nat.le_of_ble_eq_true rfl)) dX4_mixedWithSequences_64 ⟨Nat.le_of_ble_eq_true rfl, Nat.le_of_ble_eq_true rfl⟩) (fun _ h => h) ?_
                refine lv_lstore_n (lv' := [(3, .long (mixI (mixI x6 (cntB (firstB (S.2.1 b9).2.2.1 (S.1 a).1) (S.1 a).2.2)) 0)), (0, .ref (ad 57)), (1, .long d), (5, .int (nI a)), (6, .int (nI b9))]) hx hb dX4_mixedWithSequences_67 rfl hl (by decide) rfl (fun ls hl => ?_)
                refine lv_iinc (v := nI (b9 + 1)) (lv' := [(6, .int (nI (b9 + 1))), (3, .long (mixI (mixI x6 (cntB (firstB (S.2.1 b9).2.2.1 (S.1 a).1) (S.1 a).2.2)) 0)), (0, .ref (ad 57)), (1, .long d), (5, .int (nI a))]) hx hb dX4_mixedWithSequences_68 hl (k := 4) rfl (nI_1 b9) (by decide) rfl (fun ls hl => ?_)
                refine lv_goto (tgt := 14) hx hb dX4_mixedWithSequences_71 (by decide) ?_
                exact ih14  (mixI (mixI x6 (cntB (firstB (S.2.1 b9).2.2.1 (S.1 a).1) (S.1 a).2.2)) 0) (b9 + 1) (by omega) (by rw [hx6]; show _ = mixI (mixI _ _) (bN (seqB (S.2.1 b9).2.2.1 (S.1 a).1 (S.1 a).2.2)); rw [hc]; rfl) (by omega) _ (lv_sub hl [2, 3, 1, 4, 0] rfl)
              · skip
                have hc := k_3
                refine lv_iconst (v := nI 1) hx hb dX4_mixedWithSequences_59 (by decide) ?_
                refine lv_goto (tgt := 64) hx hb dX4_mixedWithSequences_60 (by decide) ?_
                refine kx_crl (v := mixI (mixI x6 (cntB (firstB (S.2.1 b9).2.2.1 (S.1 a).1) (S.1 a).2.2)) 1) (va_runS (As := [.long (mixI x6 (cntB (firstB (S.2.1 b9).2.2.1 (S.1 a).1) (S.1 a).2.2)), .int (nI 1)]) (rest := []) ⟨hx, hb, hml, hown, hts⟩ (m_X4_mixed l dC dI ad S (mixI x6 (cntB (firstB (S.2.1 b9).2.2.1 (S.1 a).1) (S.1 a).2.2)) 1 (by omega)) (va_cwS 2 hts gX4_mixedWithSequences_X4_mixed rfl rfl rfl hdX4_mixed_2.2 ⟨Nat.le_of_ble_eq_true rfl, Nat.le_of_ble_eq_true rfl⟩) hX.preS rfl rfl hl.1 rfl (lv_room (Nat.le_of_ble_eq_true rfl)) dX4_mixedWithSequences_64 ⟨Nat.le_of_ble_eq_true rfl, Nat.le_of_ble_eq_true rfl⟩) (fun _ h => h) ?_
                refine lv_lstore_n (lv' := [(3, .long (mixI (mixI x6 (cntB (firstB (S.2.1 b9).2.2.1 (S.1 a).1) (S.1 a).2.2)) 1)), (0, .ref (ad 57)), (1, .long d), (5, .int (nI a)), (6, .int (nI b9))]) hx hb dX4_mixedWithSequences_67 rfl hl (by decide) rfl (fun ls hl => ?_)
                refine lv_iinc (v := nI (b9 + 1)) (lv' := [(6, .int (nI (b9 + 1))), (3, .long (mixI (mixI x6 (cntB (firstB (S.2.1 b9).2.2.1 (S.1 a).1) (S.1 a).2.2)) 1)), (0, .ref (ad 57)), (1, .long d), (5, .int (nI a))]) hx hb dX4_mixedWithSequences_68 hl (k := 4) rfl (nI_1 b9) (by decide) rfl (fun ls hl => ?_)
                refine lv_goto (tgt := 14) hx hb dX4_mixedWithSequences_71 (by decide) ?_
                exact ih14  (mixI (mixI x6 (cntB (firstB (S.2.1 b9).2.2.1 (S.1 a).1) (S.1 a).2.2)) 1) (b9 + 1) (by omega) (by rw [hx6]; show _ = mixI (mixI _ _) (bN (seqB (S.2.1 b9).2.2.1 (S.1 a).1 (S.1 a).2.2)); rw [hc]; rfl) (by omega) _ (lv_sub hl [2, 3, 1, 4, 0] rfl)
        exact loop14 (4 + 1) x5 0 (by omega) rfl (by omega) _ (lv_sub hl [1, 2, 3, 4, 0] rfl)
  exact loop5 (3 + 1) d 0 (by omega) rfl (by omega) _ (lv_sub hl [2, 3, 1, 0] rfl)
