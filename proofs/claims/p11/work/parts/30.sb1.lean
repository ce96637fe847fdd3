/-! texts: JDK methods that touch no world -/
theorem pureS {s : State} {H : Heap} {As : List Value} : PreS s H (va_Pc As (fun _ => True)) As := ⟨fun _ _ _ _ h => ⟨h.1, trivial⟩, fun _ _ _ => ⟨rfl, trivial⟩⟩
theorem sb_dg_of {v k : Nat} (hk : 1 ≤ k ∧ k ≤ 9) (h1 : v < 10 ^ k) (h2 : k = 1 ∨ 10 ^ (k - 1) ≤ v) : sb_dg v = k := by
  obtain ⟨a, b⟩ := hk
  rcases (show k = 1 ∨ k = 2 ∨ k = 3 ∨ k = 4 ∨ k = 5 ∨ k = 6 ∨ k = 7 ∨ k = 8 ∨ k = 9 by omega) with rfl | rfl | rfl | rfl | rfl | rfl | rfl | rfl | rfl <;> simp at h1 h2 <;> unfold sb_dg <;> (repeat' split) <;> omega
theorem p10_lt {k : Nat} (hk : k ≤ 9) : 10 ^ k < 2 ^ 31 := by
  have h := Nat.pow_le_pow_right (show 0 < 10 by decide) hk
  have : 10 ^ 9 < 2 ^ 31 := by decide
  omega
theorem sz_lt {v k : Nat} (hv : v < 2 ^ 31) (hk : k ≤ 9) (h : -nI (10 ^ k) < -nI v) : v < 10 ^ k := (sb_nlt (p10_lt hk) hv).mp h
theorem sz_le {v k : Nat} (hv : v < 2 ^ 31) (hk : k ≤ 9) (h : ¬ -nI (10 ^ k) < -nI v) : 10 ^ k ≤ v := by
  rw [sb_nlt (p10_lt hk) hv] at h; omega
theorem sz_mul (k : Nat) : nI 10 * -nI (10 ^ k) = -nI (10 ^ (k + 1)) := by
  rw [Int32.mul_neg, Nat.pow_succ, Nat.mul_comm (10 ^ k) 10]
  show -(Int32.ofNat 10 * Int32.ofNat (10 ^ k)) = -(Int32.ofNat (10 * 10 ^ k))
  rw [Int32.ofNat_mul]
theorem max_nI {a b : Nat} (ha : a < 2 ^ 31) (hb : b < 2 ^ 31) : (if nI a < nI b then nI b else nI a) = nI (max a b) := by
  by_cases h : a < b
  · rw [if_pos (nI_lt h hb), Nat.max_eq_right (Nat.le_of_lt h)]
  · rw [if_neg (nI_nlt (by omega) (by omega)), Nat.max_eq_left (by omega)]
theorem sz_k9 {v k : Nat} (hv : v < 1000000000) (hk : 1 ≤ k ∧ k ≤ 9) (h : -nI v ≤ -nI (10 ^ k)) : 1 ≤ k + 1 ∧ k + 1 ≤ 9 := by
  rw [sb_nle (by omega) (p10_lt hk.2)] at h
  refine ⟨by omega, ?_⟩
  by_cases e : k = 9
  · subst e; omega
  · omega
theorem sz_le9 {v k : Nat} (hv : v < 1000000000) (hk : 1 ≤ k ∧ k ≤ 9) (h : -nI v ≤ -nI (10 ^ k)) : 10 ^ (k + 1 - 1) ≤ v := by
  rw [sb_nle (by omega) (p10_lt hk.2)] at h
  exact h
theorem sz_ret {v k : Nat} (hv : v < 1000000000) (hk : 1 ≤ k ∧ k ≤ 9) (hp : k = 1 ∨ 10 ^ (k - 1) ≤ v) (h : ¬ -nI v ≤ -nI (10 ^ k)) : nI k = nI (sb_dg v) := by
  rw [sb_nle (by omega) (p10_lt hk.2)] at h
  rw [sb_dg_of hk (by omega) hp]
set_option maxHeartbeats 4000000 in
set_option maxRecDepth 100000 in
theorem m_J6_stringSize_0f7a4 (l : Launch) (v : Nat) (hv : v < 1000000000) : Met l yJ6_stringSize_0f7a4 wsJ6_stringSize_0f7a4 ({ frames := 0, cells := 0, slots := 0, locals := 0 } : Room) (va_Pc [.int (nI v)] (fun _ => True)) (vp_Si (fun r => r = nI (sb_dg v))) 0 0 (fun _ => False) := by
  refine ofWF (cc := cJ6_stringSize_0f7a4) (maxL := 4) (ret := (some .int)) (by decide +kernel) rfl ?_
  intro p e s m args below meth c s₁ B hml hv
  obtain ⟨rfl, hPB⟩ := hv
  have hx := B.exec
  have hb := B.bytes
  have hr := B.returns
  have hts := atoms_spec (ws := wsJ6_stringSize_0f7a4) B.pre
  have hown : s.vm.findClass RJ6 = some m.cls := findClass_of_methodNamed B.named
  have hlocks := B.notSynchronized
  have hl := lv_entry ([.int (nI v)]) (n := 4) (Nat.le_of_ble_eq_true rfl)
  rw [lg_entry_eq]
  generalize (lg_sl ([.int (nI v)]) ++ List.replicate (4 - (lg_sl ([.int (nI v)])).length) Slot.unset).toArray = ls at hl ⊢
  have hl : lv_has ls 4 [(0, .int (nI v))] := hl
  show W p l e ({ frames := 0, cells := 0, slots := 0, locals := 0 } : Room) s m ([.int (nI v)]).toArray below meth c s.heap [] 0 0 (MQ below (vp_Si (fun r => r = nI (sb_dg v))) ([.int (nI v)]).toArray s 0 0 (fun _ => False)) (F0 m 0 ls [])
  refine lv_iconst (v := nI 1) hx hb dJ6_stringSize_0f7a4_0 (by decide) ?_
  refine lv_istore_n (lv' := [(1, .int (nI 1)), (0, .int (nI v))]) hx hb dJ6_stringSize_0f7a4_1 rfl hl (by decide) rfl (fun ls hl => ?_)
  refine lv_iload_n hx hb dJ6_stringSize_0f7a4_2 rfl (lv_at hl 1 rfl) ?_
  refine kn_if_lt (tgt := 11) hx hb (by omega) dJ6_stringSize_0f7a4_3 (by decide) ?_
  refine lv_iconst (v := nI 0) hx hb dJ6_stringSize_0f7a4_6 (by decide) ?_
  refine lv_istore_n (lv' := [(1, .int (nI 0)), (0, .int (nI v))]) hx hb dJ6_stringSize_0f7a4_7 rfl hl (by decide) rfl (fun ls hl => ?_)
  refine lv_iload_n hx hb dJ6_stringSize_0f7a4_8 rfl (lv_at hl 1 rfl) ?_
  refine lv_ineg hx hb dJ6_stringSize_0f7a4_9 ?_
  refine lv_istore_n (lv' := [(0, .int (-(nI v))), (1, .int (nI 0))]) hx hb dJ6_stringSize_0f7a4_10 rfl hl (by decide) rfl (fun ls hl => ?_)
  refine lv_bipush (v := -nI (10 ^ 1)) hx hb dJ6_stringSize_0f7a4_11 (by decide) ?_
  refine lv_istore_n (lv' := [(2, .int (-nI (10 ^ 1))), (0, .int (-(nI v))), (1, .int (nI 0))]) hx hb dJ6_stringSize_0f7a4_13 rfl hl (by decide) rfl (fun ls hl => ?_)
  refine lv_iconst (v := nI 1) hx hb dJ6_stringSize_0f7a4_14 (by decide) ?_
  refine lv_istore_n (lv' := [(3, .int (nI 1)), (2, .int (-nI (10 ^ 1))), (0, .int (-(nI v))), (1, .int (nI 0))]) hx hb dJ6_stringSize_0f7a4_15 rfl hl (by decide) rfl (fun ls hl => ?_)
  have loop16 : ∀ (fuel : Nat) (k : Nat) (hk : 1 ≤ k ∧ k ≤ 9) (hp : k = 1 ∨ 10 ^ (k - 1) ≤ v), 10 - k < fuel → ∀ ls : Array Slot, lv_has ls 4 [(0, .int (-nI v)), (1, .int (nI 0)), (2, .int (-nI (10 ^ k))), (3, .int (nI k))] → W p l e ({ frames := 0, cells := 0, slots := 0, locals := 0 } : Room) s m ([.int (nI v)]).toArray below meth c s.heap [] 0 0 (MQ below (vp_Si (fun r => r = nI (sb_dg v))) ([.int (nI v)]).toArray s 0 0 (fun _ => False)) (F0 m 16 ls []) := by
    intro fuel
    induction fuel with
    | zero => intro k hk hp hf; exact absurd hf (Nat.not_lt_zero _)
    | succ fuel ih16 =>
      intro k hk hp hf ls hl
      refine lv_iload_n hx hb dJ6_stringSize_0f7a4_16 rfl (lv_at hl 3 rfl) ?_
      refine lv_bipush (v := nI 10) hx hb dJ6_stringSize_0f7a4_17 (by decide) ?_
      refine kn_icmp_ge (tgt := 42) hx hb (by omega) (by omega) dJ6_stringSize_0f7a4_19 (by decide) (fun k_2 => absurd k_2 (by omega)) (fun k_2 => ?_)
      refine lv_iload_n hx hb dJ6_stringSize_0f7a4_22 rfl (lv_at hl 0 rfl) ?_
      refine lv_iload_n hx hb dJ6_stringSize_0f7a4_23 rfl (lv_at hl 2 rfl) ?_
      refine lv_icmp_le (tgt := 31) hx hb dJ6_stringSize_0f7a4_24 (by decide) (fun k_3 => ?_) (fun k_3 => ?_)
      · skip
        have h9 := k_3
        refine lv_bipush (v := nI 10) hx hb dJ6_stringSize_0f7a4_31 (by decide) ?_
        refine lv_iload_n hx hb dJ6_stringSize_0f7a4_33 rfl (lv_at hl 2 rfl) ?_
        refine lv_imul hx hb dJ6_stringSize_0f7a4_34 ?_
        rw [sz_mul k]
        refine lv_istore_n (lv' := [(2, .int (-nI (10 ^ (k + 1)))), (0, .int (-nI v)), (1, .int (nI 0)), (3, .int (nI k))]) hx hb dJ6_stringSize_0f7a4_35 rfl hl (by decide) rfl (fun ls hl => ?_)
        refine lv_iinc (v := nI (k + 1)) (lv' := [(3, .int (nI (k + 1))), (2, .int (-nI (10 ^ (k + 1)))), (0, .int (-nI v)), (1, .int (nI 0))]) hx hb dJ6_stringSize_0f7a4_36 hl (k := 3) rfl (nI_1 k) (by decide) rfl (fun ls hl => ?_)
        refine lv_goto (tgt := 16) hx hb dJ6_stringSize_0f7a4_39 (by decide) ?_
        exact ih16  (k + 1) (sz_k9 hv hk h9) (Or.inr (sz_le9 hv hk h9)) (by omega) _ (lv_sub hl [2, 3, 1, 0] rfl)
      · skip
        have h9 := k_3
        refine lv_iload_n hx hb dJ6_stringSize_0f7a4_27 rfl (lv_at hl 3 rfl) ?_
        refine lv_iload_n hx hb dJ6_stringSize_0f7a4_28 rfl (lv_at hl 1 rfl) ?_
        refine kn_iadd hx hb dJ6_stringSize_0f7a4_29 ?_
        exact W.iret (v := nI (k + 0)) hx hb hr (fun t9 ht9 hW9 => ⟨_, rfl, (sz_ret hv hk hp h9), ht9⟩) (fun _ h => nomatch h) dJ6_stringSize_0f7a4_30
  exact loop16 (10 + 1) 1 (by omega) (Or.inl rfl) (by omega) _ (lv_sub hl [2, 3, 1, 0] rfl)
set_option maxHeartbeats 4000000 in
set_option maxRecDepth 100000 in
theorem m_J1_canEncode_fc78d (l : Launch) (v : Nat) (hv : v < 256) : Met l yJ1_canEncode_fc78d wsJ1_canEncode_fc78d ({ frames := 0, cells := 0, slots := 0, locals := 0 } : Room) (va_Pc [.int (nI v)] (fun _ => True)) (vp_Si (fun r => r = bI true)) 0 0 (fun _ => False) := by
  refine ofWF (cc := cJ1_canEncode_fc78d) (maxL := 1) (ret := (some .boolean)) (by decide +kernel) rfl ?_
  intro p e s m args below meth c s₁ B hml hv
  obtain ⟨rfl, hPB⟩ := hv
  have hx := B.exec
  have hb := B.bytes
  have hr := B.returns
  have hts := atoms_spec (ws := wsJ1_canEncode_fc78d) B.pre
  have hown : s.vm.findClass RJ1 = some m.cls := findClass_of_methodNamed B.named
  have hlocks := B.notSynchronized
  have hl := lv_entry ([.int (nI v)]) (n := 1) (Nat.le_of_ble_eq_true rfl)
  rw [lg_entry_eq]
  generalize (lg_sl ([.int (nI v)]) ++ List.replicate (1 - (lg_sl ([.int (nI v)])).length) Slot.unset).toArray = ls at hl ⊢
  have hl : lv_has ls 1 [(0, .int (nI v))] := hl
  show W p l e ({ frames := 0, cells := 0, slots := 0, locals := 0 } : Room) s m ([.int (nI v)]).toArray below meth c s.heap [] 0 0 (MQ below (vp_Si (fun r => r = bI true)) ([.int (nI v)]).toArray s 0 0 (fun _ => False)) (F0 m 0 ls [])
  refine lv_iload_n hx hb dJ1_canEncode_fc78d_0 rfl (lv_at hl 0 rfl) ?_
  refine lv_sipush (v := nI 255) hx hb dJ1_canEncode_fc78d_1 (by decide) ?_
  refine kn_icmp_gt (tgt := 11) hx hb (by omega) (by omega) dJ1_canEncode_fc78d_4 (by decide) (fun k_1 => absurd k_1 (by omega)) (fun k_1 => ?_)
  refine lv_iconst (v := bI true) hx hb dJ1_canEncode_fc78d_7 (by decide) ?_
  refine lv_goto (tgt := 12) hx hb dJ1_canEncode_fc78d_8 (by decide) ?_
  exact W.zret (v := bI true) hx hb hr (bI_narrow _) (fun t9 ht9 hW9 => ⟨_, rfl, rfl, ht9⟩) (fun _ h => nomatch h) dJ1_canEncode_fc78d_12
set_option maxHeartbeats 4000000 in
set_option maxRecDepth 100000 in
theorem m_J8_newLength_cabcc (l : Launch) (a b d : Nat) (h1 : a + b < 1000000000) (h2 : a + d < 1000000000) (h3 : 0 < b) : Met l yJ8_newLength_cabcc wsJ8_newLength_cabcc ({ frames := 1, cells := 0, slots := 0, locals := 14 } : Room) (va_Pc [.int (nI a), .int (nI b), .int (nI d)] (fun _ => True)) (vp_Si (fun r => r = nI (a + max b d))) 0 0 (fun _ => False) := by
  refine ofWF (cc := cJ8_newLength_cabcc) (maxL := 4) (ret := (some .int)) (by decide +kernel) rfl ?_
  intro p e s m args below meth c s₁ B hml hv
  obtain ⟨rfl, hPB⟩ := hv
  have hx := B.exec
  have hb := B.bytes
  have hr := B.returns
  have hts := atoms_spec (ws := wsJ8_newLength_cabcc) B.pre
  have hown : s.vm.findClass RJ8 = some m.cls := findClass_of_methodNamed B.named
  have hlocks := B.notSynchronized
  have hl := lv_entry ([.int (nI a), .int (nI b), .int (nI d)]) (n := 4) (Nat.le_of_ble_eq_true rfl)
  rw [lg_entry_eq]
  generalize (lg_sl ([.int (nI a), .int (nI b), .int (nI d)]) ++ List.replicate (4 - (lg_sl ([.int (nI a), .int (nI b), .int (nI d)])).length) Slot.unset).toArray = ls at hl ⊢
  have hl : lv_has ls 4 [(0, .int (nI a)), (1, .int (nI b)), (2, .int (nI d))] := hl
  show W p l e ({ frames := 1, cells := 0, slots := 0, locals := 14 } : Room) s m ([.int (nI a), .int (nI b), .int (nI d)]).toArray below meth c s.heap [] 0 0 (MQ below (vp_Si (fun r => r = nI (a + max b d))) ([.int (nI a), .int (nI b), .int (nI d)]).toArray s 0 0 (fun _ => False)) (F0 m 0 ls [])
  refine lv_iload_n hx hb dJ8_newLength_cabcc_0 rfl (lv_at hl 0 rfl) ?_
  refine lv_iload_n hx hb dJ8_newLength_cabcc_1 rfl (lv_at hl 1 rfl) ?_
  refine lv_iload_n hx hb dJ8_newLength_cabcc_2 rfl (lv_at hl 2 rfl) ?_
  refine va_mmax hx hb (by rw [hml]; exact hl.1.symm) hown (hts (.methodLink RJ8 194 Lib.Math.max.name) (tm 229 (by decide +kernel) rfl)) (hts (.static Lib.Math.max.name) (tm 230 (by decide +kernel) rfl)) (hts (.initialized "java/lang/Math") (tm 152 (by decide +kernel) rfl)) (hts (.code Lib.Math.max.name Lib.Math.max.code 2 (some .int)) (tm 231 (by decide +kernel) rfl)) (Nat.le_of_ble_eq_true rfl) (Nat.le_of_ble_eq_true rfl) (Nat.le_of_ble_eq_true rfl) (Nat.le_of_ble_eq_true rfl) dJ8_newLength_cabcc_3 ?_
  rw [max_nI (a := b) (b := d) (by omega) (by omega)]
  refine kn_iadd hx hb dJ8_newLength_cabcc_6 ?_
  refine lv_istore_n (lv' := [(3, .int (nI (a + (max b d)))), (0, .int (nI a)), (1, .int (nI b)), (2, .int (nI d))]) hx hb dJ8_newLength_cabcc_7 rfl hl (by decide) rfl (fun ls hl => ?_)
  refine lv_iconst (v := nI 0) hx hb dJ8_newLength_cabcc_8 (by decide) ?_
  refine lv_iload_n hx hb dJ8_newLength_cabcc_9 rfl (lv_at hl 0 rfl) ?_
  refine kn_icmp_ge (tgt := 21) hx hb (by omega) (by omega) dJ8_newLength_cabcc_10 (by decide) (fun k_1 => absurd k_1 (by omega)) (fun k_1 => ?_)
  refine lv_iload_n hx hb dJ8_newLength_cabcc_13 rfl (lv_at hl 0 rfl) ?_
  refine lv_ldc (v := nI 2147483639) hx hb hown (hts (.constant RJ8 200 2147483639) (tm 232 (by decide +kernel) rfl)) dJ8_newLength_cabcc_14 ?_
  refine kn_icmp_gt (tgt := 21) hx hb (by omega) (by omega) dJ8_newLength_cabcc_16 (by decide) (fun k_2 => absurd k_2 (by omega)) (fun k_2 => ?_)
  refine lv_iload_n hx hb dJ8_newLength_cabcc_19 rfl (lv_at hl 0 rfl) ?_
  exact W.iret (v := nI (a + (max b d))) hx hb hr (fun t9 ht9 hW9 => ⟨_, rfl, rfl, ht9⟩) (fun _ h => nomatch h) dJ8_newLength_cabcc_20
set_option maxHeartbeats 4000000 in
set_option maxRecDepth 100000 in
theorem m_J7_checkLength_df160 (l : Launch) (a b : Nat) (h1 : a ≤ b) (h2 : b < 1000000000) : Met l yJ7_checkLength_df160 wsJ7_checkLength_df160 ({ frames := 0, cells := 0, slots := 0, locals := 0 } : Room) (va_Pc [.int (nI a), .int (nI b)] (fun _ => True)) (va_Sv (fun _ => True)) 0 0 (fun _ => False) := by
  refine ofWF (cc := cJ7_checkLength_df160) (maxL := 2) (ret := none) (by decide +kernel) rfl ?_
  intro p e s m args below meth c s₁ B hml hv
  obtain ⟨rfl, hPB⟩ := hv
  have hx := B.exec
  have hb := B.bytes
  have hr := B.returns
  have hts := atoms_spec (ws := wsJ7_checkLength_df160) B.pre
  have hown : s.vm.findClass RJ7 = some m.cls := findClass_of_methodNamed B.named
  have hlocks := B.notSynchronized
  have hl := lv_entry ([.int (nI a), .int (nI b)]) (n := 2) (Nat.le_of_ble_eq_true rfl)
  rw [lg_entry_eq]
  generalize (lg_sl ([.int (nI a), .int (nI b)]) ++ List.replicate (2 - (lg_sl ([.int (nI a), .int (nI b)])).length) Slot.unset).toArray = ls at hl ⊢
  have hl : lv_has ls 2 [(0, .int (nI a)), (1, .int (nI b))] := hl
  show W p l e ({ frames := 0, cells := 0, slots := 0, locals := 0 } : Room) s m ([.int (nI a), .int (nI b)]).toArray below meth c s.heap [] 0 0 (MQ below (va_Sv (fun _ => True)) ([.int (nI a), .int (nI b)]).toArray s 0 0 (fun _ => False)) (F0 m 0 ls [])
  refine lv_iload_n hx hb dJ7_checkLength_df160_0 rfl (lv_at hl 1 rfl) ?_
  refine lv_iload_n hx hb dJ7_checkLength_df160_1 rfl (lv_at hl 0 rfl) ?_
  refine kn_icmp_ge (tgt := 37) hx hb (by omega) (by omega) dJ7_checkLength_df160_2 (by decide) (fun k_1 => ?_) (fun k_1 => absurd k_1 (by omega))
  exact W.vret hx hb hr (fun t9 ht9 hW9 => ⟨rfl, trivial, ht9⟩) (fun _ h => nomatch h) dJ7_checkLength_df160_37
