/-! sorters: what they bring about -/
theorem rank_lt {c : Nat → Nat} {v u : Nat} (hv : v < 16) (h : c v < c u) : rankC c v < rankC c u := by
  obtain ⟨k, h1, h2, h3⟩ := head_ex c 16 v hv
  refine cntB_lt (a := k) (fun x _ hx => ?_) (by omega) ?_ ?_
  · rw [Bool.and_eq_true] at hx ⊢
    exact ⟨hx.1, decide_eq_true (Nat.lt_trans (of_decide_eq_true hx.2) h)⟩
  · show (headB c k && decide (c k < c v)) = false
    rw [decide_eq_false (by omega), Bool.and_false]
  · show (headB c k && decide (c k < c u)) = true
    rw [h3, decide_eq_true (by omega)]
    rfl
theorem rank_iff {c : Nat → Nat} {v u : Nat} (hv : v < 16) (hu : u < 16) : c v < c u ↔ rankC c v < rankC c u := by
  refine ⟨rank_lt hv, fun h => ?_⟩
  rcases Nat.lt_trichotomy (c v) (c u) with e | e | e
  · exact e
  · have : rankC c v = rankC c u := by unfold rankC; rw [e]
    omega
  · have := rank_lt (c := c) hu e
    omega
theorem ord_iff {o : OrdS} (h : ordOK o) {v u : Nat} (hv : v < 16) (hu : u < 16) : o.2.2.1 v < o.2.2.1 u ↔ o.2.2.2.1 v < o.2.2.2.1 u := by
  rw [h.2.1 v hv, h.2.1 u hu, h.2.2.1 v hv, h.2.2.1 u hu]
  exact rank_iff hv hu
theorem SP.swapD {c : Nat → Nat} {p q : PQ} {f e a : Nat} (h : SP c p q f e) (h1 : f + 1 ≤ a) (h2 : a < e) (hc : c (q.1 a) < c (q.1 (a - 1))) : SP c p (xch q.1 a (a - 1), xch q.2 a (a - 1)) f e := by
  have e1 : a - 1 + 1 = a := by omega
  have := h.swap (k := a - 1) (by omega) (by omega) (by rw [e1]; exact hc)
  rw [e1] at this
  rw [xch_com q.1, xch_com q.2]
  exact this
theorem srt_lo {c V : Nat → Nat} {f : Nat} : srt c V f (f + 1) := fun x y h1 h2 h3 => by omega
theorem srt_le {c V : Nat → Nat} {f e e2 : Nat} (h : srt c V f e) (he : e2 ≤ e) : srt c V f e2 := fun x y h1 h2 h3 => h x y h1 h2 (by omega)
def MDone (c : Nat → Nat) (p g0 g : PQ) (lo hi : Nat) : Prop := (∀ x, x < lo → g.1 x = g0.1 x ∧ g.2 x = g0.2 x) ∧ (∀ t, kf c t (sg g.1 g.2 lo (hi - lo)) = kf c t (sg p.1 p.2 lo (hi - lo))) ∧ srt c g.1 lo hi
theorem mr_runs {c V : Nat → Nat} {N w lo j9 : Nat} (h : blk c V N w) (hlo : lo = 2 * w * j9) (hlN : lo ≤ N) : srt c V lo (min (lo + w) N) ∧ srt c V (min (lo + w) N) (min (min (lo + w) N + w) N) := by
  have e1 : lo = w * (2 * j9) := by rw [hlo, Nat.mul_comm 2 w, Nat.mul_assoc]
  refine ⟨blk_run (j := 2 * j9) h e1 (by omega) (by omega), ?_⟩
  by_cases hh : lo + w ≤ N
  · have e2 : min (lo + w) N = w * (2 * j9 + 1) := by
      rw [Nat.min_eq_left hh, Nat.mul_add, Nat.mul_one, ← e1]
    exact blk_run (j := 2 * j9 + 1) h e2 (by omega) (by omega)
  · intro x y h1 h2 h3
    omega
theorem mr_step {S S1 : XS} {i j g lo w9 N : Nat} {r r2 : RowS} (hc : S1.2 = S.2) (hig : i ≠ g) (hg : (∃ j9, lo = 2 * w9 * j9) ∧ GT (S.2.1 j).2.2.1 ((S1.1 i).1, (S1.1 i).2.1) (r.1, r.2.1) w9 (min lo N)) (hlo : lo < N)
    (hm : MDone ((xR S1 g (r.1, r.2.1, r.2.2)).2.1 j).2.2.1 (((xR S1 g (r.1, r.2.1, r.2.2)).1 i).1, ((xR S1 g (r.1, r.2.1, r.2.2)).1 i).2.1) (((xR S1 g (r.1, r.2.1, r.2.2)).1 g).1, ((xR S1 g (r.1, r.2.1, r.2.2)).1 g).2.1) (r2.1, r2.2.1) lo (min (min (lo + w9) N + w9) N)) :
    (∃ j9, lo + 2 * w9 = 2 * w9 * j9) ∧ GT (S.2.1 j).2.2.1 ((S1.1 i).1, (S1.1 i).2.1) (r2.1, r2.2.1) w9 (min (lo + 2 * w9) N) := by
  obtain ⟨⟨j9, hj⟩, hG⟩ := hg
  rw [xR_row, xR_ne _ _ hig] at hm
  have hm : MDone (S1.2.1 j).2.2.1 ((S1.1 i).1, (S1.1 i).2.1) (r.1, r.2.1) (r2.1, r2.2.1) lo (min (min (lo + w9) N + w9) N) := hm
  rw [hc] at hm
  obtain ⟨m1, m2, m3⟩ := hm
  refine ⟨⟨j9 + 1, by rw [Nat.mul_add, Nat.mul_one, ← hj]⟩, ?_⟩
  rw [Nat.min_eq_left (show lo ≤ N by omega)] at hG
  rw [show min (lo + 2 * w9) N = min (min (lo + w9) N + w9) N by omega]
  exact GT.more hG hj (by omega) (by omega) m1 m2 m3
theorem mr_next {c : Nat → Nat} {p cur : PQ} {S2 : XS} {i g N w : Nat} (h : SP c p cur 0 N) (hg : GT c cur ((S2.1 g).1, (S2.1 g).2.1) w N) (hn : (S2.1 g).2.2 = N) (ho : ((S2.1 i).1, (S2.1 i).2.1) = cur) : SP c p (((xR S2 i (ovl (S2.1 g).1 (S2.1 i).1 (S2.1 g).2.2, ovl (S2.1 g).2.1 (S2.1 i).2.1 (S2.1 g).2.2, (S2.1 g).2.2)).1 i).1, ((xR S2 i (ovl (S2.1 g).1 (S2.1 i).1 (S2.1 g).2.2, ovl (S2.1 g).2.1 (S2.1 i).2.1 (S2.1 g).2.2, (S2.1 g).2.2)).1 i).2.1) 0 N ∧ blk c ((xR S2 i (ovl (S2.1 g).1 (S2.1 i).1 (S2.1 g).2.2, ovl (S2.1 g).2.1 (S2.1 i).2.1 (S2.1 g).2.2, (S2.1 g).2.2)).1 i).1 N (w * 2) := by
  subst ho
  rw [xR_row, hn]
  refine ⟨h.trans ⟨fun x hx => ?_, fun t => ?_⟩, fun x y h1 h2 h3 => ?_⟩
  · show ovl (S2.1 g).1 (S2.1 i).1 N x = (S2.1 i).1 x ∧ ovl (S2.1 g).2.1 (S2.1 i).2.1 N x = (S2.1 i).2.1 x
    rw [ovl_out (by omega), ovl_out (by omega)]
    exact ⟨rfl, rfl⟩
  · show kf c t (sg (ovl (S2.1 g).1 (S2.1 i).1 N) (ovl (S2.1 g).2.1 (S2.1 i).2.1 N) 0 (N - 0)) = _
    rw [Nat.sub_zero, sg_cong (V2 := (S2.1 g).1) (K2 := (S2.1 g).2.1) (fun x _ hx => ⟨ovl_in (by omega), ovl_in (by omega)⟩)]
    exact hg.1 t
  · show c (ovl (S2.1 g).1 (S2.1 i).1 N x) ≤ c (ovl (S2.1 g).1 (S2.1 i).1 N y)
    rw [ovl_in (by omega), ovl_in h2]
    exact hg.2 x y h1 h2 (by rw [Nat.mul_comm 2 w]; exact h3)
/-- gathered by ranks, laid over the row -/
theorem gr_done {S2 : XS} {o : OrdS} {V K : Nat → Nat} {i g N : Nat} (ho : ordOK o) (hV : ∀ x, x < N → V x < 16) (hl : sg (S2.1 g).1 (S2.1 g).2.1 0 N = gtr o.2.2.2.1 (sg V K 0 N) o.2.2.2.2.2) (hn : (S2.1 g).2.2 = N) (hi : ((S2.1 i).1, (S2.1 i).2.1) = (V, K)) : SP o.2.2.1 (V, K) (((xR S2 i (ovl (S2.1 g).1 (S2.1 i).1 (S2.1 g).2.2, ovl (S2.1 g).2.1 (S2.1 i).2.1 (S2.1 g).2.2, (S2.1 g).2.2)).1 i).1, ((xR S2 i (ovl (S2.1 g).1 (S2.1 i).1 (S2.1 g).2.2, ovl (S2.1 g).2.1 (S2.1 i).2.1 (S2.1 g).2.2, (S2.1 g).2.2)).1 i).2.1) 0 N ∧ srt o.2.2.1 ((xR S2 i (ovl (S2.1 g).1 (S2.1 i).1 (S2.1 g).2.2, ovl (S2.1 g).2.1 (S2.1 i).2.1 (S2.1 g).2.2, (S2.1 g).2.2)).1 i).1 0 N := by
  have e1 : (S2.1 i).1 = V := congrArg Prod.fst hi
  have e2 : (S2.1 i).2.1 = K := congrArg Prod.snd hi
  rw [xR_row, hn, e1, e2]
  have hsg : sg (ovl (S2.1 g).1 V N) (ovl (S2.1 g).2.1 K N) 0 N = gtr o.2.2.2.1 (sg V K 0 N) o.2.2.2.2.2 := by
    rw [← hl]
    exact sg_cong (fun x _ hx => ⟨ovl_in (by omega), ovl_in (by omega)⟩)
  have hrl : ∀ v, v < 16 → o.2.2.2.1 v < o.2.2.2.2.2 := fun v hv => by rw [ho.2.2.2, ho.2.2.1 v hv]; exact rank_class _ hv
  have hmem : ∀ z, z ∈ gtr o.2.2.2.1 (sg V K 0 N) o.2.2.2.2.2 → z.1 < 16 := by
    have gen : ∀ k, ∀ z, z ∈ gtr o.2.2.2.1 (sg V K 0 N) k → z.1 < 16 := fun k => by
      induction k with
      | zero => intro z hz; exact absurd hz List.not_mem_nil
      | succ k ih =>
        intro z hz
        rw [gtr] at hz
        rcases List.mem_append.mp hz with hz | hz
        · exact ih z hz
        · obtain ⟨x, _, h2, rfl⟩ := sg_mem (kf_mem.mp hz).1
          exact hV x (by omega)
    exact gen _
  refine key_iff (p := (V, K)) (q := (ovl (S2.1 g).1 V N, ovl (S2.1 g).2.1 K N)) (r := o.2.2.2.1) (fun v u hv hu => ord_iff ho hv hu) hV (fun x hx => ?_) (fun x hx => ⟨ovl_out hx, ovl_out hx⟩) (fun t => ?_) ?_
  · have h9 := sg_get (V := ovl (S2.1 g).1 V N) (K := ovl (S2.1 g).2.1 K N) (f := 0) hx
    rw [hsg] at h9
    have := hmem _ (List.mem_of_getElem? h9)
    rw [Nat.zero_add] at this
    exact this
  · rw [hsg, gtr_kf]
    by_cases ht : t < o.2.2.2.2.2
    · rw [if_pos ht]
    · rw [if_neg ht]
      refine (kf_none (fun z hz w => ?_)).symm
      obtain ⟨x, _, h2, rfl⟩ := sg_mem hz
      have := hrl _ (hV x (by omega))
      have w2 : o.2.2.2.1 (V x) = t := w
      omega
  · have h9 := (gtr_pw (r := o.2.2.2.1) (l := sg V K 0 N) (k := o.2.2.2.2.2)).1
    rw [← hsg] at h9
    have h8 := srt_of h9
    rw [Nat.zero_add] at h8
    exact h8
set_option maxHeartbeats 4000000 in
set_option maxRecDepth 100000 in
theorem s_X3_insertEach (l : Launch) (dC : Nat → ClassId) (dI : Nat → Nat → Nat) (ad : Nat → Nat) (S : XS) (w i j f t9 : Nat) (hw : w < 2) (hi : i < 8) (hj : j < 6) (hro : rowOK (S.1 i)) (ho : ordOK (S.2.1 j)) (hf : f ≤ t9) (ht9 : t9 ≤ (S.1 i).2.2) : Met l yX3_insertEach wsX3_insertEach ({ frames := 2, cells := 0, slots := 0, locals := 47 } : Room) (va_Pc [.ref (ad (54 + w)), .ref (ad (3 * i)), .ref (ad (24 + 5 * j)), .int (nI f), .int (nI t9)] (PX dC dI ad S)) (va_Qv (fun S' => ∃ r' : RowS, S' = xR S i r' ∧ rowOK r' ∧ r'.2.2 = (S.1 i).2.2 ∧ SP (S.2.1 j).2.2.1 ((S.1 i).1, (S.1 i).2.1) (r'.1, r'.2.1) f t9 ∧ srt (S.2.1 j).2.2.1 r'.1 f t9) (PX dC dI ad) (AX ad)) 0 0 (AX ad) := by
  refine Met.ofW (cc := cX3_insertEach) (maxL := 7) (ret := none) pl_X3 rfl ?_
  intro p e s m args below meth c s₁ B hml hv
  obtain ⟨rfl, hPX⟩ := hv
  have hx := B.exec
  have hb := B.bytes
  have hr := B.returns
  have hts := atoms_spec (ws := wsX3_insertEach) B.pre
  have hown : s.vm.findClass RX3 = some m.cls := findClass_of_methodNamed B.named
  have hlocks := B.notSynchronized
  have hX := WX.of hPX
  have hl := lv_entry ([.ref (ad (54 + w)), .ref (ad (3 * i)), .ref (ad (24 + 5 * j)), .int (nI f), .int (nI t9)]) (n := 7) (Nat.le_of_ble_eq_true rfl)
  rw [lg_entry_eq]
  generalize (lg_sl ([.ref (ad (54 + w)), .ref (ad (3 * i)), .ref (ad (24 + 5 * j)), .int (nI f), .int (nI t9)]) ++ List.replicate (7 - (lg_sl ([.ref (ad (54 + w)), .ref (ad (3 * i)), .ref (ad (24 + 5 * j)), .int (nI f), .int (nI t9)])).length) Slot.unset).toArray = ls at hl ⊢
  have hl : lv_has ls 7 [(0, .ref (ad (54 + w))), (1, .ref (ad (3 * i))), (2, .ref (ad (24 + 5 * j))), (3, .int (nI f)), (4, .int (nI t9))] := hl
  show W p l e ({ frames := 2, cells := 0, slots := 0, locals := 47 } : Room) s m ([.ref (ad (54 + w)), .ref (ad (3 * i)), .ref (ad (24 + 5 * j)), .int (nI f), .int (nI t9)]).toArray below meth c s.heap [] 0 0 (MQ below (va_Qv (fun S' => ∃ r' : RowS, S' = xR S i r' ∧ rowOK r' ∧ r'.2.2 = (S.1 i).2.2 ∧ SP (S.2.1 j).2.2.1 ((S.1 i).1, (S.1 i).2.1) (r'.1, r'.2.1) f t9 ∧ srt (S.2.1 j).2.2.1 r'.1 f t9) (PX dC dI ad) (AX ad)) ([.ref (ad (54 + w)), .ref (ad (3 * i)), .ref (ad (24 + 5 * j)), .int (nI f), .int (nI t9)]).toArray s 0 0 (AX ad)) (F0 m 0 ls [])
  have hn := hro.1
  refine lv_iload_n hx hb dX3_insertEach_0 rfl (lv_at hl 3 rfl) ?_
  refine lv_iconst (v := nI 1) hx hb dX3_insertEach_1 (by decide) ?_
  refine kn_iadd hx hb dX3_insertEach_2 ?_
  refine lv_istore (lv' := [(5, .int (nI (f + 1))), (0, .ref (ad (54 + w))), (1, .ref (ad (3 * i))), (2, .ref (ad (24 + 5 * j))), (3, .int (nI f)), (4, .int (nI t9))]) hx hb dX3_insertEach_3 hl (by decide) rfl (fun ls hl => ?_)
  have loop5 : ∀ (fuel : Nat) (r : RowS) (nx : Nat) (hr9 : rowOK r ∧ r.2.2 = (S.1 i).2.2) (hnx : f + 1 ≤ nx ∧ nx ≤ 17) (hs9 : SP (S.2.1 j).2.2.1 ((S.1 i).1, (S.1 i).2.1) (r.1, r.2.1) f t9 ∧ srt (S.2.1 j).2.2.1 r.1 f nx) (H : Heap) (locs : List Loc), 18 - nx < fuel → WX dC dI ad (xR S i (r.1, r.2.1, r.2.2)) (AX ad) s H locs → ∀ ls : Array Slot, lv_has ls 7 [(0, .ref (ad (54 + w))), (1, .ref (ad (3 * i))), (2, .ref (ad (24 + 5 * j))), (3, .int (nI f)), (4, .int (nI t9)), (5, .int (nI nx))] → W p l e ({ frames := 2, cells := 0, slots := 0, locals := 47 } : Room) s m ([.ref (ad (54 + w)), .ref (ad (3 * i)), .ref (ad (24 + 5 * j)), .int (nI f), .int (nI t9)]).toArray below meth c H locs 0 0 (MQ below (va_Qv (fun S' => ∃ r' : RowS, S' = xR S i r' ∧ rowOK r' ∧ r'.2.2 = (S.1 i).2.2 ∧ SP (S.2.1 j).2.2.1 ((S.1 i).1, (S.1 i).2.1) (r'.1, r'.2.1) f t9 ∧ srt (S.2.1 j).2.2.1 r'.1 f t9) (PX dC dI ad) (AX ad)) ([.ref (ad (54 + w)), .ref (ad (3 * i)), .ref (ad (24 + 5 * j)), .int (nI f), .int (nI t9)]).toArray s 0 0 (AX ad)) (F0 m 5 ls []) := by
    intro fuel
    induction fuel with
    | zero => intro r nx hr9 hnx hs9 H locs hf; exact absurd hf (Nat.not_lt_zero _)
    | succ fuel ih5 =>
      intro r nx hr9 hnx hs9 H locs hf hX ls hl
      refine lv_iload hx hb dX3_insertEach_5 (lv_at hl 5 rfl) ?_
      refine lv_iload hx hb dX3_insertEach_7 (lv_at hl 4 rfl) ?_
      refine kn_icmp_ge (tgt := 65) hx hb (by omega) (by omega) dX3_insertEach_9 (by decide) (fun k_1 => ?_) (fun k_1 => ?_)
      · skip
        exact W.vret hx hb hr (fun t9 ht9 hW9 => ⟨⟨(xR S i (r.1, r.2.1, r.2.2)), rfl, ⟨r, rfl, hr9.1, hr9.2, hs9.1, srt_le hs9.2 (by omega)⟩, hX.P ht9 hW9⟩, hX.2.2.2.F ht9⟩) hX.2.2.2.2.2 dX3_insertEach_65
      · skip
        refine lv_iload hx hb dX3_insertEach_12 (lv_at hl 5 rfl) ?_
        refine lv_istore (lv' := [(6, .int (nI nx)), (0, .ref (ad (54 + w))), (1, .ref (ad (3 * i))), (2, .ref (ad (24 + 5 * j))), (3, .int (nI f)), (4, .int (nI t9)), (5, .int (nI nx))]) hx hb dX3_insertEach_14 hl (by decide) rfl (fun ls hl => ?_)
        have loop16 : ∀ (fuel : Nat) (r : RowS) (a : Nat) (hr9 : rowOK r ∧ r.2.2 = (S.1 i).2.2) (ha : f ≤ a ∧ a ≤ nx) (hb9 : SP (S.2.1 j).2.2.1 ((S.1 i).1, (S.1 i).2.1) (r.1, r.2.1) f t9 ∧ srtB (S.2.1 j).2.2.1 r.1 f nx a) (H : Heap) (locs : List Loc), a < fuel → WX dC dI ad (xR S i (r.1, r.2.1, r.2.2)) (AX ad) s H locs → ∀ ls : Array Slot, lv_has ls 7 [(0, .ref (ad (54 + w))), (1, .ref (ad (3 * i))), (2, .ref (ad (24 + 5 * j))), (3, .int (nI f)), (4, .int (nI t9)), (5, .int (nI nx)), (6, .int (nI a))] → W p l e ({ frames := 2, cells := 0, slots := 0, locals := 47 } : Room) s m ([.ref (ad (54 + w)), .ref (ad (3 * i)), .ref (ad (24 + 5 * j)), .int (nI f), .int (nI t9)]).toArray below meth c H locs 0 0 (MQ below (va_Qv (fun S' => ∃ r' : RowS, S' = xR S i r' ∧ rowOK r' ∧ r'.2.2 = (S.1 i).2.2 ∧ SP (S.2.1 j).2.2.1 ((S.1 i).1, (S.1 i).2.1) (r'.1, r'.2.1) f t9 ∧ srt (S.2.1 j).2.2.1 r'.1 f t9) (PX dC dI ad) (AX ad)) ([.ref (ad (54 + w)), .ref (ad (3 * i)), .ref (ad (24 + 5 * j)), .int (nI f), .int (nI t9)]).toArray s 0 0 (AX ad)) (F0 m 16 ls []) := by
          intro fuel
          induction fuel with
          | zero => intro r a hr9 ha hb9 H locs hf; exact absurd hf (Nat.not_lt_zero _)
          | succ fuel ih16 =>
            intro r a hr9 ha hb9 H locs hf hX ls hl
            refine lv_iload hx hb dX3_insertEach_16 (lv_at hl 6 rfl) ?_
            refine lv_iload_n hx hb dX3_insertEach_18 rfl (lv_at hl 3 rfl) ?_
            refine kn_icmp_le (tgt := 59) hx hb (by omega) (by omega) dX3_insertEach_19 (by decide) (fun k_2 => ?_) (fun k_2 => ?_)
            · skip
              refine lv_iinc (v := nI (nx + 1)) (lv' := [(5, .int (nI (nx + 1))), (0, .ref (ad (54 + w))), (1, .ref (ad (3 * i))), (2, .ref (ad (24 + 5 * j))), (3, .int (nI f)), (4, .int (nI t9)), (6, .int (nI a))]) hx hb dX3_insertEach_59 hl (k := 5) rfl (nI_1 nx) (by decide) rfl (fun ls hl => ?_)
              refine lv_goto (tgt := 5) hx hb dX3_insertEach_62 (by decide) ?_
              exact ih5  r (nx + 1) hr9 (by omega) ⟨hb9.1, hb9.2.done (Or.inl (by omega)) (by omega)⟩ _ _ (by omega) hX _ (lv_sub hl [1, 2, 3, 4, 5, 0] rfl)
            · skip
              refine lv_aload_n hx hb dX3_insertEach_22 rfl (lv_at hl 2 rfl) ?_
              refine lv_aload_n hx hb dX3_insertEach_23 rfl (lv_at hl 1 rfl) ?_
              refine lv_iload hx hb dX3_insertEach_24 (lv_at hl 6 rfl) ?_
              refine kx_cr (v := nI (r.1 a)) (va_runV (As := [.int (nI a)]) (rest := [.ref (ad (24 + 5 * j))]) ⟨hx, hb, hml, hown, hts⟩ (m_X2_valueOn l dC dI ad (xR S i (r.1, r.2.1, r.2.2)) i a hi (by omega)) (cwV 1 hts gX3_insertEach_X2_valueOn rfl rfl rfl hdX2_valueOn_1 ⟨Nat.le_of_ble_eq_true rfl, Nat.le_of_ble_eq_true rfl⟩) (hX.preRow hi) rfl rfl hl.1 rfl (lv_room (Nat.le_of_ble_eq_true rfl)) dX3_insertEach_26 ⟨Nat.le_of_ble_eq_true rfl, Nat.le_of_ble_eq_true rfl⟩) (fun _ h => by rw [h, xR_row]) ?_
              refine lv_aload_n hx hb dX3_insertEach_29 rfl (lv_at hl 1 rfl) ?_
              refine lv_iload hx hb dX3_insertEach_30 (lv_at hl 6 rfl) ?_
              refine lv_iconst (v := nI 1) hx hb dX3_insertEach_32 (by decide) ?_
              refine kn_isub hx hb (by omega) dX3_insertEach_33 ?_
              refine kx_cr (v := nI (r.1 (a - 1))) (va_runV (As := [.int (nI (a - 1))]) (rest := [.int (nI (r.1 a)), .ref (ad (24 + 5 * j))]) ⟨hx, hb, hml, hown, hts⟩ (m_X2_valueOn l dC dI ad (xR S i (r.1, r.2.1, r.2.2)) i (a - 1) hi (by omega)) (cwV 1 hts gX3_insertEach_X2_valueOn rfl rfl rfl hdX2_valueOn_1 ⟨Nat.le_of_ble_eq_true rfl, Nat.le_of_ble_eq_true rfl⟩) (hX.preRow hi) rfl rfl hl.1 rfl (lv_room (Nat.le_of_ble_eq_true rfl)) dX3_insertEach_34 ⟨Nat.le_of_ble_eq_true rfl, Nat.le_of_ble_eq_true rfl⟩) (fun _ h => by rw [h, xR_row]) ?_
              refine kx_cr (v := cmpI (((S.2.1 j).2.2.1) (r.1 a)) (((S.2.1 j).2.2.1) (r.1 (a - 1)))) (va_runV (As := [.int (nI (r.1 a)), .int (nI (r.1 (a - 1)))]) (rest := []) ⟨hx, hb, hml, hown, hts⟩ (m_X1_compared l dC dI ad (xR S i (r.1, r.2.1, r.2.2)) j (r.1 a) (r.1 (a - 1)) hj ho (hr9.1.2 _ (by omega)).1 (hr9.1.2 _ (by omega)).1) (cwV 2 hts gX3_insertEach_X1_compared rfl rfl rfl hdX1_compared_2 ⟨Nat.le_of_ble_eq_true rfl, Nat.le_of_ble_eq_true rfl⟩) (hX.preOrd hj) rfl rfl hl.1 rfl (lv_room (Nat.le_of_ble_eq_true rfl)) dX3_insertEach_37 ⟨Nat.le_of_ble_eq_true rfl, Nat.le_of_ble_eq_true rfl⟩) (fun _ h => h) ?_
              refine kc_if_ge (tgt := 59) hx hb dX3_insertEach_40 (by decide) (fun k_3 => ?_) (fun k_3 => ?_)
              · skip
                refine lv_iinc (v := nI (nx + 1)) (lv' := [(5, .int (nI (nx + 1))), (0, .ref (ad (54 + w))), (1, .ref (ad (3 * i))), (2, .ref (ad (24 + 5 * j))), (3, .int (nI f)), (4, .int (nI t9)), (6, .int (nI a))]) hx hb dX3_insertEach_59 hl (k := 5) rfl (nI_1 nx) (by decide) rfl (fun ls hl => ?_)
                refine lv_goto (tgt := 5) hx hb dX3_insertEach_62 (by decide) ?_
                exact ih5  r (nx + 1) hr9 (by omega) ⟨hb9.1, hb9.2.done (Or.inr k_3) (by omega)⟩ _ _ (by omega) hX _ (lv_sub hl [1, 2, 3, 4, 5, 0] rfl)
              · skip
                refine lv_aload_n hx hb dX3_insertEach_43 rfl (lv_at hl 1 rfl) ?_
                refine lv_iload hx hb dX3_insertEach_44 (lv_at hl 6 rfl) ?_
                refine lv_iload hx hb dX3_insertEach_46 (lv_at hl 6 rfl) ?_
                refine lv_iconst (v := nI 1) hx hb dX3_insertEach_48 (by decide) ?_
                refine kn_isub hx hb (by omega) dX3_insertEach_49 ?_
                refine kx_cv (va_runV (As := [.int (nI a), .int (nI (a - 1))]) (rest := []) ⟨hx, hb, hml, hown, hts⟩ (m_X2_exchange l dC dI ad (xR S i (r.1, r.2.1, r.2.2)) i a (a - 1) hi (by omega) (by omega)) (cwV 2 hts gX3_insertEach_X2_exchange rfl rfl rfl hdX2_exchange_2 ⟨Nat.le_of_ble_eq_true rfl, Nat.le_of_ble_eq_true rfl⟩) (hX.preRow hi) rfl rfl hl.1 rfl (lv_room (Nat.le_of_ble_eq_true rfl)) dX3_insertEach_50 ⟨Nat.le_of_ble_eq_true rfl, Nat.le_of_ble_eq_true rfl⟩) hX (fun _ h => h) (fun S_ H locs hw hX => ?_)
                rw [xR_row, xR_xR] at hw
                subst hw
                refine lv_iinc (v := nI (a - 1)) (lv' := [(6, .int (nI (a - 1))), (0, .ref (ad (54 + w))), (1, .ref (ad (3 * i))), (2, .ref (ad (24 + 5 * j))), (3, .int (nI f)), (4, .int (nI t9)), (5, .int (nI nx))]) hx hb dX3_insertEach_53 hl (k := 6) rfl (kn_dec (by omega)) (by decide) rfl (fun ls hl => ?_)
                refine lv_goto (tgt := 16) hx hb dX3_insertEach_56 (by decide) ?_
                exact ih16  (xch r.1 a (a - 1), xch r.2.1 a (a - 1), r.2.2) (a - 1) ⟨rowOK_xch hr9.1 (by omega) (by omega), hr9.2⟩ (by omega) ⟨SP.swapD hb9.1 (by omega) (by omega) k_3, hb9.2.swap (by omega) (by omega) k_3⟩ _ _ (by omega) hX _ (lv_sub hl [1, 2, 3, 4, 5, 6, 0] rfl)
        exact loop16 (nx + 1) r nx hr9 (by omega) ⟨hs9.1, srtB.of hs9.2⟩ _ _ (by omega) (WX.eqS rfl hX) _ (lv_sub hl [1, 2, 3, 4, 5, 6, 0] rfl)
  exact loop5 (18 + 1) (S.1 i) (f + 1) ⟨hro, rfl⟩ (by omega) ⟨SP.refl _ _ _ _, srt_lo⟩ _ _ (by omega) (WX.eqS (xR_self S i).symm hX) _ (lv_sub hl [1, 2, 3, 4, 5, 0] rfl)
set_option maxHeartbeats 4000000 in
set_option maxRecDepth 100000 in
theorem s_X3_mergeTwo (l : Launch) (dC : Nat → ClassId) (dI : Nat → Nat → Nat) (ad : Nat → Nat) (S : XS) (w i j lo mi h9 : Nat) (hw : w < 2) (hi : i < 8) (hj : j < 6) (hro : rowOK (S.1 i)) (ho : ordOK (S.2.1 j)) (hig : i ≠ 3 + 2 * w) (hlo : lo ≤ mi) (hmi : mi ≤ h9) (hh9 : h9 ≤ (S.1 i).2.2) (hgo : rowOK (S.1 (3 + 2 * w))) (hgn : (S.1 (3 + 2 * w)).2.2 = lo) (hs1 : srt (S.2.1 j).2.2.1 (S.1 i).1 lo mi) (hs2 : srt (S.2.1 j).2.2.1 (S.1 i).1 mi h9) : Met l yX3_mergeTwo wsX3_mergeTwo ({ frames := 1, cells := 0, slots := 0, locals := 26 } : Room) (va_Pc [.ref (ad (54 + w)), .ref (ad (3 * i)), .ref (ad (24 + 5 * j)), .int (nI lo), .int (nI mi), .int (nI h9)] (PX dC dI ad S)) (va_Qv (fun S' => ∃ r' : RowS, S' = xR S (3 + 2 * w) r' ∧ rowOK r' ∧ r'.2.2 = h9 ∧ MDone (S.2.1 j).2.2.1 ((S.1 i).1, (S.1 i).2.1) ((S.1 (3 + 2 * w)).1, (S.1 (3 + 2 * w)).2.1) (r'.1, r'.2.1) lo h9) (PX dC dI ad) (AX ad)) 0 0 (AX ad) := by
  refine Met.ofW (cc := cX3_mergeTwo) (maxL := 11) (ret := none) pl_X3 rfl ?_
  intro p e s m args below meth c s₁ B hml hv
  obtain ⟨rfl, hPX⟩ := hv
  have hx := B.exec
  have hb := B.bytes
  have hr := B.returns
  have hts := atoms_spec (ws := wsX3_mergeTwo) B.pre
  have hown : s.vm.findClass RX3 = some m.cls := findClass_of_methodNamed B.named
  have hlocks := B.notSynchronized
  have hin3 : ∀ w ∈ u_ws RX3 TX3 1, w ∈ wsX3_mergeTwo := tu 1323 (by decide +kernel) rfl
  have hX := WX.of hPX
  have hl := lv_entry ([.ref (ad (54 + w)), .ref (ad (3 * i)), .ref (ad (24 + 5 * j)), .int (nI lo), .int (nI mi), .int (nI h9)]) (n := 11) (Nat.le_of_ble_eq_true rfl)
  rw [lg_entry_eq]
  generalize (lg_sl ([.ref (ad (54 + w)), .ref (ad (3 * i)), .ref (ad (24 + 5 * j)), .int (nI lo), .int (nI mi), .int (nI h9)]) ++ List.replicate (11 - (lg_sl ([.ref (ad (54 + w)), .ref (ad (3 * i)), .ref (ad (24 + 5 * j)), .int (nI lo), .int (nI mi), .int (nI h9)])).length) Slot.unset).toArray = ls at hl ⊢
  have hl : lv_has ls 11 [(0, .ref (ad (54 + w))), (1, .ref (ad (3 * i))), (2, .ref (ad (24 + 5 * j))), (3, .int (nI lo)), (4, .int (nI mi)), (5, .int (nI h9))] := hl
  show W p l e ({ frames := 1, cells := 0, slots := 0, locals := 26 } : Room) s m ([.ref (ad (54 + w)), .ref (ad (3 * i)), .ref (ad (24 + 5 * j)), .int (nI lo), .int (nI mi), .int (nI h9)]).toArray below meth c s.heap [] 0 0 (MQ below (va_Qv (fun S' => ∃ r' : RowS, S' = xR S (3 + 2 * w) r' ∧ rowOK r' ∧ r'.2.2 = h9 ∧ MDone (S.2.1 j).2.2.1 ((S.1 i).1, (S.1 i).2.1) ((S.1 (3 + 2 * w)).1, (S.1 (3 + 2 * w)).2.1) (r'.1, r'.2.1) lo h9) (PX dC dI ad) (AX ad)) ([.ref (ad (54 + w)), .ref (ad (3 * i)), .ref (ad (24 + 5 * j)), .int (nI lo), .int (nI mi), .int (nI h9)]).toArray s 0 0 (AX ad)) (F0 m 0 ls [])
  have hn := hro.1
  refine lv_iload_n hx hb dX3_mergeTwo_0 rfl (lv_at hl 3 rfl) ?_
  refine lv_istore (lv' := [(6, .int (nI lo)), (0, .ref (ad (54 + w))), (1, .ref (ad (3 * i))), (2, .ref (ad (24 + 5 * j))), (3, .int (nI lo)), (4, .int (nI mi)), (5, .int (nI h9))]) hx hb dX3_mergeTwo_1 hl (by decide) rfl (fun ls hl => ?_)
  refine lv_iload hx hb dX3_mergeTwo_3 (lv_at hl 5 rfl) ?_
  refine lv_istore (lv' := [(7, .int (nI mi)), (6, .int (nI lo)), (0, .ref (ad (54 + w))), (1, .ref (ad (3 * i))), (2, .ref (ad (24 + 5 * j))), (3, .int (nI lo)), (4, .int (nI mi)), (5, .int (nI h9))]) hx hb dX3_mergeTwo_5 hl (by decide) rfl (fun ls hl => ?_)
  refine lv_iload_n hx hb dX3_mergeTwo_7 rfl (lv_at hl 5 rfl) ?_
  refine lv_istore (lv' := [(8, .int (nI lo)), (7, .int (nI mi)), (6, .int (nI lo)), (0, .ref (ad (54 + w))), (1, .ref (ad (3 * i))), (2, .ref (ad (24 + 5 * j))), (3, .int (nI lo)), (4, .int (nI mi)), (5, .int (nI h9))]) hx hb dX3_mergeTwo_8 hl (by decide) rfl (fun ls hl => ?_)
  have loop10 : ∀ (fuel : Nat) (r : RowS) (a c9 q : Nat) (hr9 : rowOK r ∧ r.2.2 = q) (ha : lo ≤ a ∧ a ≤ mi ∧ mi ≤ c9 ∧ c9 ≤ h9 ∧ a + c9 = q + mi) (hm9 : MG (S.2.1 j).2.2.1 ((S.1 i).1, (S.1 i).2.1) ((S.1 (3 + 2 * w)).1, (S.1 (3 + 2 * w)).2.1) (r.1, r.2.1) lo mi h9 a c9 r.2.2) (H : Heap) (locs : List Loc), h9 - q < fuel → WX dC dI ad (xR S (3 + 2 * w) (r.1, r.2.1, r.2.2)) (AX ad) s H locs → ∀ ls : Array Slot, lv_has ls 11 [(0, .ref (ad (54 + w))), (1, .ref (ad (3 * i))), (2, .ref (ad (24 + 5 * j))), (3, .int (nI lo)), (4, .int (nI mi)), (5, .int (nI h9)), (6, .int (nI a)), (7, .int (nI c9)), (8, .int (nI q))] → W p l e ({ frames := 1, cells := 0, slots := 0, locals := 26 } : Room) s m ([.ref (ad (54 + w)), .ref (ad (3 * i)), .ref (ad (24 + 5 * j)), .int (nI lo), .int (nI mi), .int (nI h9)]).toArray below meth c H locs 0 0 (MQ below (va_Qv (fun S' => ∃ r' : RowS, S' = xR S (3 + 2 * w) r' ∧ rowOK r' ∧ r'.2.2 = h9 ∧ MDone (S.2.1 j).2.2.1 ((S.1 i).1, (S.1 i).2.1) ((S.1 (3 + 2 * w)).1, (S.1 (3 + 2 * w)).2.1) (r'.1, r'.2.1) lo h9) (PX dC dI ad) (AX ad)) ([.ref (ad (54 + w)), .ref (ad (3 * i)), .ref (ad (24 + 5 * j)), .int (nI lo), .int (nI mi), .int (nI h9)]).toArray s 0 0 (AX ad)) (F0 m 10 ls []) := by
    intro fuel
    induction fuel with
    | zero => intro r a c9 q hr9 ha hm9 H locs hf; exact absurd hf (Nat.not_lt_zero _)
    | succ fuel ih10 =>
      intro r a c9 q hr9 ha hm9 H locs hf hX ls hl
      refine lv_iload hx hb dX3_mergeTwo_10 (lv_at hl 8 rfl) ?_
      refine lv_iload hx hb dX3_mergeTwo_12 (lv_at hl 5 rfl) ?_
      refine kn_icmp_ge (tgt := 110) hx hb (by omega) (by omega) dX3_mergeTwo_14 (by decide) (fun k_1 => ?_) (fun k_1 => ?_)
      · skip
        exact W.vret hx hb hr (fun t9 ht9 hW9 => ⟨⟨(xR S (3 + 2 * w) (r.1, r.2.1, r.2.2)), rfl, ⟨r, rfl, hr9.1, by omega, hm9.done (by omega) (by omega) (by omega)⟩, hX.P ht9 hW9⟩, hX.2.2.2.F ht9⟩) hX.2.2.2.2.2 dX3_mergeTwo_110
      · skip
        refine lv_iload hx hb dX3_mergeTwo_17 (lv_at hl 6 rfl) ?_
        refine lv_iload hx hb dX3_mergeTwo_19 (lv_at hl 4 rfl) ?_
        refine kn_icmp_ge (tgt := 50) hx hb (by omega) (by omega) dX3_mergeTwo_21 (by decide) (fun k_2 => ?_) (fun k_2 => ?_)
        · skip
          refine lv_iconst (v := nI 1) hx hb dX3_mergeTwo_50 (by decide) ?_
          refine lv_goto (tgt := 55) hx hb dX3_mergeTwo_51 (by decide) ?_
          refine lv_istore (lv' := [(9, .int (nI 1)), (0, .ref (ad (54 + w))), (1, .ref (ad (3 * i))), (2, .ref (ad (24 + 5 * j))), (3, .int (nI lo)), (4, .int (nI mi)), (5, .int (nI h9)), (6, .int (nI a)), (7, .int (nI c9)), (8, .int (nI q))]) hx hb dX3_mergeTwo_55 hl (by decide) rfl (fun ls hl => ?_)
          refine lv_iload hx hb dX3_mergeTwo_57 (lv_at hl 0 rfl) ?_
          refine kn_if_eq (tgt := 67) hx hb (by omega) dX3_mergeTwo_59 (by decide) (fun k_3 => absurd k_3 (by omega)) (fun k_3 => ?_)
          refine lv_iload hx hb dX3_mergeTwo_62 (lv_at hl 8 rfl) ?_
          refine lv_goto (tgt := 69) hx hb dX3_mergeTwo_64 (by decide) ?_
          refine lv_istore (lv' := [(10, .int (nI c9)), (9, .int (nI 1)), (0, .ref (ad (54 + w))), (1, .ref (ad (3 * i))), (2, .ref (ad (24 + 5 * j))), (3, .int (nI lo)), (4, .int (nI mi)), (5, .int (nI h9)), (6, .int (nI a)), (7, .int (nI c9)), (8, .int (nI q))]) hx hb dX3_mergeTwo_69 hl (by decide) rfl (fun ls hl => ?_)
          refine lv_aload_n hx hb dX3_mergeTwo_71 rfl (lv_at hl 2 rfl) ?_
          refine ks_gg hx hb hts hin3 hown hX hw (hts (.fieldLink RX3 10 "Orderlattice$Sorter" "gathered" "LOrderlattice$Row;") (tm 20 (by decide +kernel) rfl)) dX3_mergeTwo_72 ?_
          refine lv_aload_n hx hb dX3_mergeTwo_75 rfl (lv_at hl 3 rfl) ?_
          refine lv_iload hx hb dX3_mergeTwo_76 (lv_at hl 0 rfl) ?_
          refine kx_cr (v := nI ((S.1 i).1 c9)) (va_runV (As := [.int (nI c9)]) (rest := [.ref (ad (3 * (3 + 2 * w)))]) ⟨hx, hb, hml, hown, hts⟩ (m_X2_valueOn l dC dI ad (xR S (3 + 2 * w) (r.1, r.2.1, r.2.2)) i c9 hi (by omega)) (cwV 1 hts gX3_mergeTwo_X2_valueOn rfl rfl rfl hdX2_valueOn_1 ⟨Nat.le_of_ble_eq_true rfl, Nat.le_of_ble_eq_true rfl⟩) (hX.preRow hi) rfl rfl hl.1 rfl (lv_room (Nat.le_of_ble_eq_true rfl)) dX3_mergeTwo_78 ⟨Nat.le_of_ble_eq_true rfl, Nat.le_of_ble_eq_true rfl⟩) (fun _ h => by rw [h, xR_ne _ _ hig]) ?_
          refine lv_aload_n hx hb dX3_mergeTwo_81 rfl (lv_at hl 3 rfl) ?_
          refine lv_iload hx hb dX3_mergeTwo_82 (lv_at hl 0 rfl) ?_
          refine kx_cr (v := nI ((S.1 i).2.1 c9)) (va_runV (As := [.int (nI c9)]) (rest := [.int (nI ((S.1 i).1 c9)), .ref (ad (3 * (3 + 2 * w)))]) ⟨hx, hb, hml, hown, hts⟩ (m_X2_markOn l dC dI ad (xR S (3 + 2 * w) (r.1, r.2.1, r.2.2)) i c9 hi (by omega)) (cwV 1 hts gX3_mergeTwo_X2_markOn rfl rfl rfl hdX2_markOn_1 ⟨Nat.le_of_ble_eq_true rfl, Nat.le_of_ble_eq_true rfl⟩) (hX.preRow hi) rfl rfl hl.1 rfl (lv_room (Nat.le_of_ble_eq_true rfl)) dX3_mergeTwo_84 ⟨Nat.le_of_ble_eq_true rfl, Nat.le_of_ble_eq_true rfl⟩) (fun _ h => by rw [h, xR_ne _ _ hig]) ?_
          refine kx_cv (va_runV (As := [.int (nI ((S.1 i).1 c9)), .int (nI ((S.1 i).2.1 c9))]) (rest := []) ⟨hx, hb, hml, hown, hts⟩ (m_X2_append l dC dI ad (xR S (3 + 2 * w) (r.1, r.2.1, r.2.2)) (3 + 2 * w) ((S.1 i).1 c9) ((S.1 i).2.1 c9) (by omega) (by rw [xR_row]; show r.2.2 < 16; omega)) (cwV 2 hts gX3_mergeTwo_X2_append rfl rfl rfl hdX2_append_2 ⟨Nat.le_of_ble_eq_true rfl, Nat.le_of_ble_eq_true rfl⟩) (hX.preRow (by omega)) rfl rfl hl.1 rfl (lv_room (Nat.le_of_ble_eq_true rfl)) dX3_mergeTwo_87 ⟨Nat.le_of_ble_eq_true rfl, Nat.le_of_ble_eq_true rfl⟩) hX (fun _ h => h) (fun S_ H locs hw hX => ?_)
          rw [xR_row, xR_xR] at hw
          subst hw
          refine lv_iload hx hb dX3_mergeTwo_90 (lv_at hl 1 rfl) ?_
          refine kn_if_eq (tgt := 101) hx hb (by omega) dX3_mergeTwo_92 (by decide) (fun k_4 => absurd k_4 (by omega)) (fun k_4 => ?_)
          refine lv_iinc (v := nI (c9 + 1)) (lv' := [(7, .int (nI (c9 + 1))), (10, .int (nI c9)), (9, .int (nI 1)), (0, .ref (ad (54 + w))), (1, .ref (ad (3 * i))), (2, .ref (ad (24 + 5 * j))), (3, .int (nI lo)), (4, .int (nI mi)), (5, .int (nI h9)), (6, .int (nI a)), (8, .int (nI q))]) hx hb dX3_mergeTwo_95 hl (k := 9) rfl (nI_1 c9) (by decide) rfl (fun ls hl => ?_)
          refine lv_goto (tgt := 104) hx hb dX3_mergeTwo_98 (by decide) ?_
          refine lv_iinc (v := nI (q + 1)) (lv' := [(8, .int (nI (q + 1))), (7, .int (nI (c9 + 1))), (10, .int (nI c9)), (9, .int (nI 1)), (0, .ref (ad (54 + w))), (1, .ref (ad (3 * i))), (2, .ref (ad (24 + 5 * j))), (3, .int (nI lo)), (4, .int (nI mi)), (5, .int (nI h9)), (6, .int (nI a))]) hx hb dX3_mergeTwo_104 hl (k := 10) rfl (nI_1 q) (by decide) rfl (fun ls hl => ?_)
          refine lv_goto (tgt := 10) hx hb dX3_mergeTwo_107 (by decide) ?_
          exact ih10  (va_up r.1 r.2.2 ((S.1 i).1 c9), va_up r.2.1 r.2.2 ((S.1 i).2.1 c9), r.2.2 + 1) a (c9 + 1) (q + 1) ⟨rowOK_app hr9.1 (by omega) (hro.2 _ (by omega)).1 (hro.2 _ (by omega)).2, congrArg (· + 1) hr9.2⟩ (by omega) (MG.right hm9 (by omega) (by omega) hs1 hs2 (by omega) (by omega) (Or.inl k_2)) _ _ (by omega) hX _ (lv_sub hl [4, 5, 6, 7, 8, 9, 10, 1, 0] rfl)
        · skip
          refine lv_iload hx hb dX3_mergeTwo_24 (lv_at hl 7 rfl) ?_
          refine lv_iload hx hb dX3_mergeTwo_26 (lv_at hl 5 rfl) ?_
          refine kn_icmp_ge (tgt := 54) hx hb (by omega) (by omega) dX3_mergeTwo_28 (by decide) (fun k_5 => ?_) (fun k_5 => ?_)
          · skip
            refine lv_iconst (v := nI 0) hx hb dX3_mergeTwo_54 (by decide) ?_
            refine lv_istore (lv' := [(9, .int (nI 0)), (0, .ref (ad (54 + w))), (1, .ref (ad (3 * i))), (2, .ref (ad (24 + 5 * j))), (3, .int (nI lo)), (4, .int (nI mi)), (5, .int (nI h9)), (6, .int (nI a)), (7, .int (nI c9)), (8, .int (nI q))]) hx hb dX3_mergeTwo_55 hl (by decide) rfl (fun ls hl => ?_)
            refine lv_iload hx hb dX3_mergeTwo_57 (lv_at hl 0 rfl) ?_
            refine kn_if_eq (tgt := 67) hx hb (by omega) dX3_mergeTwo_59 (by decide) (fun k_6 => ?_) (fun k_6 => absurd k_6 (by omega))
            refine lv_iload hx hb dX3_mergeTwo_67 (lv_at hl 7 rfl) ?_
            refine lv_istore (lv' := [(10, .int (nI a)), (9, .int (nI 0)), (0, .ref (ad (54 + w))), (1, .ref (ad (3 * i))), (2, .ref (ad (24 + 5 * j))), (3, .int (nI lo)), (4, .int (nI mi)), (5, .int (nI h9)), (6, .int (nI a)), (7, .int (nI c9)), (8, .int (nI q))]) hx hb dX3_mergeTwo_69 hl (by decide) rfl (fun ls hl => ?_)
            refine lv_aload_n hx hb dX3_mergeTwo_71 rfl (lv_at hl 2 rfl) ?_
            refine ks_gg hx hb hts hin3 hown hX hw (hts (.fieldLink RX3 10 "Orderlattice$Sorter" "gathered" "LOrderlattice$Row;") (tm 20 (by decide +kernel) rfl)) dX3_mergeTwo_72 ?_
            refine lv_aload_n hx hb dX3_mergeTwo_75 rfl (lv_at hl 3 rfl) ?_
            refine lv_iload hx hb dX3_mergeTwo_76 (lv_at hl 0 rfl) ?_
            refine kx_cr (v := nI ((S.1 i).1 a)) (va_runV (As := [.int (nI a)]) (rest := [.ref (ad (3 * (3 + 2 * w)))]) ⟨hx, hb, hml, hown, hts⟩ (m_X2_valueOn l dC dI ad (xR S (3 + 2 * w) (r.1, r.2.1, r.2.2)) i a hi (by omega)) (cwV 1 hts gX3_mergeTwo_X2_valueOn rfl rfl rfl hdX2_valueOn_1 ⟨Nat.le_of_ble_eq_true rfl, Nat.le_of_ble_eq_true rfl⟩) (hX.preRow hi) rfl rfl hl.1 rfl (lv_room (Nat.le_of_ble_eq_true rfl)) dX3_mergeTwo_78 ⟨Nat.le_of_ble_eq_true rfl, Nat.le_of_ble_eq_true rfl⟩) (fun _ h => by rw [h, xR_ne _ _ hig]) ?_
            refine lv_aload_n hx hb dX3_mergeTwo_81 rfl (lv_at hl 3 rfl) ?_
            refine lv_iload hx hb dX3_mergeTwo_82 (lv_at hl 0 rfl) ?_
            refine kx_cr (v := nI ((S.1 i).2.1 a)) (va_runV (As := [.int (nI a)]) (rest := [.int (nI ((S.1 i).1 a)), .ref (ad (3 * (3 + 2 * w)))]) ⟨hx, hb, hml, hown, hts⟩ (m_X2_markOn l dC dI ad (xR S (3 + 2 * w) (r.1, r.2.1, r.2.2)) i a hi (by omega)) (cwV 1 hts gX3_mergeTwo_X2_markOn rfl rfl rfl hdX2_markOn_1 ⟨Nat.le_of_ble_eq_true rfl, Nat.le_of_ble_eq_true rfl⟩) (hX.preRow hi) rfl rfl hl.1 rfl (lv_room (Nat.le_of_ble_eq_true rfl)) dX3_mergeTwo_84 ⟨Nat.le_of_ble_eq_true rfl, Nat.le_of_ble_eq_true rfl⟩) (fun _ h => by rw [h, xR_ne _ _ hig]) ?_
            refine kx_cv (va_runV (As := [.int (nI ((S.1 i).1 a)), .int (nI ((S.1 i).2.1 a))]) (rest := []) ⟨hx, hb, hml, hown, hts⟩ (m_X2_append l dC dI ad (xR S (3 + 2 * w) (r.1, r.2.1, r.2.2)) (3 + 2 * w) ((S.1 i).1 a) ((S.1 i).2.1 a) (by omega) (by rw [xR_row]; show r.2.2 < 16; omega)) (cwV 2 hts gX3_mergeTwo_X2_append rfl rfl rfl hdX2_append_2 ⟨Nat.le_of_ble_eq_true rfl, Nat.le_of_ble_eq_true rfl⟩) (hX.preRow (by omega)) rfl rfl hl.1 rfl (lv_room (Nat.le_of_ble_eq_true rfl)) dX3_mergeTwo_87 ⟨Nat.le_of_ble_eq_true rfl, Nat.le_of_ble_eq_true rfl⟩) hX (fun _ h => h) (fun S_ H locs hw hX => ?_)
            rw [xR_row, xR_xR] at hw
            subst hw
            refine lv_iload hx hb dX3_mergeTwo_90 (lv_at hl 1 rfl) ?_
            refine kn_if_eq (tgt := 101) hx hb (by omega) dX3_mergeTwo_92 (by decide) (fun k_7 => ?_) (fun k_7 => absurd k_7 (by omega))
            refine lv_iinc (v := nI (a + 1)) (lv' := [(6, .int (nI (a + 1))), (10, .int (nI a)), (9, .int (nI 0)), (0, .ref (ad (54 + w))), (1, .ref (ad (3 * i))), (2, .ref (ad (24 + 5 * j))), (3, .int (nI lo)), (4, .int (nI mi)), (5, .int (nI h9)), (7, .int (nI c9)), (8, .int (nI q))]) hx hb dX3_mergeTwo_101 hl (k := 8) rfl (nI_1 a) (by decide) rfl (fun ls hl => ?_)
            refine lv_iinc (v := nI (q + 1)) (lv' := [(8, .int (nI (q + 1))), (6, .int (nI (a + 1))), (10, .int (nI a)), (9, .int (nI 0)), (0, .ref (ad (54 + w))), (1, .ref (ad (3 * i))), (2, .ref (ad (24 + 5 * j))), (3, .int (nI lo)), (4, .int (nI mi)), (5, .int (nI h9)), (7, .int (nI c9))]) hx hb dX3_mergeTwo_104 hl (k := 10) rfl (nI_1 q) (by decide) rfl (fun ls hl => ?_)
            refine lv_goto (tgt := 10) hx hb dX3_mergeTwo_107 (by decide) ?_
            exact ih10  (va_up r.1 r.2.2 ((S.1 i).1 a), va_up r.2.1 r.2.2 ((S.1 i).2.1 a), r.2.2 + 1) (a + 1) c9 (q + 1) ⟨rowOK_app hr9.1 (by omega) (hro.2 _ (by omega)).1 (hro.2 _ (by omega)).2, congrArg (· + 1) hr9.2⟩ (by omega) (MG.left hm9 (by omega) (by omega) hs1 hs2 (by omega) (by omega) (Or.inl k_5)) _ _ (by omega) hX _ (lv_sub hl [4, 5, 6, 7, 8, 9, 1, 10, 0] rfl)
          · skip
            refine lv_aload_n hx hb dX3_mergeTwo_31 rfl (lv_at hl 2 rfl) ?_
            refine lv_aload_n hx hb dX3_mergeTwo_32 rfl (lv_at hl 1 rfl) ?_
            refine lv_iload hx hb dX3_mergeTwo_33 (lv_at hl 7 rfl) ?_
            refine kx_cr (v := nI ((S.1 i).1 c9)) (va_runV (As := [.int (nI c9)]) (rest := [.ref (ad (24 + 5 * j))]) ⟨hx, hb, hml, hown, hts⟩ (m_X2_valueOn l dC dI ad (xR S (3 + 2 * w) (r.1, r.2.1, r.2.2)) i c9 hi (by omega)) (cwV 1 hts gX3_mergeTwo_X2_valueOn rfl rfl rfl hdX2_valueOn_1 ⟨Nat.le_of_ble_eq_true rfl, Nat.le_of_ble_eq_true rfl⟩) (hX.preRow hi) rfl rfl hl.1 rfl (lv_room (Nat.le_of_ble_eq_true rfl)) dX3_mergeTwo_35 ⟨Nat.le_of_ble_eq_true rfl, Nat.le_of_ble_eq_true rfl⟩) (fun _ h => by rw [h, xR_ne _ _ hig]) ?_
            refine lv_aload_n hx hb dX3_mergeTwo_38 rfl (lv_at hl 1 rfl) ?_
            refine lv_iload hx hb dX3_mergeTwo_39 (lv_at hl 6 rfl) ?_
            refine kx_cr (v := nI ((S.1 i).1 a)) (va_runV (As := [.int (nI a)]) (rest := [.int (nI ((S.1 i).1 c9)), .ref (ad (24 + 5 * j))]) ⟨hx, hb, hml, hown, hts⟩ (m_X2_valueOn l dC dI ad (xR S (3 + 2 * w) (r.1, r.2.1, r.2.2)) i a hi (by omega)) (cwV 1 hts gX3_mergeTwo_X2_valueOn rfl rfl rfl hdX2_valueOn_1 ⟨Nat.le_of_ble_eq_true rfl, Nat.le_of_ble_eq_true rfl⟩) (hX.preRow hi) rfl rfl hl.1 rfl (lv_room (Nat.le_of_ble_eq_true rfl)) dX3_mergeTwo_41 ⟨Nat.le_of_ble_eq_true rfl, Nat.le_of_ble_eq_true rfl⟩) (fun _ h => by rw [h, xR_ne _ _ hig]) ?_
            refine kx_cr (v := cmpI (((S.2.1 j).2.2.1) ((S.1 i).1 c9)) (((S.2.1 j).2.2.1) ((S.1 i).1 a))) (va_runV (As := [.int (nI ((S.1 i).1 c9)), .int (nI ((S.1 i).1 a))]) (rest := []) ⟨hx, hb, hml, hown, hts⟩ (m_X1_compared l dC dI ad (xR S (3 + 2 * w) (r.1, r.2.1, r.2.2)) j ((S.1 i).1 c9) ((S.1 i).1 a) hj ho (hro.2 _ (by omega)).1 (hro.2 _ (by omega)).1) (cwV 2 hts gX3_mergeTwo_X1_compared rfl rfl rfl hdX1_compared_2 ⟨Nat.le_of_ble_eq_true rfl, Nat.le_of_ble_eq_true rfl⟩) (hX.preOrd hj) rfl rfl hl.1 rfl (lv_room (Nat.le_of_ble_eq_true rfl)) dX3_mergeTwo_44 ⟨Nat.le_of_ble_eq_true rfl, Nat.le_of_ble_eq_true rfl⟩) (fun _ h => h) ?_
            refine kc_if_ge (tgt := 54) hx hb dX3_mergeTwo_47 (by decide) (fun k_8 => ?_) (fun k_8 => ?_)
            · skip
              refine lv_iconst (v := nI 0) hx hb dX3_mergeTwo_54 (by decide) ?_
              refine lv_istore (lv' := [(9, .int (nI 0)), (0, .ref (ad (54 + w))), (1, .ref (ad (3 * i))), (2, .ref (ad (24 + 5 * j))), (3, .int (nI lo)), (4, .int (nI mi)), (5, .int (nI h9)), (6, .int (nI a)), (7, .int (nI c9)), (8, .int (nI q))]) hx hb dX3_mergeTwo_55 hl (by decide) rfl (fun ls hl => ?_)
              refine lv_iload hx hb dX3_mergeTwo_57 (lv_at hl 0 rfl) ?_
              refine kn_if_eq (tgt := 67) hx hb (by omega) dX3_mergeTwo_59 (by decide) (fun k_9 => ?_) (fun k_9 => absurd k_9 (by omega))
              refine lv_iload hx hb dX3_mergeTwo_67 (lv_at hl 7 rfl) ?_
              refine lv_istore (lv' := [(10, .int (nI a)), (9, .int (nI 0)), (0, .ref (ad (54 + w))), (1, .ref (ad (3 * i))), (2, .ref (ad (24 + 5 * j))), (3, .int (nI lo)), (4, .int (nI mi)), (5, .int (nI h9)), (6, .int (nI a)), (7, .int (nI c9)), (8, .int (nI q))]) hx hb dX3_mergeTwo_69 hl (by decide) rfl (fun ls hl => ?_)
              refine lv_aload_n hx hb dX3_mergeTwo_71 rfl (lv_at hl 2 rfl) ?_
              refine ks_gg hx hb hts hin3 hown hX hw (hts (.fieldLink RX3 10 "Orderlattice$Sorter" "gathered" "LOrderlattice$Row;") (tm 20 (by decide +kernel) rfl)) dX3_mergeTwo_72 ?_
              refine lv_aload_n hx hb dX3_mergeTwo_75 rfl (lv_at hl 3 rfl) ?_
              refine lv_iload hx hb dX3_mergeTwo_76 (lv_at hl 0 rfl) ?_
              refine kx_cr (v := nI ((S.1 i).1 a)) (va_runV (As := [.int (nI a)]) (rest := [.ref (ad (3 * (3 + 2 * w)))]) ⟨hx, hb, hml, hown, hts⟩ (m_X2_valueOn l dC dI ad (xR S (3 + 2 * w) (r.1, r.2.1, r.2.2)) i a hi (by omega)) (cwV 1 hts gX3_mergeTwo_X2_valueOn rfl rfl rfl hdX2_valueOn_1 ⟨Nat.le_of_ble_eq_true rfl, Nat.le_of_ble_eq_true rfl⟩) (hX.preRow hi) rfl rfl hl.1 rfl (lv_room (Nat.le_of_ble_eq_true rfl)) dX3_mergeTwo_78 ⟨Nat.le_of_ble_eq_true rfl, Nat.le_of_ble_eq_true rfl⟩) (fun _ h => by rw [h, xR_ne _ _ hig]) ?_
              refine lv_aload_n hx hb dX3_mergeTwo_81 rfl (lv_at hl 3 rfl) ?_
              refine lv_iload hx hb dX3_mergeTwo_82 (lv_at hl 0 rfl) ?_
              refine kx_cr (v := nI ((S.1 i).2.1 a)) (va_runV (As := [.int (nI a)]) (rest := [.int (nI ((S.1 i).1 a)), .ref (ad (3 * (3 + 2 * w)))]) ⟨hx, hb, hml, hown, hts⟩ (m_X2_markOn l dC dI ad (xR S (3 + 2 * w) (r.1, r.2.1, r.2.2)) i a hi (by omega)) (cwV 1 hts gX3_mergeTwo_X2_markOn rfl rfl rfl hdX2_markOn_1 ⟨Nat.le_of_ble_eq_true rfl, Nat.le_of_ble_eq_true rfl⟩) (hX.preRow hi) rfl rfl hl.1 rfl (lv_room (Nat.le_of_ble_eq_true rfl)) dX3_mergeTwo_84 ⟨Nat.le_of_ble_eq_true rfl, Nat.le_of_ble_eq_true rfl⟩) (fun _ h => by rw [h, xR_ne _ _ hig]) ?_
              refine kx_cv (va_runV (As := [.int (nI ((S.1 i).1 a)), .int (nI ((S.1 i).2.1 a))]) (rest := []) ⟨hx, hb, hml, hown, hts⟩ (m_X2_append l dC dI ad (xR S (3 + 2 * w) (r.1, r.2.1, r.2.2)) (3 + 2 * w) ((S.1 i).1 a) ((S.1 i).2.1 a) (by omega) (by rw [xR_row]; show r.2.2 < 16; omega)) (cwV 2 hts gX3_mergeTwo_X2_append rfl rfl rfl hdX2_append_2 ⟨Nat.le_of_ble_eq_true rfl, Nat.le_of_ble_eq_true rfl⟩) (hX.preRow (by omega)) rfl rfl hl.1 rfl (lv_room (Nat.le_of_ble_eq_true rfl)) dX3_mergeTwo_87 ⟨Nat.le_of_ble_eq_true rfl, Nat.le_of_ble_eq_true rfl⟩) hX (fun _ h => h) (fun S_ H locs hw hX => ?_)
              rw [xR_row, xR_xR] at hw
              subst hw
              refine lv_iload hx hb dX3_mergeTwo_90 (lv_at hl 1 rfl) ?_
              refine kn_if_eq (tgt := 101) hx hb (by omega) dX3_mergeTwo_92 (by decide) (fun k_10 => ?_) (fun k_10 => absurd k_10 (by omega))
              refine lv_iinc (v := nI (a + 1)) (lv' := [(6, .int (nI (a + 1))), (10, .int (nI a)), (9, .int (nI 0)), (0, .ref (ad (54 + w))), (1, .ref (ad (3 * i))), (2, .ref (ad (24 + 5 * j))), (3, .int (nI lo)), (4, .int (nI mi)), (5, .int (nI h9)), (7, .int (nI c9)), (8, .int (nI q))]) hx hb dX3_mergeTwo_101 hl (k := 8) rfl (nI_1 a) (by decide) rfl (fun ls hl => ?_)
              refine lv_iinc (v := nI (q + 1)) (lv' := [(8, .int (nI (q + 1))), (6, .int (nI (a + 1))), (10, .int (nI a)), (9, .int (nI 0)), (0, .ref (ad (54 + w))), (1, .ref (ad (3 * i))), (2, .ref (ad (24 + 5 * j))), (3, .int (nI lo)), (4, .int (nI mi)), (5, .int (nI h9)), (7, .int (nI c9))]) hx hb dX3_mergeTwo_104 hl (k := 10) rfl (nI_1 q) (by decide) rfl (fun ls hl => ?_)
              refine lv_goto (tgt := 10) hx hb dX3_mergeTwo_107 (by decide) ?_
              exact ih10  (va_up r.1 r.2.2 ((S.1 i).1 a), va_up r.2.1 r.2.2 ((S.1 i).2.1 a), r.2.2 + 1) (a + 1) c9 (q + 1) ⟨rowOK_app hr9.1 (by omega) (hro.2 _ (by omega)).1 (hro.2 _ (by omega)).2, congrArg (· + 1) hr9.2⟩ (by omega) (MG.left hm9 (by omega) (by omega) hs1 hs2 (by omega) (by omega) (Or.inr k_8)) _ _ (by omega) hX _ (lv_sub hl [4, 5, 6, 7, 8, 9, 1, 10, 0] rfl)
            · skip
              refine lv_iconst (v := nI 1) hx hb dX3_mergeTwo_50 (by decide) ?_
              refine lv_goto (tgt := 55) hx hb dX3_mergeTwo_51 (by decide) ?_
              refine lv_istore (lv' := [(9, .int (nI 1)), (0, .ref (ad (54 + w))), (1, .ref (ad (3 * i))), (2, .ref (ad (24 + 5 * j))), (3, .int (nI lo)), (4, .int (nI mi)), (5, .int (nI h9)), (6, .int (nI a)), (7, .int (nI c9)), (8, .int (nI q))]) hx hb dX3_mergeTwo_55 hl (by decide) rfl (fun ls hl => ?_)
              refine lv_iload hx hb dX3_mergeTwo_57 (lv_at hl 0 rfl) ?_
              refine kn_if_eq (tgt := 67) hx hb (by omega) dX3_mergeTwo_59 (by decide) (fun k_11 => absurd k_11 (by omega)) (fun k_11 => ?_)
              refine lv_iload hx hb dX3_mergeTwo_62 (lv_at hl 8 rfl) ?_
              refine lv_goto (tgt := 69) hx hb dX3_mergeTwo_64 (by decide) ?_
              refine lv_istore (lv' := [(10, .int (nI c9)), (9, .int (nI 1)), (0, .ref (ad (54 + w))), (1, .ref (ad (3 * i))), (2, .ref (ad (24 + 5 * j))), (3, .int (nI lo)), (4, .int (nI mi)), (5, .int (nI h9)), (6, .int (nI a)), (7, .int (nI c9)), (8, .int (nI q))]) hx hb dX3_mergeTwo_69 hl (by decide) rfl (fun ls hl => ?_)
              refine lv_aload_n hx hb dX3_mergeTwo_71 rfl (lv_at hl 2 rfl) ?_
              refine ks_gg hx hb hts hin3 hown hX hw (hts (.fieldLink RX3 10 "Orderlattice$Sorter" "gathered" "LOrderlattice$Row;") (tm 20 (by decide +kernel) rfl)) dX3_mergeTwo_72 ?_
              refine lv_aload_n hx hb dX3_mergeTwo_75 rfl (lv_at hl 3 rfl) ?_
              refine lv_iload hx hb dX3_mergeTwo_76 (lv_at hl 0 rfl) ?_
              refine kx_cr (v := nI ((S.1 i).1 c9)) (va_runV (As := [.int (nI c9)]) (rest := [.ref (ad (3 * (3 + 2 * w)))]) ⟨hx, hb, hml, hown, hts⟩ (m_X2_valueOn l dC dI ad (xR S (3 + 2 * w) (r.1, r.2.1, r.2.2)) i c9 hi (by omega)) (cwV 1 hts gX3_mergeTwo_X2_valueOn rfl rfl rfl hdX2_valueOn_1 ⟨Nat.le_of_ble_eq_true rfl, Nat.le_of_ble_eq_true rfl⟩) (hX.preRow hi) rfl rfl hl.1 rfl (lv_room (Nat.le_of_ble_eq_true rfl)) dX3_mergeTwo_78 ⟨Nat.le_of_ble_eq_true rfl, Nat.le_of_ble_eq_true rfl⟩) (fun _ h => by rw [h, xR_ne _ _ hig]) ?_
              refine lv_aload_n hx hb dX3_mergeTwo_81 rfl (lv_at hl 3 rfl) ?_
              refine lv_iload hx hb dX3_mergeTwo_82 (lv_at hl 0 rfl) ?_
              refine kx_cr (v := nI ((S.1 i).2.1 c9)) (va_runV (As := [.int (nI c9)]) (rest := [.int (nI ((S.1 i).1 c9)), .ref (ad (3 * (3 + 2 * w)))]) ⟨hx, hb, hml, hown, hts⟩ (m_X2_markOn l dC dI ad (xR S (3 + 2 * w) (r.1, r.2.1, r.2.2)) i c9 hi (by omega)) (cwV 1 hts gX3_mergeTwo_X2_markOn rfl rfl rfl hdX2_markOn_1 ⟨Nat.le_of_ble_eq_true rfl, Nat.le_of_ble_eq_true rfl⟩) (hX.preRow hi) rfl rfl hl.1 rfl (lv_room (Nat.le_of_ble_eq_true rfl)) dX3_mergeTwo_84 ⟨Nat.le_of_ble_eq_true rfl, Nat.le_of_ble_eq_true rfl⟩) (fun _ h => by rw [h, xR_ne _ _ hig]) ?_
              refine kx_cv (va_runV (As := [.int (nI ((S.1 i).1 c9)), .int (nI ((S.1 i).2.1 c9))]) (rest := []) ⟨hx, hb, hml, hown, hts⟩ (m_X2_append l dC dI ad (xR S (3 + 2 * w) (r.1, r.2.1, r.2.2)) (3 + 2 * w) ((S.1 i).1 c9) ((S.1 i).2.1 c9) (by omega) (by rw [xR_row]; show r.2.2 < 16; omega)) (cwV 2 hts gX3_mergeTwo_X2_append rfl rfl rfl hdX2_append_2 ⟨Nat.le_of_ble_eq_true rfl, Nat.le_of_ble_eq_true rfl⟩) (hX.preRow (by omega)) rfl rfl hl.1 rfl (lv_room (Nat.le_of_ble_eq_true rfl)) dX3_mergeTwo_87 ⟨Nat.le_of_ble_eq_true rfl, Nat.le_of_ble_eq_true rfl⟩) hX (fun _ h => h) (fun S_ H locs hw hX => ?_)
              rw [xR_row, xR_xR] at hw
              subst hw
              refine lv_iload hx hb dX3_mergeTwo_90 (lv_at hl 1 rfl) ?_
              refine kn_if_eq (tgt := 101) hx hb (by omega) dX3_mergeTwo_92 (by decide) (fun k_12 => absurd k_12 (by omega)) (fun k_12 => ?_)
              refine lv_iinc (v := nI (c9 + 1)) (lv' := [(7, .int (nI (c9 + 1))), (10, .int (nI c9)), (9, .int (nI 1)), (0, .ref (ad (54 + w))), (1, .ref (ad (3 * i))), (2, .ref (ad (24 + 5 * j))), (3, .int (nI lo)), (4, .int (nI mi)), (5, .int (nI h9)), (6, .int (nI a)), (8, .int (nI q))]) hx hb dX3_mergeTwo_95 hl (k := 9) rfl (nI_1 c9) (by decide) rfl (fun ls hl => ?_)
              refine lv_goto (tgt := 104) hx hb dX3_mergeTwo_98 (by decide) ?_
              refine lv_iinc (v := nI (q + 1)) (lv' := [(8, .int (nI (q + 1))), (7, .int (nI (c9 + 1))), (10, .int (nI c9)), (9, .int (nI 1)), (0, .ref (ad (54 + w))), (1, .ref (ad (3 * i))), (2, .ref (ad (24 + 5 * j))), (3, .int (nI lo)), (4, .int (nI mi)), (5, .int (nI h9)), (6, .int (nI a))]) hx hb dX3_mergeTwo_104 hl (k := 10) rfl (nI_1 q) (by decide) rfl (fun ls hl => ?_)
              refine lv_goto (tgt := 10) hx hb dX3_mergeTwo_107 (by decide) ?_
              exact ih10  (va_up r.1 r.2.2 ((S.1 i).1 c9), va_up r.2.1 r.2.2 ((S.1 i).2.1 c9), r.2.2 + 1) a (c9 + 1) (q + 1) ⟨rowOK_app hr9.1 (by omega) (hro.2 _ (by omega)).1 (hro.2 _ (by omega)).2, congrArg (· + 1) hr9.2⟩ (by omega) (MG.right hm9 (by omega) (by omega) hs1 hs2 (by omega) (by omega) (Or.inr k_8)) _ _ (by omega) hX _ (lv_sub hl [4, 5, 6, 7, 8, 9, 10, 1, 0] rfl)
  exact loop10 (h9 + 1) (S.1 (3 + 2 * w)) lo mi lo ⟨hgo, hgn⟩ (by omega) (by rw [hgn]; exact MG.start hlo hmi) _ _ (by omega) (WX.eqS (xR_self S _).symm hX) _ (lv_sub hl [3, 4, 5, 6, 7, 8, 2, 1, 0] rfl)
set_option maxHeartbeats 4000000 in
set_option maxRecDepth 100000 in
theorem s_X3_mergeRuns (l : Launch) (dC : Nat → ClassId) (dI : Nat → Nat → Nat) (ad : Nat → Nat) (S : XS) (w i j : Nat) (hw : w < 2) (hi : i < 8) (hj : j < 6) (hro : rowOK (S.1 i)) (ho : ordOK (S.2.1 j)) (hig : i ≠ 3 + 2 * w) (hgo : rowOK (S.1 (3 + 2 * w))) : Met l yX3_mergeRuns wsX3_mergeRuns ({ frames := 2, cells := 0, slots := 0, locals := 56 } : Room) (va_Pc [.ref (ad (54 + w)), .ref (ad (3 * i)), .ref (ad (24 + 5 * j))] (PX dC dI ad S)) (va_Qv (fun S' => keepR S S' i (3 + 2 * w) ∧ SP (S.2.1 j).2.2.1 ((S.1 i).1, (S.1 i).2.1) ((S'.1 i).1, (S'.1 i).2.1) 0 (S.1 i).2.2 ∧ srt (S.2.1 j).2.2.1 (S'.1 i).1 0 (S.1 i).2.2) (PX dC dI ad) (AX ad)) 0 0 (AX ad) := by
  refine Met.ofW (cc := cX3_mergeRuns) (maxL := 7) (ret := none) pl_X3 rfl ?_
  intro p e s m args below meth c s₁ B hml hv
  obtain ⟨rfl, hPX⟩ := hv
  have hx := B.exec
  have hb := B.bytes
  have hr := B.returns
  have hts := atoms_spec (ws := wsX3_mergeRuns) B.pre
  have hown : s.vm.findClass RX3 = some m.cls := findClass_of_methodNamed B.named
  have hlocks := B.notSynchronized
  have hin3 : ∀ w ∈ u_ws RX3 TX3 1, w ∈ wsX3_mergeRuns := tu 1323 (by decide +kernel) rfl
  have hX := WX.of hPX
  have hl := lv_entry ([.ref (ad (54 + w)), .ref (ad (3 * i)), .ref (ad (24 + 5 * j))]) (n := 7) (Nat.le_of_ble_eq_true rfl)
  rw [lg_entry_eq]
  generalize (lg_sl ([.ref (ad (54 + w)), .ref (ad (3 * i)), .ref (ad (24 + 5 * j))]) ++ List.replicate (7 - (lg_sl ([.ref (ad (54 + w)), .ref (ad (3 * i)), .ref (ad (24 + 5 * j))])).length) Slot.unset).toArray = ls at hl ⊢
  have hl : lv_has ls 7 [(0, .ref (ad (54 + w))), (1, .ref (ad (3 * i))), (2, .ref (ad (24 + 5 * j)))] := hl
  show W p l e ({ frames := 2, cells := 0, slots := 0, locals := 56 } : Room) s m ([.ref (ad (54 + w)), .ref (ad (3 * i)), .ref (ad (24 + 5 * j))]).toArray below meth c s.heap [] 0 0 (MQ below (va_Qv (fun S' => keepR S S' i (3 + 2 * w) ∧ SP (S.2.1 j).2.2.1 ((S.1 i).1, (S.1 i).2.1) ((S'.1 i).1, (S'.1 i).2.1) 0 (S.1 i).2.2 ∧ srt (S.2.1 j).2.2.1 (S'.1 i).1 0 (S.1 i).2.2) (PX dC dI ad) (AX ad)) ([.ref (ad (54 + w)), .ref (ad (3 * i)), .ref (ad (24 + 5 * j))]).toArray s 0 0 (AX ad)) (F0 m 0 ls [])
  have hn := hro.1
  refine lv_aload_n hx hb dX3_mergeRuns_0 rfl (lv_at hl 1 rfl) ?_
  refine kx_cr (v := nI ((S.1 i).2.2)) (va_runV (As := []) (rest := []) ⟨hx, hb, hml, hown, hts⟩ (m_X2_length l dC dI ad S i hi) (cwV 0 hts gX3_mergeRuns_X2_length rfl rfl rfl hdX2_length_0 ⟨Nat.le_of_ble_eq_true rfl, Nat.le_of_ble_eq_true rfl⟩) (hX.preRow hi) rfl rfl hl.1 rfl (lv_room (Nat.le_of_ble_eq_true rfl)) dX3_mergeRuns_1 ⟨Nat.le_of_ble_eq_true rfl, Nat.le_of_ble_eq_true rfl⟩) (fun _ h => h) ?_
  refine lv_istore_n (lv' := [(3, .int (nI ((S.1 i).2.2))), (0, .ref (ad (54 + w))), (1, .ref (ad (3 * i))), (2, .ref (ad (24 + 5 * j)))]) hx hb dX3_mergeRuns_4 rfl hl (by decide) rfl (fun ls hl => ?_)
  refine lv_iconst (v := nI 1) hx hb dX3_mergeRuns_5 (by decide) ?_
  refine lv_istore (lv' := [(4, .int (nI 1)), (3, .int (nI ((S.1 i).2.2))), (0, .ref (ad (54 + w))), (1, .ref (ad (3 * i))), (2, .ref (ad (24 + 5 * j)))]) hx hb dX3_mergeRuns_6 hl (by decide) rfl (fun ls hl => ?_)
  have loop8 : ∀ (fuel : Nat) (S1 : XS) (w9 : Nat) (hk9 : keepR S S1 i (3 + 2 * w)) (hw9 : 1 ≤ w9 ∧ w9 ≤ 32) (hs9 : SP (S.2.1 j).2.2.1 ((S.1 i).1, (S.1 i).2.1) ((S1.1 i).1, (S1.1 i).2.1) 0 (S.1 i).2.2 ∧ blk (S.2.1 j).2.2.1 (S1.1 i).1 (S.1 i).2.2 w9) (H : Heap) (locs : List Loc), 33 - w9 < fuel → WX dC dI ad S1 (AX ad) s H locs → ∀ ls : Array Slot, lv_has ls 7 [(0, .ref (ad (54 + w))), (1, .ref (ad (3 * i))), (2, .ref (ad (24 + 5 * j))), (3, .int (nI ((S.1 i).2.2))), (4, .int (nI w9))] → W p l e ({ frames := 2, cells := 0, slots := 0, locals := 56 } : Room) s m ([.ref (ad (54 + w)), .ref (ad (3 * i)), .ref (ad (24 + 5 * j))]).toArray below meth c H locs 0 0 (MQ below (va_Qv (fun S' => keepR S S' i (3 + 2 * w) ∧ SP (S.2.1 j).2.2.1 ((S.1 i).1, (S.1 i).2.1) ((S'.1 i).1, (S'.1 i).2.1) 0 (S.1 i).2.2 ∧ srt (S.2.1 j).2.2.1 (S'.1 i).1 0 (S.1 i).2.2) (PX dC dI ad) (AX ad)) ([.ref (ad (54 + w)), .ref (ad (3 * i)), .ref (ad (24 + 5 * j))]).toArray s 0 0 (AX ad)) (F0 m 8 ls []) := by
    intro fuel
    induction fuel with
    | zero => intro S1 w9 hk9 hw9 hs9 H locs hf; exact absurd hf (Nat.not_lt_zero _)
    | succ fuel ih8 =>
      intro S1 w9 hk9 hw9 hs9 H locs hf hX ls hl
      refine lv_iload hx hb dX3_mergeRuns_8 (lv_at hl 4 rfl) ?_
      refine lv_iload_n hx hb dX3_mergeRuns_10 rfl (lv_at hl 3 rfl) ?_
      refine kn_icmp_ge (tgt := 89) hx hb (by omega) (by omega) dX3_mergeRuns_11 (by decide) (fun k_1 => ?_) (fun k_1 => ?_)
      · skip
        have hwn := k_1
        exact W.vret hx hb hr (fun t9 ht9 hW9 => ⟨⟨S1, rfl, ⟨hk9, hs9.1, blk_all hs9.2 hwn⟩, hX.P ht9 hW9⟩, hX.2.2.2.F ht9⟩) hX.2.2.2.2.2 dX3_mergeRuns_89
      · skip
        have hwn := k_1
        refine lv_aload_n hx hb dX3_mergeRuns_14 rfl (lv_at hl 0 rfl) ?_
        refine ks_gg hx hb hts hin3 hown hX hw (hts (.fieldLink RX3 10 "Orderlattice$Sorter" "gathered" "LOrderlattice$Row;") (tm 20 (by decide +kernel) rfl)) dX3_mergeRuns_15 ?_
        refine kx_cv (va_runV (As := []) (rest := []) ⟨hx, hb, hml, hown, hts⟩ (m_X2_empty l dC dI ad S1 (3 + 2 * w)  (by omega)) (cwV 0 hts gX3_mergeRuns_X2_empty rfl rfl rfl hdX2_empty_0 ⟨Nat.le_of_ble_eq_true rfl, Nat.le_of_ble_eq_true rfl⟩) (hX.preRow (by omega)) rfl rfl hl.1 rfl (lv_room (Nat.le_of_ble_eq_true rfl)) dX3_mergeRuns_18 ⟨Nat.le_of_ble_eq_true rfl, Nat.le_of_ble_eq_true rfl⟩) hX (fun _ h => h) (fun S_ H locs hw hX => ?_)
        subst hw
        refine lv_iconst (v := nI 0) hx hb dX3_mergeRuns_21 (by decide) ?_
        refine lv_istore (lv' := [(5, .int (nI 0)), (0, .ref (ad (54 + w))), (1, .ref (ad (3 * i))), (2, .ref (ad (24 + 5 * j))), (3, .int (nI ((S.1 i).2.2))), (4, .int (nI w9))]) hx hb dX3_mergeRuns_22 hl (by decide) rfl (fun ls hl => ?_)
        have loop24 : ∀ (fuel : Nat) (r : RowS) (lo : Nat) (hr9 : rowOK r ∧ r.2.2 = min lo (S.1 i).2.2) (hlo : lo ≤ 64) (hg9 : (∃ j9, lo = 2 * w9 * j9) ∧ GT (S.2.1 j).2.2.1 ((S1.1 i).1, (S1.1 i).2.1) (r.1, r.2.1) w9 (min lo (S.1 i).2.2)) (H : Heap) (locs : List Loc), (S.1 i).2.2 - lo < fuel → WX dC dI ad (xR S1 (3 + 2 * w) (r.1, r.2.1, r.2.2)) (AX ad) s H locs → ∀ ls : Array Slot, lv_has ls 7 [(0, .ref (ad (54 + w))), (1, .ref (ad (3 * i))), (2, .ref (ad (24 + 5 * j))), (3, .int (nI ((S.1 i).2.2))), (4, .int (nI w9)), (5, .int (nI lo))] → W p l e ({ frames := 2, cells := 0, slots := 0, locals := 56 } : Room) s m ([.ref (ad (54 + w)), .ref (ad (3 * i)), .ref (ad (24 + 5 * j))]).toArray below meth c H locs 0 0 (MQ below (va_Qv (fun S' => keepR S S' i (3 + 2 * w) ∧ SP (S.2.1 j).2.2.1 ((S.1 i).1, (S.1 i).2.1) ((S'.1 i).1, (S'.1 i).2.1) 0 (S.1 i).2.2 ∧ srt (S.2.1 j).2.2.1 (S'.1 i).1 0 (S.1 i).2.2) (PX dC dI ad) (AX ad)) ([.ref (ad (54 + w)), .ref (ad (3 * i)), .ref (ad (24 + 5 * j))]).toArray s 0 0 (AX ad)) (F0 m 24 ls []) := by
          intro fuel
          induction fuel with
          | zero => intro r lo hr9 hlo hg9 H locs hf; exact absurd hf (Nat.not_lt_zero _)
          | succ fuel ih24 =>
            intro r lo hr9 hlo hg9 H locs hf hX ls hl
            refine lv_iload hx hb dX3_mergeRuns_24 (lv_at hl 5 rfl) ?_
            refine lv_iload_n hx hb dX3_mergeRuns_26 rfl (lv_at hl 3 rfl) ?_
            refine kn_icmp_ge (tgt := 72) hx hb (by omega) (by omega) dX3_mergeRuns_27 (by decide) (fun k_2 => ?_) (fun k_2 => ?_)
            · skip
              obtain ⟨S2, e2⟩ : ∃ z, z = (xR S1 (3 + 2 * w) (r.1, r.2.1, r.2.2)) := ⟨_, rfl⟩
              replace hX := WX.eqS e2.symm hX
              have hk2 : keepR S S2 i (3 + 2 * w) := by rw [e2]; exact keepR_g hk9 hig hr9.1
              have hg2 : (S2.1 (3 + 2 * w)).2.2 = (S.1 i).2.2 := by rw [e2, xR_row]; show r.2.2 = _; first | omega | (rw [hr9.2, hrk, hall])
              have hG2 : GT (S.2.1 j).2.2.1 ((S1.1 i).1, (S1.1 i).2.1) ((S2.1 (3 + 2 * w)).1, (S2.1 (3 + 2 * w)).2.1) w9 (S.1 i).2.2 := by rw [e2, xR_row]; have h9 := hg9.2; rw [Nat.min_eq_right (by omega)] at h9; exact h9
              have hI2 : ((S2.1 i).1, (S2.1 i).2.1) = ((S1.1 i).1, (S1.1 i).2.1) := by rw [e2, xR_ne _ _ hig]
              refine lv_aload_n hx hb dX3_mergeRuns_72 rfl (lv_at hl 1 rfl) ?_
              refine lv_aload_n hx hb dX3_mergeRuns_73 rfl (lv_at hl 0 rfl) ?_
              refine ks_gg hx hb hts hin3 hown hX hw (hts (.fieldLink RX3 10 "Orderlattice$Sorter" "gathered" "LOrderlattice$Row;") (tm 20 (by decide +kernel) rfl)) dX3_mergeRuns_74 ?_
              refine kx_cv (va_runV (As := [.ref (ad (3 * (3 + 2 * w)))]) (rest := []) ⟨hx, hb, hml, hown, hts⟩ (m_X2_becomeCopyOf l dC dI ad S2 i (3 + 2 * w) hi (by omega) (by rw [hg2]; omega)) (cwV 1 hts gX3_mergeRuns_X2_becomeCopyOf rfl rfl rfl hdX2_becomeCopyOf_1 ⟨Nat.le_of_ble_eq_true rfl, Nat.le_of_ble_eq_true rfl⟩) (hX.preRow hi) rfl rfl hl.1 rfl (lv_room (Nat.le_of_ble_eq_true rfl)) dX3_mergeRuns_77 ⟨Nat.le_of_ble_eq_true rfl, Nat.le_of_ble_eq_true rfl⟩) hX (fun _ h => h) (fun S_ H locs hw hX => ?_)
              subst hw
              refine lv_iload hx hb dX3_mergeRuns_80 (lv_at hl 4 rfl) ?_
              refine lv_iconst (v := nI 2) hx hb dX3_mergeRuns_82 (by decide) ?_
              refine kn_imul hx hb dX3_mergeRuns_83 ?_
              refine lv_istore (lv' := [(4, .int (nI (w9 * 2))), (0, .ref (ad (54 + w))), (1, .ref (ad (3 * i))), (2, .ref (ad (24 + 5 * j))), (3, .int (nI ((S.1 i).2.2))), (5, .int (nI lo))]) hx hb dX3_mergeRuns_84 hl (by decide) rfl (fun ls hl => ?_)
              refine lv_goto (tgt := 8) hx hb dX3_mergeRuns_86 (by decide) ?_
              exact ih8  (xR S2 i (ovl ((S2.1 (3 + 2 * w)).1) ((S2.1 i).1) ((S2.1 (3 + 2 * w)).2.2), ovl ((S2.1 (3 + 2 * w)).2.1) ((S2.1 i).2.1) ((S2.1 (3 + 2 * w)).2.2), (S2.1 (3 + 2 * w)).2.2)) (w9 * 2) (keepR_i hk2 hig (rowOK_ovl hk2.2.2.2.1 hk2.2.2.1) hg2) (by omega) (mr_next hs9.1 hG2 hg2 hI2) _ _ (by omega) hX _ (lv_sub hl [1, 2, 3, 4, 0] rfl)
            · skip
              obtain ⟨j1, hj1⟩ := hg9.1
              have hs1 := mr_runs hs9.2 hj1 (show lo ≤ (S.1 i).2.2 by omega)
              refine lv_iload hx hb dX3_mergeRuns_30 (lv_at hl 5 rfl) ?_
              refine lv_iload hx hb dX3_mergeRuns_32 (lv_at hl 4 rfl) ?_
              refine kn_iadd hx hb dX3_mergeRuns_34 ?_
              refine lv_iload_n hx hb dX3_mergeRuns_35 rfl (lv_at hl 3 rfl) ?_
              refine kn_min hx hb (by rw [hml]; exact hl.1.symm) hown (hts (.methodLink RX3 48 Lib.Math.min.name) (tm 150 (by decide +kernel) rfl)) (hts (.static Lib.Math.min.name) (tm 151 (by decide +kernel) rfl)) (hts (.initialized "java/lang/Math") (tm 152 (by decide +kernel) rfl)) (hts (.code Lib.Math.min.name Lib.Math.min.code 2 (some .int)) (tm 153 (by decide +kernel) rfl)) (Nat.le_of_ble_eq_true rfl) (Nat.le_of_ble_eq_true rfl) (Nat.le_of_ble_eq_true rfl) (Nat.le_of_ble_eq_true rfl) (by omega) (by omega) dX3_mergeRuns_36 ?_
              refine lv_istore (lv' := [(6, .int (nI (min (lo + w9) ((S.1 i).2.2)))), (0, .ref (ad (54 + w))), (1, .ref (ad (3 * i))), (2, .ref (ad (24 + 5 * j))), (3, .int (nI ((S.1 i).2.2))), (4, .int (nI w9)), (5, .int (nI lo))]) hx hb dX3_mergeRuns_39 hl (by decide) rfl (fun ls hl => ?_)
              refine lv_aload_n hx hb dX3_mergeRuns_41 rfl (lv_at hl 1 rfl) ?_
              refine lv_aload_n hx hb dX3_mergeRuns_42 rfl (lv_at hl 2 rfl) ?_
              refine lv_aload_n hx hb dX3_mergeRuns_43 rfl (lv_at hl 3 rfl) ?_
              refine lv_iload hx hb dX3_mergeRuns_44 (lv_at hl 6 rfl) ?_
              refine lv_iload hx hb dX3_mergeRuns_46 (lv_at hl 0 rfl) ?_
              refine lv_iload hx hb dX3_mergeRuns_48 (lv_at hl 0 rfl) ?_
              refine lv_iload hx hb dX3_mergeRuns_50 (lv_at hl 5 rfl) ?_
              refine kn_iadd hx hb dX3_mergeRuns_52 ?_
              refine lv_iload_n hx hb dX3_mergeRuns_53 rfl (lv_at hl 4 rfl) ?_
              refine kn_min hx hb (by rw [hml]; exact hl.1.symm) hown (hts (.methodLink RX3 48 Lib.Math.min.name) (tm 150 (by decide +kernel) rfl)) (hts (.static Lib.Math.min.name) (tm 151 (by decide +kernel) rfl)) (hts (.initialized "java/lang/Math") (tm 152 (by decide +kernel) rfl)) (hts (.code Lib.Math.min.name Lib.Math.min.code 2 (some .int)) (tm 153 (by decide +kernel) rfl)) (Nat.le_of_ble_eq_true rfl) (Nat.le_of_ble_eq_true rfl) (Nat.le_of_ble_eq_true rfl) (Nat.le_of_ble_eq_true rfl) (by omega) (by omega) dX3_mergeRuns_54 ?_
              refine kx_cv (va_runV (As := [.ref (ad (3 * i)), .ref (ad (24 + 5 * j)), .int (nI lo), .int (nI (min (lo + w9) ((S.1 i).2.2))), .int (nI (min (min (lo + w9) ((S.1 i).2.2) + w9) ((S.1 i).2.2)))]) (rest := []) ⟨hx, hb, hml, hown, hts⟩ (s_X3_mergeTwo l dC dI ad (xR S1 (3 + 2 * w) (r.1, r.2.1, r.2.2)) w i j lo (min (lo + w9) ((S.1 i).2.2)) (min (min (lo + w9) ((S.1 i).2.2) + w9) ((S.1 i).2.2)) hw hi hj (by rw [xR_ne _ _ hig]; exact hk9.2.2.2.1) (by show ordOK (S1.2.1 j); rw [hk9.1]; exact ho) hig (by omega) (by omega) (by rw [xR_ne _ _ hig, hk9.2.2.2.2]; omega) (by rw [xR_row]; exact hr9.1) (by rw [xR_row]; show r.2.2 = lo; omega) (by rw [xR_ne _ _ hig]; show srt (S1.2.1 j).2.2.1 (S1.1 i).1 _ _; rw [hk9.1]; exact hs1.1) (by rw [xR_ne _ _ hig]; show srt (S1.2.1 j).2.2.1 (S1.1 i).1 _ _; rw [hk9.1]; exact hs1.2)) (cwV 5 hts gX3_mergeRuns_X3_mergeTwo rfl rfl rfl hdX3_mergeTwo_5 ⟨Nat.le_of_ble_eq_true rfl, Nat.le_of_ble_eq_true rfl⟩) (hX.preSor hw) rfl rfl hl.1 rfl (lv_room (Nat.le_of_ble_eq_true rfl)) dX3_mergeRuns_57 ⟨Nat.le_of_ble_eq_true rfl, Nat.le_of_ble_eq_true rfl⟩) hX (fun _ h => h) (fun S_ H locs hw hX => ?_)
              obtain ⟨r2, hw, hr2, hn2, hm2⟩ := hw
              rw [xR_xR] at hw
              subst hw
              refine lv_iload hx hb dX3_mergeRuns_60 (lv_at hl 6 rfl) ?_
              refine lv_iconst (v := nI 2) hx hb dX3_mergeRuns_62 (by decide) ?_
              refine lv_iload hx hb dX3_mergeRuns_63 (lv_at hl 5 rfl) ?_
              refine kn_imul hx hb dX3_mergeRuns_65 ?_
              refine kn_iadd hx hb dX3_mergeRuns_66 ?_
              refine lv_istore (lv' := [(5, .int (nI (lo + (2 * w9)))), (6, .int (nI (min (lo + w9) ((S.1 i).2.2)))), (0, .ref (ad (54 + w))), (1, .ref (ad (3 * i))), (2, .ref (ad (24 + 5 * j))), (3, .int (nI ((S.1 i).2.2))), (4, .int (nI w9))]) hx hb dX3_mergeRuns_67 hl (by decide) rfl (fun ls hl => ?_)
              refine lv_goto (tgt := 24) hx hb dX3_mergeRuns_69 (by decide) ?_
              exact ih24  (r2.1, r2.2.1, r2.2.2) (lo + (2 * w9)) ⟨hr2, by rw [hn2]; omega⟩ (by omega) (mr_step hk9.1 hig hg9 (by omega) hm2) _ _ (by omega) hX _ (lv_sub hl [2, 3, 4, 5, 6, 0] rfl)
        exact loop24 ((S.1 i).2.2 + 1) ((S1.1 (3 + 2 * w)).1, (S1.1 (3 + 2 * w)).2.1, 0) 0 ⟨rowOK_0 hk9.2.2.1, (Nat.zero_min _).symm⟩ (by omega) ⟨⟨0, rfl⟩, by rw [Nat.zero_min]; exact GT.start _ _ _ _⟩ _ _ (by omega) (WX.eqS rfl hX) _ (lv_sub hl [1, 2, 3, 4, 5, 0] rfl)
  exact loop8 (33 + 1) S 1 (keepR_refl hro hgo) (by omega) ⟨SP.refl _ _ _ _, blk_1 _ _ _⟩ _ _ (by omega) (WX.eqS rfl hX) _ (lv_sub hl [2, 3, 4, 1, 0] rfl)
set_option maxHeartbeats 4000000 in
set_option maxRecDepth 100000 in
theorem s_X3_gatherByRank (l : Launch) (dC : Nat → ClassId) (dI : Nat → Nat → Nat) (ad : Nat → Nat) (S : XS) (w i j : Nat) (hw : w < 2) (hi : i < 8) (hj : j < 6) (hro : rowOK (S.1 i)) (ho : ordOK (S.2.1 j)) (hig : i ≠ 3 + 2 * w) (hgo : rowOK (S.1 (3 + 2 * w))) : Met l yX3_gatherByRank wsX3_gatherByRank ({ frames := 2, cells := 0, slots := 0, locals := 46 } : Room) (va_Pc [.ref (ad (54 + w)), .ref (ad (3 * i)), .ref (ad (24 + 5 * j))] (PX dC dI ad S)) (va_Qv (fun S' => keepR S S' i (3 + 2 * w) ∧ SP (S.2.1 j).2.2.1 ((S.1 i).1, (S.1 i).2.1) ((S'.1 i).1, (S'.1 i).2.1) 0 (S.1 i).2.2 ∧ srt (S.2.1 j).2.2.1 (S'.1 i).1 0 (S.1 i).2.2) (PX dC dI ad) (AX ad)) 0 0 (AX ad) := by
  refine Met.ofW (cc := cX3_gatherByRank) (maxL := 5) (ret := none) pl_X3 rfl ?_
  intro p e s m args below meth c s₁ B hml hv
  obtain ⟨rfl, hPX⟩ := hv
  have hx := B.exec
  have hb := B.bytes
  have hr := B.returns
  have hts := atoms_spec (ws := wsX3_gatherByRank) B.pre
  have hown : s.vm.findClass RX3 = some m.cls := findClass_of_methodNamed B.named
  have hlocks := B.notSynchronized
  have hin3 : ∀ w ∈ u_ws RX3 TX3 1, w ∈ wsX3_gatherByRank := tu 1323 (by decide +kernel) rfl
  have hX := WX.of hPX
  have hl := lv_entry ([.ref (ad (54 + w)), .ref (ad (3 * i)), .ref (ad (24 + 5 * j))]) (n := 5) (Nat.le_of_ble_eq_true rfl)
  rw [lg_entry_eq]
  generalize (lg_sl ([.ref (ad (54 + w)), .ref (ad (3 * i)), .ref (ad (24 + 5 * j))]) ++ List.replicate (5 - (lg_sl ([.ref (ad (54 + w)), .ref (ad (3 * i)), .ref (ad (24 + 5 * j))])).length) Slot.unset).toArray = ls at hl ⊢
  have hl : lv_has ls 5 [(0, .ref (ad (54 + w))), (1, .ref (ad (3 * i))), (2, .ref (ad (24 + 5 * j)))] := hl
  show W p l e ({ frames := 2, cells := 0, slots := 0, locals := 46 } : Room) s m ([.ref (ad (54 + w)), .ref (ad (3 * i)), .ref (ad (24 + 5 * j))]).toArray below meth c s.heap [] 0 0 (MQ below (va_Qv (fun S' => keepR S S' i (3 + 2 * w) ∧ SP (S.2.1 j).2.2.1 ((S.1 i).1, (S.1 i).2.1) ((S'.1 i).1, (S'.1 i).2.1) 0 (S.1 i).2.2 ∧ srt (S.2.1 j).2.2.1 (S'.1 i).1 0 (S.1 i).2.2) (PX dC dI ad) (AX ad)) ([.ref (ad (54 + w)), .ref (ad (3 * i)), .ref (ad (24 + 5 * j))]).toArray s 0 0 (AX ad)) (F0 m 0 ls [])
  have hn := hro.1
  have hcl : (S.2.1 j).2.2.2.2.2 ≤ 16 := by rw [ho.2.2.2]; exact classC_le _
  have hrl : ∀ v, v < 16 → (S.2.1 j).2.2.2.1 v < (S.2.1 j).2.2.2.2.2 := fun v hv => by rw [ho.2.2.2, ho.2.2.1 v hv]; exact rank_class _ hv
  refine lv_aload_n hx hb dX3_gatherByRank_0 rfl (lv_at hl 0 rfl) ?_
  refine ks_gg hx hb hts hin3 hown hX hw (hts (.fieldLink RX3 10 "Orderlattice$Sorter" "gathered" "LOrderlattice$Row;") (tm 20 (by decide +kernel) rfl)) dX3_gatherByRank_1 ?_
  refine kx_cv (va_runV (As := []) (rest := []) ⟨hx, hb, hml, hown, hts⟩ (m_X2_empty l dC dI ad S (3 + 2 * w)  (by omega)) (cwV 0 hts gX3_gatherByRank_X2_empty rfl rfl rfl hdX2_empty_0 ⟨Nat.le_of_ble_eq_true rfl, Nat.le_of_ble_eq_true rfl⟩) (hX.preRow (by omega)) rfl rfl hl.1 rfl (lv_room (Nat.le_of_ble_eq_true rfl)) dX3_gatherByRank_4 ⟨Nat.le_of_ble_eq_true rfl, Nat.le_of_ble_eq_true rfl⟩) hX (fun _ h => h) (fun S_ H locs hw hX => ?_)
  subst hw
  refine lv_iconst (v := nI 0) hx hb dX3_gatherByRank_7 (by decide) ?_
  refine lv_istore_n (lv' := [(3, .int (nI 0)), (0, .ref (ad (54 + w))), (1, .ref (ad (3 * i))), (2, .ref (ad (24 + 5 * j)))]) hx hb dX3_gatherByRank_8 rfl hl (by decide) rfl (fun ls hl => ?_)
  have loop9 : ∀ (fuel : Nat) (r : RowS) (rk : Nat) (hr9 : rowOK r ∧ r.2.2 = cntB (fun k => decide ((S.2.1 j).2.2.2.1 ((S.1 i).1 k) < rk)) (S.1 i).2.2) (hrk : rk ≤ (S.2.1 j).2.2.2.2.2) (hga : sg r.1 r.2.1 0 (r.2.2 - 0) = gtr (S.2.1 j).2.2.2.1 (sg (S.1 i).1 (S.1 i).2.1 0 (S.1 i).2.2) rk) (H : Heap) (locs : List Loc), (S.2.1 j).2.2.2.2.2 - rk < fuel → WX dC dI ad (xR S (3 + 2 * w) (r.1, r.2.1, r.2.2)) (AX ad) s H locs → ∀ ls : Array Slot, lv_has ls 5 [(0, .ref (ad (54 + w))), (1, .ref (ad (3 * i))), (2, .ref (ad (24 + 5 * j))), (3, .int (nI rk))] → W p l e ({ frames := 2, cells := 0, slots := 0, locals := 46 } : Room) s m ([.ref (ad (54 + w)), .ref (ad (3 * i)), .ref (ad (24 + 5 * j))]).toArray below meth c H locs 0 0 (MQ below (va_Qv (fun S' => keepR S S' i (3 + 2 * w) ∧ SP (S.2.1 j).2.2.1 ((S.1 i).1, (S.1 i).2.1) ((S'.1 i).1, (S'.1 i).2.1) 0 (S.1 i).2.2 ∧ srt (S.2.1 j).2.2.1 (S'.1 i).1 0 (S.1 i).2.2) (PX dC dI ad) (AX ad)) ([.ref (ad (54 + w)), .ref (ad (3 * i)), .ref (ad (24 + 5 * j))]).toArray s 0 0 (AX ad)) (F0 m 9 ls []) := by
    intro fuel
    induction fuel with
    | zero => intro r rk hr9 hrk hga H locs hf; exact absurd hf (Nat.not_lt_zero _)
    | succ fuel ih9 =>
      intro r rk hr9 hrk hga H locs hf hX ls hl
      refine lv_iload_n hx hb dX3_gatherByRank_9 rfl (lv_at hl 3 rfl) ?_
      refine lv_aload_n hx hb dX3_gatherByRank_10 rfl (lv_at hl 2 rfl) ?_
      refine kx_cr (v := nI ((S.2.1 j).2.2.2.2.2)) (va_runV (As := []) (rest := [.int (nI rk)]) ⟨hx, hb, hml, hown, hts⟩ (m_X1_classCount l dC dI ad (xR S (3 + 2 * w) (r.1, r.2.1, r.2.2)) j  hj) (cwV 0 hts gX3_gatherByRank_X1_classCount rfl rfl rfl hdX1_classCount_0 ⟨Nat.le_of_ble_eq_true rfl, Nat.le_of_ble_eq_true rfl⟩) (hX.preOrd hj) rfl rfl hl.1 rfl (lv_room (Nat.le_of_ble_eq_true rfl)) dX3_gatherByRank_11 ⟨Nat.le_of_ble_eq_true rfl, Nat.le_of_ble_eq_true rfl⟩) (fun _ h => h) ?_
      refine kn_icmp_ge (tgt := 74) hx hb (by omega) (by omega) dX3_gatherByRank_14 (by decide) (fun k_1 => ?_) (fun k_1 => ?_)
      · skip
        have hd := k_1
        have hall : cntB (fun k => decide ((S.2.1 j).2.2.2.1 ((S.1 i).1 k) < (S.2.1 j).2.2.2.2.2)) (S.1 i).2.2 = (S.1 i).2.2 := cntB_all (fun k hk => decide_eq_true (hrl _ (hro.2 k (by omega)).1))
        have hrk : rk = (S.2.1 j).2.2.2.2.2 := by omega
        subst hrk
        have hrk : True := trivial
        obtain ⟨S2, e2⟩ : ∃ z, z = (xR S (3 + 2 * w) (r.1, r.2.1, r.2.2)) := ⟨_, rfl⟩
        replace hX := WX.eqS e2.symm hX
        have hk2 : keepR S S2 i (3 + 2 * w) := by rw [e2]; exact keepR_g (keepR_refl hro hgo) hig hr9.1
        have hg2 : (S2.1 (3 + 2 * w)).2.2 = (S.1 i).2.2 := by rw [e2, xR_row]; show r.2.2 = _; first | omega | (rw [hr9.2, hrk, hall])
        have hl2 : sg (S2.1 (3 + 2 * w)).1 (S2.1 (3 + 2 * w)).2.1 0 (S.1 i).2.2 = gtr (S.2.1 j).2.2.2.1 (sg (S.1 i).1 (S.1 i).2.1 0 (S.1 i).2.2) (S.2.1 j).2.2.2.2.2 := by rw [e2, xR_row]; have h9 := hga; rw [Nat.sub_zero, hr9.2, hall] at h9; exact h9
        have hI2 : ((S2.1 i).1, (S2.1 i).2.1) = ((S.1 i).1, (S.1 i).2.1) := by rw [e2, xR_ne _ _ hig]
        refine lv_aload_n hx hb dX3_gatherByRank_74 rfl (lv_at hl 1 rfl) ?_
        refine lv_aload_n hx hb dX3_gatherByRank_75 rfl (lv_at hl 0 rfl) ?_
        refine ks_gg hx hb hts hin3 hown hX hw (hts (.fieldLink RX3 10 "Orderlattice$Sorter" "gathered" "LOrderlattice$Row;") (tm 20 (by decide +kernel) rfl)) dX3_gatherByRank_76 ?_
        refine kx_cv (va_runV (As := [.ref (ad (3 * (3 + 2 * w)))]) (rest := []) ⟨hx, hb, hml, hown, hts⟩ (m_X2_becomeCopyOf l dC dI ad S2 i (3 + 2 * w) hi (by omega) (by rw [hg2]; omega)) (cwV 1 hts gX3_gatherByRank_X2_becomeCopyOf rfl rfl rfl hdX2_becomeCopyOf_1 ⟨Nat.le_of_ble_eq_true rfl, Nat.le_of_ble_eq_true rfl⟩) (hX.preRow hi) rfl rfl hl.1 rfl (lv_room (Nat.le_of_ble_eq_true rfl)) dX3_gatherByRank_79 ⟨Nat.le_of_ble_eq_true rfl, Nat.le_of_ble_eq_true rfl⟩) hX (fun _ h => h) (fun S_ H locs hw hX => ?_)
        subst hw
        exact W.vret hx hb hr (fun t9 ht9 hW9 => ⟨⟨(xR S2 i (ovl ((S2.1 (3 + 2 * w)).1) ((S2.1 i).1) ((S2.1 (3 + 2 * w)).2.2), ovl ((S2.1 (3 + 2 * w)).2.1) ((S2.1 i).2.1) ((S2.1 (3 + 2 * w)).2.2), (S2.1 (3 + 2 * w)).2.2)), rfl, ⟨keepR_i hk2 hig (rowOK_ovl hk2.2.2.2.1 hk2.2.2.1) hg2, gr_done ho (fun x hx => (hro.2 x (by omega)).1) hl2 hg2 hI2⟩, hX.P ht9 hW9⟩, hX.2.2.2.F ht9⟩) hX.2.2.2.2.2 dX3_gatherByRank_82
      · skip
        have hd := k_1
        refine lv_iconst (v := nI 0) hx hb dX3_gatherByRank_17 (by decide) ?_
        refine lv_istore (lv' := [(4, .int (nI 0)), (0, .ref (ad (54 + w))), (1, .ref (ad (3 * i))), (2, .ref (ad (24 + 5 * j))), (3, .int (nI rk))]) hx hb dX3_gatherByRank_18 hl (by decide) rfl (fun ls hl => ?_)
        have loop20 : ∀ (fuel : Nat) (r : RowS) (q : Nat) (hr9 : rowOK r ∧ r.2.2 = cntB (fun k => decide ((S.2.1 j).2.2.2.1 ((S.1 i).1 k) < rk)) (S.1 i).2.2 + cntB (fun k => decide ((S.2.1 j).2.2.2.1 ((S.1 i).1 k) = rk)) q) (hq : q ≤ (S.1 i).2.2) (hgb : sg r.1 r.2.1 0 (r.2.2 - 0) = gtr (S.2.1 j).2.2.2.1 (sg (S.1 i).1 (S.1 i).2.1 0 (S.1 i).2.2) rk ++ kf (S.2.1 j).2.2.2.1 rk (sg (S.1 i).1 (S.1 i).2.1 0 q)) (H : Heap) (locs : List Loc), (S.1 i).2.2 - q < fuel → WX dC dI ad (xR S (3 + 2 * w) (r.1, r.2.1, r.2.2)) (AX ad) s H locs → ∀ ls : Array Slot, lv_has ls 5 [(0, .ref (ad (54 + w))), (1, .ref (ad (3 * i))), (2, .ref (ad (24 + 5 * j))), (3, .int (nI rk)), (4, .int (nI q))] → W p l e ({ frames := 2, cells := 0, slots := 0, locals := 46 } : Room) s m ([.ref (ad (54 + w)), .ref (ad (3 * i)), .ref (ad (24 + 5 * j))]).toArray below meth c H locs 0 0 (MQ below (va_Qv (fun S' => keepR S S' i (3 + 2 * w) ∧ SP (S.2.1 j).2.2.1 ((S.1 i).1, (S.1 i).2.1) ((S'.1 i).1, (S'.1 i).2.1) 0 (S.1 i).2.2 ∧ srt (S.2.1 j).2.2.1 (S'.1 i).1 0 (S.1 i).2.2) (PX dC dI ad) (AX ad)) ([.ref (ad (54 + w)), .ref (ad (3 * i)), .ref (ad (24 + 5 * j))]).toArray s 0 0 (AX ad)) (F0 m 20 ls []) := by
          intro fuel
          induction fuel with
          | zero => intro r q hr9 hq hgb H locs hf; exact absurd hf (Nat.not_lt_zero _)
          | succ fuel ih20 =>
            intro r q hr9 hq hgb H locs hf hX ls hl
            refine lv_iload hx hb dX3_gatherByRank_20 (lv_at hl 4 rfl) ?_
            refine lv_aload_n hx hb dX3_gatherByRank_22 rfl (lv_at hl 1 rfl) ?_
            refine kx_cr (v := nI ((S.1 i).2.2)) (va_runV (As := []) (rest := [.int (nI q)]) ⟨hx, hb, hml, hown, hts⟩ (m_X2_length l dC dI ad (xR S (3 + 2 * w) (r.1, r.2.1, r.2.2)) i hi) (cwV 0 hts gX3_gatherByRank_X2_length rfl rfl rfl hdX2_length_0 ⟨Nat.le_of_ble_eq_true rfl, Nat.le_of_ble_eq_true rfl⟩) (hX.preRow hi) rfl rfl hl.1 rfl (lv_room (Nat.le_of_ble_eq_true rfl)) dX3_gatherByRank_23 ⟨Nat.le_of_ble_eq_true rfl, Nat.le_of_ble_eq_true rfl⟩) (fun _ h => by rw [h, xR_ne _ _ hig]) ?_
            refine kn_icmp_ge (tgt := 68) hx hb (by omega) (by omega) dX3_gatherByRank_26 (by decide) (fun k_2 => ?_) (fun k_2 => ?_)
            · skip
              refine lv_iinc (v := nI (rk + 1)) (lv' := [(3, .int (nI (rk + 1))), (0, .ref (ad (54 + w))), (1, .ref (ad (3 * i))), (2, .ref (ad (24 + 5 * j))), (4, .int (nI q))]) hx hb dX3_gatherByRank_68 hl (k := 3) rfl (nI_1 rk) (by decide) rfl (fun ls hl => ?_)
              refine lv_goto (tgt := 9) hx hb dX3_gatherByRank_71 (by decide) ?_
              exact ih9  r (rk + 1) ⟨hr9.1, by rw [hr9.2, show q = (S.1 i).2.2 by omega]; exact cnt_lt_s _ _ _⟩ (by omega) (by have h8 := hgb; rw [show q = (S.1 i).2.2 by omega] at h8; exact h8) _ _ (by omega) hX _ (lv_sub hl [1, 2, 3, 0] rfl)
            · skip
              refine lv_aload_n hx hb dX3_gatherByRank_29 rfl (lv_at hl 2 rfl) ?_
              refine lv_aload_n hx hb dX3_gatherByRank_30 rfl (lv_at hl 1 rfl) ?_
              refine lv_iload hx hb dX3_gatherByRank_31 (lv_at hl 4 rfl) ?_
              refine kx_cr (v := nI ((S.1 i).1 q)) (va_runV (As := [.int (nI q)]) (rest := [.ref (ad (24 + 5 * j))]) ⟨hx, hb, hml, hown, hts⟩ (m_X2_valueOn l dC dI ad (xR S (3 + 2 * w) (r.1, r.2.1, r.2.2)) i q hi (by omega)) (cwV 1 hts gX3_gatherByRank_X2_valueOn rfl rfl rfl hdX2_valueOn_1 ⟨Nat.le_of_ble_eq_true rfl, Nat.le_of_ble_eq_true rfl⟩) (hX.preRow hi) rfl rfl hl.1 rfl (lv_room (Nat.le_of_ble_eq_true rfl)) dX3_gatherByRank_33 ⟨Nat.le_of_ble_eq_true rfl, Nat.le_of_ble_eq_true rfl⟩) (fun _ h => by rw [h, xR_ne _ _ hig]) ?_
              refine kx_cr (v := nI ((S.2.1 j).2.2.2.1 ((S.1 i).1 q))) (va_runV (As := [.int (nI ((S.1 i).1 q))]) (rest := []) ⟨hx, hb, hml, hown, hts⟩ (m_X1_rankOf l dC dI ad (xR S (3 + 2 * w) (r.1, r.2.1, r.2.2)) j ((S.1 i).1 q) hj (hro.2 _ (by omega)).1) (cwV 1 hts gX3_gatherByRank_X1_rankOf rfl rfl rfl hdX1_rankOf_1 ⟨Nat.le_of_ble_eq_true rfl, Nat.le_of_ble_eq_true rfl⟩) (hX.preOrd hj) rfl rfl hl.1 rfl (lv_room (Nat.le_of_ble_eq_true rfl)) dX3_gatherByRank_36 ⟨Nat.le_of_ble_eq_true rfl, Nat.le_of_ble_eq_true rfl⟩) (fun _ h => h) ?_
              refine lv_iload_n hx hb dX3_gatherByRank_39 rfl (lv_at hl 3 rfl) ?_
              have h1 := hrl ((S.1 i).1 q) (hro.2 q (by omega)).1
              refine kn_icmp_ne (tgt := 62) hx hb (by omega) (by omega) dX3_gatherByRank_40 (by decide) (fun k_3 => ?_) (fun k_3 => ?_)
              · skip
                have hc := k_3
                refine lv_iinc (v := nI (q + 1)) (lv' := [(4, .int (nI (q + 1))), (0, .ref (ad (54 + w))), (1, .ref (ad (3 * i))), (2, .ref (ad (24 + 5 * j))), (3, .int (nI rk))]) hx hb dX3_gatherByRank_62 hl (k := 4) rfl (nI_1 q) (by decide) rfl (fun ls hl => ?_)
                refine lv_goto (tgt := 20) hx hb dX3_gatherByRank_65 (by decide) ?_
                exact ih20  r (q + 1) ⟨hr9.1, by rw [hr9.2, cntB_f (p := (fun k => decide ((S.2.1 j).2.2.2.1 ((S.1 i).1 k) = rk))) (decide_eq_false hc)]⟩ (by omega) (by rw [hgb, sg_s, kf_app, Nat.zero_add, kf_f (l := []) hc, kf_nil, List.append_nil]) _ _ (by omega) hX _ (lv_sub hl [1, 2, 3, 4, 0] rfl)
              · skip
                have hc := k_3
                refine lv_aload_n hx hb dX3_gatherByRank_43 rfl (lv_at hl 0 rfl) ?_
                refine ks_gg hx hb hts hin3 hown hX hw (hts (.fieldLink RX3 10 "Orderlattice$Sorter" "gathered" "LOrderlattice$Row;") (tm 20 (by decide +kernel) rfl)) dX3_gatherByRank_44 ?_
                refine lv_aload_n hx hb dX3_gatherByRank_47 rfl (lv_at hl 1 rfl) ?_
                refine lv_iload hx hb dX3_gatherByRank_48 (lv_at hl 4 rfl) ?_
                refine kx_cr (v := nI ((S.1 i).1 q)) (va_runV (As := [.int (nI q)]) (rest := [.ref (ad (3 * (3 + 2 * w)))]) ⟨hx, hb, hml, hown, hts⟩ (m_X2_valueOn l dC dI ad (xR S (3 + 2 * w) (r.1, r.2.1, r.2.2)) i q hi (by omega)) (cwV 1 hts gX3_gatherByRank_X2_valueOn rfl rfl rfl hdX2_valueOn_1 ⟨Nat.le_of_ble_eq_true rfl, Nat.le_of_ble_eq_true rfl⟩) (hX.preRow hi) rfl rfl hl.1 rfl (lv_room (Nat.le_of_ble_eq_true rfl)) dX3_gatherByRank_50 ⟨Nat.le_of_ble_eq_true rfl, Nat.le_of_ble_eq_true rfl⟩) (fun _ h => by rw [h, xR_ne _ _ hig]) ?_
                refine lv_aload_n hx hb dX3_gatherByRank_53 rfl (lv_at hl 1 rfl) ?_
                refine lv_iload hx hb dX3_gatherByRank_54 (lv_at hl 4 rfl) ?_
                refine kx_cr (v := nI ((S.1 i).2.1 q)) (va_runV (As := [.int (nI q)]) (rest := [.int (nI ((S.1 i).1 q)), .ref (ad (3 * (3 + 2 * w)))]) ⟨hx, hb, hml, hown, hts⟩ (m_X2_markOn l dC dI ad (xR S (3 + 2 * w) (r.1, r.2.1, r.2.2)) i q hi (by omega)) (cwV 1 hts gX3_gatherByRank_X2_markOn rfl rfl rfl hdX2_markOn_1 ⟨Nat.le_of_ble_eq_true rfl, Nat.le_of_ble_eq_true rfl⟩) (hX.preRow hi) rfl rfl hl.1 rfl (lv_room (Nat.le_of_ble_eq_true rfl)) dX3_gatherByRank_56 ⟨Nat.le_of_ble_eq_true rfl, Nat.le_of_ble_eq_true rfl⟩) (fun _ h => by rw [h, xR_ne _ _ hig]) ?_
                refine kx_cv (va_runV (As := [.int (nI ((S.1 i).1 q)), .int (nI ((S.1 i).2.1 q))]) (rest := []) ⟨hx, hb, hml, hown, hts⟩ (m_X2_append l dC dI ad (xR S (3 + 2 * w) (r.1, r.2.1, r.2.2)) (3 + 2 * w) ((S.1 i).1 q) ((S.1 i).2.1 q) (by omega) (by rw [xR_row]; show r.2.2 < 16; have := cnt_room (p := (fun k => decide ((S.2.1 j).2.2.2.1 ((S.1 i).1 k) < rk))) (p2 := (fun k => decide ((S.2.1 j).2.2.2.1 ((S.1 i).1 k) = rk))) (fun k h1 h2 => by have := of_decide_eq_true h1; have := of_decide_eq_true h2; omega) (show q < (S.1 i).2.2 by omega) (decide_eq_true hc); omega)) (cwV 2 hts gX3_gatherByRank_X2_append rfl rfl rfl hdX2_append_2 ⟨Nat.le_of_ble_eq_true rfl, Nat.le_of_ble_eq_true rfl⟩) (hX.preRow (by omega)) rfl rfl hl.1 rfl (lv_room (Nat.le_of_ble_eq_true rfl)) dX3_gatherByRank_59 ⟨Nat.le_of_ble_eq_true rfl, Nat.le_of_ble_eq_true rfl⟩) hX (fun _ h => h) (fun S_ H locs hw hX => ?_)
                rw [xR_row, xR_xR] at hw
                subst hw
                refine lv_iinc (v := nI (q + 1)) (lv' := [(4, .int (nI (q + 1))), (0, .ref (ad (54 + w))), (1, .ref (ad (3 * i))), (2, .ref (ad (24 + 5 * j))), (3, .int (nI rk))]) hx hb dX3_gatherByRank_62 hl (k := 4) rfl (nI_1 q) (by decide) rfl (fun ls hl => ?_)
                refine lv_goto (tgt := 20) hx hb dX3_gatherByRank_65 (by decide) ?_
                exact ih20  (va_up r.1 r.2.2 ((S.1 i).1 q), va_up r.2.1 r.2.2 ((S.1 i).2.1 q), r.2.2 + 1) (q + 1) ⟨rowOK_app hr9.1 (by have := cnt_room (p := (fun k => decide ((S.2.1 j).2.2.2.1 ((S.1 i).1 k) < rk))) (p2 := (fun k => decide ((S.2.1 j).2.2.2.1 ((S.1 i).1 k) = rk))) (fun k h1 h2 => by have := of_decide_eq_true h1; have := of_decide_eq_true h2; omega) (show q < (S.1 i).2.2 by omega) (decide_eq_true hc); omega) (hro.2 _ (by omega)).1 (hro.2 _ (by omega)).2, by show r.2.2 + 1 = _; rw [hr9.2, cntB_t (p := (fun k => decide ((S.2.1 j).2.2.2.1 ((S.1 i).1 k) = rk))) (decide_eq_true hc)]; omega⟩ (by omega) (by show sg (va_up r.1 r.2.2 _) (va_up r.2.1 r.2.2 _) 0 (r.2.2 + 1 - 0) = _; have h8 := hgb; rw [Nat.sub_zero] at h8; rw [sg_up (Nat.zero_le _), Nat.sub_zero, h8, sg_s, kf_app, Nat.zero_add, kf_t (l := []) hc, kf_nil, List.append_assoc]) _ _ (by omega) hX _ (lv_sub hl [1, 2, 3, 4, 0] rfl)
        exact loop20 ((S.1 i).2.2 + 1) r 0 ⟨hr9.1, hr9.2⟩ (by omega) (by rw [hga]; exact (List.append_nil _).symm) _ _ (by omega) (WX.eqS rfl hX) _ (lv_sub hl [1, 2, 3, 4, 0] rfl)
  exact loop9 ((S.2.1 j).2.2.2.2.2 + 1) ((S.1 (3 + 2 * w)).1, (S.1 (3 + 2 * w)).2.1, 0) 0 ⟨rowOK_0 hgo, (cntB_none (fun k _ => decide_eq_false (by omega))).symm⟩ (by omega) rfl _ _ (by omega) (WX.eqS rfl hX) _ (lv_sub hl [1, 2, 3, 0] rfl)
set_option maxHeartbeats 4000000 in
set_option maxRecDepth 100000 in
theorem s_X3_arrangeAll (l : Launch) (dC : Nat → ClassId) (dI : Nat → Nat → Nat) (ad : Nat → Nat) (S : XS) (w i j y9 : Nat) (hw : w < 2) (hi : i < 8) (hj : j < 6) (hro : rowOK (S.1 i)) (ho : ordOK (S.2.1 j)) (hig : i ≠ 3 + 2 * w) (hgo : rowOK (S.1 (3 + 2 * w))) (hy : y9 < 3) : Met l yX3_arrangeAll wsX3_arrangeAll ({ frames := 3, cells := 0, slots := 0, locals := 82 } : Room) (va_Pc [.ref (ad (54 + w)), .ref (ad (3 * i)), .ref (ad (24 + 5 * j)), .int (nI y9)] (PX dC dI ad S)) (va_Qv (fun S' => keepR S S' i (3 + 2 * w) ∧ SP (S.2.1 j).2.2.1 ((S.1 i).1, (S.1 i).2.1) ((S'.1 i).1, (S'.1 i).2.1) 0 (S.1 i).2.2 ∧ srt (S.2.1 j).2.2.1 (S'.1 i).1 0 (S.1 i).2.2) (PX dC dI ad) (AX ad)) 0 0 (AX ad) := by
  refine Met.ofW (cc := cX3_arrangeAll) (maxL := 4) (ret := none) pl_X3 rfl ?_
  intro p e s m args below meth c s₁ B hml hv
  obtain ⟨rfl, hPX⟩ := hv
  have hx := B.exec
  have hb := B.bytes
  have hr := B.returns
  have hts := atoms_spec (ws := wsX3_arrangeAll) B.pre
  have hown : s.vm.findClass RX3 = some m.cls := findClass_of_methodNamed B.named
  have hlocks := B.notSynchronized
  have hX := WX.of hPX
  have hl := lv_entry ([.ref (ad (54 + w)), .ref (ad (3 * i)), .ref (ad (24 + 5 * j)), .int (nI y9)]) (n := 4) (Nat.le_of_ble_eq_true rfl)
  rw [lg_entry_eq]
  generalize (lg_sl ([.ref (ad (54 + w)), .ref (ad (3 * i)), .ref (ad (24 + 5 * j)), .int (nI y9)]) ++ List.replicate (4 - (lg_sl ([.ref (ad (54 + w)), .ref (ad (3 * i)), .ref (ad (24 + 5 * j)), .int (nI y9)])).length) Slot.unset).toArray = ls at hl ⊢
  have hl : lv_has ls 4 [(0, .ref (ad (54 + w))), (1, .ref (ad (3 * i))), (2, .ref (ad (24 + 5 * j))), (3, .int (nI y9))] := hl
  show W p l e ({ frames := 3, cells := 0, slots := 0, locals := 82 } : Room) s m ([.ref (ad (54 + w)), .ref (ad (3 * i)), .ref (ad (24 + 5 * j)), .int (nI y9)]).toArray below meth c s.heap [] 0 0 (MQ below (va_Qv (fun S' => keepR S S' i (3 + 2 * w) ∧ SP (S.2.1 j).2.2.1 ((S.1 i).1, (S.1 i).2.1) ((S'.1 i).1, (S'.1 i).2.1) 0 (S.1 i).2.2 ∧ srt (S.2.1 j).2.2.1 (S'.1 i).1 0 (S.1 i).2.2) (PX dC dI ad) (AX ad)) ([.ref (ad (54 + w)), .ref (ad (3 * i)), .ref (ad (24 + 5 * j)), .int (nI y9)]).toArray s 0 0 (AX ad)) (F0 m 0 ls [])
  rcases (show y9 = 0 ∨ y9 = 1 ∨ y9 = 2 by omega) with rfl | rfl | rfl
  · skip
    have hl : lv_has ls 4 [(0, .ref (ad (54 + w))), (1, .ref (ad (3 * i))), (2, .ref (ad (24 + 5 * j))), (3, .int (nI 0))] := hl
    refine lv_iload_n hx hb dX3_arrangeAll_0 rfl (lv_at hl 3 rfl) ?_
    refine lv_lookup (x := nI 0) (off := 27) (tgt := 28) hx hb dX3_arrangeAll_1 (by decide) (by decide) (by decide) ?_
    refine lv_aload_n hx hb dX3_arrangeAll_28 rfl (lv_at hl 0 rfl) ?_
    refine lv_aload_n hx hb dX3_arrangeAll_29 rfl (lv_at hl 1 rfl) ?_
    refine lv_aload_n hx hb dX3_arrangeAll_30 rfl (lv_at hl 2 rfl) ?_
    refine lv_iconst (v := nI 0) hx hb dX3_arrangeAll_31 (by decide) ?_
    refine lv_aload_n hx hb dX3_arrangeAll_32 rfl (lv_at hl 1 rfl) ?_
    refine kx_cr (v := nI ((S.1 i).2.2)) (va_runV (As := []) (rest := [.int (nI 0), .ref (ad (24 + 5 * j)), .ref (ad (3 * i)), .ref (ad (54 + w))]) ⟨hx, hb, hml, hown, hts⟩ (m_X2_length l dC dI ad S i hi) (cwV 0 hts gX3_arrangeAll_X2_length rfl rfl rfl hdX2_length_0 ⟨Nat.le_of_ble_eq_true rfl, Nat.le_of_ble_eq_true rfl⟩) (hX.preRow hi) rfl rfl hl.1 rfl (lv_room (Nat.le_of_ble_eq_true rfl)) dX3_arrangeAll_33 ⟨Nat.le_of_ble_eq_true rfl, Nat.le_of_ble_eq_true rfl⟩) (fun _ h => h) ?_
    refine kx_cv (va_runV (As := [.ref (ad (3 * i)), .ref (ad (24 + 5 * j)), .int (nI 0), .int (nI ((S.1 i).2.2))]) (rest := []) ⟨hx, hb, hml, hown, hts⟩ (s_X3_insertEach l dC dI ad S w i j 0 ((S.1 i).2.2) hw hi hj hro ho (Nat.zero_le _) (Nat.le_refl _)) (cwV 4 hts gX3_arrangeAll_X3_insertEach rfl rfl rfl hdX3_insertEach_4 ⟨Nat.le_of_ble_eq_true rfl, Nat.le_of_ble_eq_true rfl⟩) (hX.preSor hw) rfl rfl hl.1 rfl (lv_room (Nat.le_of_ble_eq_true rfl)) dX3_arrangeAll_36 ⟨Nat.le_of_ble_eq_true rfl, Nat.le_of_ble_eq_true rfl⟩) hX (fun _ h => h) (fun S_ H locs hw hX => ?_)
    obtain ⟨r2, hw, hr2, hn2, hs2, ht2⟩ := hw
    subst hw
    refine lv_goto (tgt := 57) hx hb dX3_arrangeAll_39 (by decide) ?_
    exact W.vret hx hb hr (fun t9 ht9 hW9 => ⟨⟨(xR S i (r2.1, r2.2.1, r2.2.2)), rfl, ⟨keepR_i (keepR_refl hro hgo) hig hr2 hn2, by rw [xR_row]; exact ⟨hs2, ht2⟩⟩, hX.P ht9 hW9⟩, hX.2.2.2.F ht9⟩) hX.2.2.2.2.2 dX3_arrangeAll_57
  · skip
    have hl : lv_has ls 4 [(0, .ref (ad (54 + w))), (1, .ref (ad (3 * i))), (2, .ref (ad (24 + 5 * j))), (3, .int (nI 1))] := hl
    refine lv_iload_n hx hb dX3_arrangeAll_0 rfl (lv_at hl 3 rfl) ?_
    refine lv_lookup (x := nI 1) (off := 41) (tgt := 42) hx hb dX3_arrangeAll_1 (by decide) (by decide) (by decide) ?_
    refine lv_aload_n hx hb dX3_arrangeAll_42 rfl (lv_at hl 0 rfl) ?_
    refine lv_aload_n hx hb dX3_arrangeAll_43 rfl (lv_at hl 1 rfl) ?_
    refine lv_aload_n hx hb dX3_arrangeAll_44 rfl (lv_at hl 2 rfl) ?_
    refine kx_cv (va_runV (As := [.ref (ad (3 * i)), .ref (ad (24 + 5 * j))]) (rest := []) ⟨hx, hb, hml, hown, hts⟩ (s_X3_mergeRuns l dC dI ad S w i j hw hi hj hro ho hig hgo) (cwV 2 hts gX3_arrangeAll_X3_mergeRuns rfl rfl rfl hdX3_mergeRuns_2 ⟨Nat.le_of_ble_eq_true rfl, Nat.le_of_ble_eq_true rfl⟩) (hX.preSor hw) rfl rfl hl.1 rfl (lv_room (Nat.le_of_ble_eq_true rfl)) dX3_arrangeAll_45 ⟨Nat.le_of_ble_eq_true rfl, Nat.le_of_ble_eq_true rfl⟩) hX (fun _ h => h) (fun S_ H locs hw hX => ?_)
    refine lv_goto (tgt := 57) hx hb dX3_arrangeAll_48 (by decide) ?_
    exact W.vret hx hb hr (fun t9 ht9 hW9 => ⟨⟨S_, rfl, hw, hX.P ht9 hW9⟩, hX.2.2.2.F ht9⟩) hX.2.2.2.2.2 dX3_arrangeAll_57
  · skip
    have hl : lv_has ls 4 [(0, .ref (ad (54 + w))), (1, .ref (ad (3 * i))), (2, .ref (ad (24 + 5 * j))), (3, .int (nI 2))] := hl
    refine lv_iload_n hx hb dX3_arrangeAll_0 rfl (lv_at hl 3 rfl) ?_
    refine lv_lookup (x := nI 2) (off := 50) (tgt := 51) hx hb dX3_arrangeAll_1 (by decide) (by decide) (by decide) ?_
    refine lv_aload_n hx hb dX3_arrangeAll_51 rfl (lv_at hl 0 rfl) ?_
    refine lv_aload_n hx hb dX3_arrangeAll_52 rfl (lv_at hl 1 rfl) ?_
    refine lv_aload_n hx hb dX3_arrangeAll_53 rfl (lv_at hl 2 rfl) ?_
    refine kx_cv (va_runV (As := [.ref (ad (3 * i)), .ref (ad (24 + 5 * j))]) (rest := []) ⟨hx, hb, hml, hown, hts⟩ (s_X3_gatherByRank l dC dI ad S w i j hw hi hj hro ho hig hgo) (cwV 2 hts gX3_arrangeAll_X3_gatherByRank rfl rfl rfl hdX3_gatherByRank_2 ⟨Nat.le_of_ble_eq_true rfl, Nat.le_of_ble_eq_true rfl⟩) (hX.preSor hw) rfl rfl hl.1 rfl (lv_room (Nat.le_of_ble_eq_true rfl)) dX3_arrangeAll_54 ⟨Nat.le_of_ble_eq_true rfl, Nat.le_of_ble_eq_true rfl⟩) hX (fun _ h => h) (fun S_ H locs hw hX => ?_)
    exact W.vret hx hb hr (fun t9 ht9 hW9 => ⟨⟨S_, rfl, hw, hX.P ht9 hW9⟩, hX.2.2.2.F ht9⟩) hX.2.2.2.2.2 dX3_arrangeAll_57
