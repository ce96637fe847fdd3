/-! the law's premises: words of the tables, statics, constants -/
theorem sel_sub {C : String} {y y2 : MethodName} {args : Array Value} {s : State} (hcls : y2.cls = y.cls) (hy : y.cls ≠ "java/lang/invoke/MethodHandle" ∧ y.cls ≠ "java/lang/invoke/VarHandle") (h2 : (Cond.selects C y2 y2).before args s = true) (hpriv : (Cond.privateMethod y).before args s = true) (hinst : (Cond.instanceMethod y).before args s = true) : (Cond.selects C y y).before args s = true := by
  obtain ⟨mk, methM, hnamed, hmethM, -, -⟩ := Cond.instanceMethod_spec hinst
  have hfound : s.methodFound? y.cls y.name y.desc = some mk := State.methodFound?_of_named hnamed hy
  simp only [Cond.before, Cond.holds, Cond.value] at h2 ⊢
  cases hc : s.vm.findClass C with
  | none => simp [hc] at h2
  | some c =>
    have hsel : selectMethod {} s.vm c mk = .method mk := selectMethod_private hmethM (Cond.privateMethod_at hpriv mk methM hnamed hmethM)
    cases hf2 : s.methodFound? y2.cls y2.name y2.desc with
    | none => simp [hc, hf2] at h2
    | some r2 =>
      cases hn2 : s.methodNamed? y2 with
      | none => simp [hc, hf2, hn2] at h2
      | some m2 =>
        have e : m2.cls = mk.cls := by
          have a := findClass_of_methodNamed hn2
          have b := findClass_of_methodNamed hnamed
          rw [hcls] at a
          exact Option.some.inj (a.symm.trans b)
        simp only [hc, hf2, hn2] at h2
        have h3 : (s.vm.classes[m2.cls]?).any (fun k => !k.isInterface) = true := by
          generalize selectMethod {} s.vm c r2 = sel at h2
          cases sel with
          | method m' =>
            simp only [beq_iff_eq, Option.some.injEq, Bool.and_eq_true] at h2
            exact h2.2
          | _ => simp at h2
        rw [e] at h3
        simp only [hfound, hnamed, hsel]
        simp only [h3, decide_true, Bool.and_self, beq_self_eq_true]
theorem sv_of {args : Array Value} {s : State} {k : Nat} {tx : String} (bs : List Int32) (h1 : (Cond.stringRef RX6 k tx).before args s = true) (hex : (Cond.exactly (.string RX6 k) "java/lang/String").before args s = true) (hco : (Cond.eq (.field (.string RX6 k) "java/lang/String" "coder" "B") (.int 0)).before args s = true)
    (har : (Cond.arrayOf (.field (.string RX6 k) "java/lang/String" "value" "[B") .byte).before args s = true) (hle : (Cond.eq (.length (.field (.string RX6 k) "java/lang/String" "value" "[B")) (.int (Int32.ofNat bs.length))).before args s = true)
    (hel : ∀ j : Nat, j < bs.length → (Cond.eq (.elem (.field (.string RX6 k) "java/lang/String" "value" "[B") (.int (Int32.ofNat j))) (.int (bs.getD j 0))).before args s = true) (hfit : ∀ j : Nat, j < bs.length → fits .byte (.int (bs.getD j 0)) = true) (hN : bs.length < 1000) :
    ∃ a, vk_R RX6 k tx a s ∧ SV (zB s.heap.size) a bs.length s s.heap := by
  obtain ⟨adK, adV, h, he⟩ := vk_Sof (N := 1) (tm := fun _ => .string RX6 k) (len := [bs.length]) (byt := [bs]) (A := zB s.heap.size) (args := args) (s := s) (fun i hi => by cases Nat.lt_one_iff.mp hi; exact (Nat.lt_trans hN (by decide) : bs.length < 2 ^ 31)) (fun i _ => hex) (fun i _ => hco) (fun i _ => har) (fun i hi => by cases Nat.lt_one_iff.mp hi; exact hle) (fun i hi j hj => by cases Nat.lt_one_iff.mp hi; exact hel j hj) (fun i j hi hj hne => absurd (by omega) hne) (fun a ha z => Nat.not_le.mpr ha z)
  obtain ⟨q1, q2, q3, q4⟩ := h.1 0 (by omega)
  exact ⟨adK 0, vk_R.of h1 (he 0 (by omega)), q1, q2, adV 0, _, q3, q4, hfit⟩
theorem str_R {args : Array Value} {s : State} {own tx : String} {k : Nat} (h1 : (Cond.stringRef own k tx).before args s = true) (h2 : (Cond.exactly (.string own k) "java/lang/String").before args s = true) : ∃ a, vk_R own k tx a s := by
  obtain ⟨a, c, cA, kA, q1, -⟩ := Cond.exactly_spec (args := args) (first := s) (o := none) (s := s) (idx := []) (t := .string own k) (cls := "java/lang/String") h2
  exact ⟨a, vk_R.of h1 q1⟩
def lw_ext : List Cond := [.selects RJ4 yJ5_ensureCapacityInternal_d00df yJ5_ensureCapacityInternal_d00df, .selects RJ4 yJ5_newCapacity_0f7a4 yJ5_newCapacity_0f7a4, .selects RJ4 yJ5_inflate_da8c8 yJ5_inflate_da8c8, .selects RJ4 yJ5_appendNull_278bc yJ5_appendNull_278bc, .selects RJ4 yJ5_putStringAt_47b60 yJ5_putStringAt_47b60, .selects RJ4 yJ5_inflateIfNeededFor_a7421 yJ5_inflateIfNeededFor_a7421]
theorem lw_ext_ok {args : Array Value} {s : State} (hts : ∀ w ∈ lw_tbl, w.before args s = true) : ∀ w ∈ lw_tbl ++ lw_ext, w.before args s = true := by
  intro w hw
  rcases List.mem_append.mp hw with hw | hw
  · exact hts w hw
  · have k : ∀ y : MethodName, yJ5_isLatin1_aae02.cls = y.cls → (y.cls ≠ "java/lang/invoke/MethodHandle" ∧ y.cls ≠ "java/lang/invoke/VarHandle") → Cond.privateMethod y ∈ lw_tbl → Cond.instanceMethod y ∈ lw_tbl → (Cond.selects RJ4 y y).before args s = true :=
      fun y h1 h2 h3 h4 => sel_sub h1 h2 (hts (.selects RJ4 yJ5_isLatin1_aae02 yJ5_isLatin1_aae02) (by decide +kernel)) (hts _ h3) (hts _ h4)
    simp only [lw_ext, List.mem_cons, List.not_mem_nil, or_false] at hw
    rcases hw with rfl | rfl | rfl | rfl | rfl | rfl
    · exact k yJ5_ensureCapacityInternal_d00df rfl (by decide +kernel) (by decide +kernel) (by decide +kernel)
    · exact k yJ5_newCapacity_0f7a4 rfl (by decide +kernel) (by decide +kernel) (by decide +kernel)
    · exact k yJ5_inflate_da8c8 rfl (by decide +kernel) (by decide +kernel) (by decide +kernel)
    · exact k yJ5_appendNull_278bc rfl (by decide +kernel) (by decide +kernel) (by decide +kernel)
    · exact k yJ5_putStringAt_47b60 rfl (by decide +kernel) (by decide +kernel) (by decide +kernel)
    · exact k yJ5_inflateIfNeededFor_a7421 rfl (by decide +kernel) (by decide +kernel) (by decide +kernel)
theorem wsL_law_in0 : ∀ w ∈ wsL_law0, w ∈ lw_tbl ++ lw_ext := by sorry
theorem wsL_law_x0 : ∀ w ∈ (vx_atS RX4 306 "java/lang/IndexOutOfBoundsException" ["java/lang/RuntimeException", "java/lang/Exception"]).filter goodWord, w ∈ lw_tbl := by decide +kernel
theorem wsL_law_x1 : ∀ w ∈ (vx_atS RX4 140 "java/lang/IllegalArgumentException" ["java/lang/RuntimeException", "java/lang/Exception"]).filter goodWord, w ∈ lw_tbl := by decide +kernel
theorem wsL_law_ok {args : Array Value} {s : State} (hts : ∀ w ∈ lw_tbl, w.before args s = true) : ∀ w ∈ wsL_law, w.before args s = true := fun w h => by
  have h0 := lw_ext_ok hts
  rcases List.mem_append.mp h with h | h
  · rcases List.mem_append.mp h with h | h
    · exact h0 w (wsL_law_in0 w h)
    · exact hts w (wsL_law_x0 w h)
  · exact hts w (wsL_law_x1 w h)
