theorem zvA_is (a : Nat) : zvA (.ref a) = decide (a ≠ 7) := by
  show (!(Nat.beq a 7)) = _
  by_cases h : a = 7
  · subst h; rfl
  · have h1 : Nat.beq a 7 = false := by
      cases hb : Nat.beq a 7 with
      | false => rfl
      | true => exact absurd (Nat.eq_of_beq_eq_true hb) h
    rw [h1, decide_eq_true h]
    rfl
theorem zI10 : ((1 : Int32) = 0) = False := by decide
theorem zI01 : ((0 : Int32) = 1) = False := by decide
/-! simple tests of the class -/
theorem c_isBelow {d : Nat} {h : zH} {Q : Option Value → zH → Prop} (x y : Int32) : zR d 125 0 (ze [.int x, .int y] 0) [] h Q = Q (some (.int (if 0 ≤ x ∧ x < y then 1 else 0))) h := by
  simp only [s_125_0, s_125_1, s_125_4, s_125_5, s_125_6, s_125_9, s_125_10, s_125_13, s_125_14, ze, z1, z2, zvI_int, zvJ_long, zvA_is, zvi_int, cat_int, cat_ref, cat_long, zcs_nil, zcs_cons, Nat.reduceAdd, Nat.reduceLeDiff, Nat.reduceEqDiff, reduceIte, Option.toList_some, Option.toList_none, List.nil_append, List.cons_append, decide_true, decide_false, Bool.or_true, Bool.true_or, Bool.or_false, Bool.or_self, Bool.not_false, ne_eq, not_false_eq_true, not_true_eq_false, eq_self, and_true, true_and, and_false, false_and, zI10, zI01]
  by_cases h1 : x < 0
  · rw [if_pos h1, if_neg (fun q => absurd (Int32.le_iff_toInt_le.mp q.1) (by have := Int32.lt_iff_toInt_lt.mp h1; omega))]
  · rw [if_neg h1]
    by_cases h2 : y ≤ x
    · rw [if_pos h2, if_neg (fun q => absurd (Int32.lt_iff_toInt_lt.mp q.2) (by have := Int32.le_iff_toInt_le.mp h2; omega))]
    · rw [if_neg h2, if_pos ⟨Int32.not_lt.mp h1, Int32.not_le.mp h2⟩]
theorem c_hasEvent {d L : Nat} {s : zG} {Q : Option Value → zH → Prop} (x : Int32) : zR (d + 1) 40 0 (ze [.ref 23, .int x] 0) [] (zv L s) Q = Q (some (.int (if 0 ≤ x ∧ x < s.1 23 2 then 1 else 0))) (zv L s) := by
  simp only [s_40_0, s_40_1, s_40_2, s_40_2d, s_40_5, s_40_8, c_isBelow, ze, z1, z2, zvI_int, zvJ_long, zvA_is, zvi_int, cat_int, cat_ref, cat_long, zcs_nil, zcs_cons, Nat.reduceAdd, Nat.reduceLeDiff, Nat.reduceEqDiff, reduceIte, Option.toList_some, Option.toList_none, List.nil_append, List.cons_append, decide_true, decide_false, Bool.or_true, Bool.true_or, Bool.or_false, Bool.or_self, Bool.not_false, ne_eq, not_false_eq_true, not_true_eq_false, eq_self, and_true, true_and, and_false, false_and, zI10, zI01]
  trace_state
  sorry
