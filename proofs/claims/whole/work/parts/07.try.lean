theorem zcs_nil : zcs [] = 0 := rfl
theorem zcs_cons (v : Value) (r : List Value) : zcs (v :: r) = v.category + zcs r := by simp [zcs]
theorem cat_int (x : Int32) : (Value.int x).category = 1 := rfl
theorem cat_ref (x : Nat) : (Value.ref x).category = 1 := rfl
theorem cat_long (x : Int64) : (Value.long x).category = 2 := rfl
theorem c_125 {d : Nat} {h : zH} {Q : Option Value → zH → Prop} (x y : Int32) : zR d 125 0 (ze [.int x, .int y] 0) [] h Q = Q (some (.int (if 0 ≤ x ∧ x < y then 1 else 0))) h := by
  simp only [s_125_0, s_125_1, s_125_4, s_125_5, s_125_6, s_125_9, s_125_10, s_125_13, s_125_14, ze, zvI_int, cat_int, Nat.reduceAdd, reduceIte, decide_true, decide_false, Bool.or_true, Bool.true_or, Bool.or_false, eq_self, Nat.reduceEqDiff]
  trace_state
  exact foo
