theorem zcat (v : Value) : v.category ≤ 2 := by rcases lv_cat v with h | h <;> omega
theorem zc_0 : zcs [] ≤ 8 := Nat.zero_le 8
theorem zc_1 (a : Value) : zcs [a] ≤ 8 := by have := zcat a; simp only [zcs_cons, zcs_nil]; omega
theorem zc_2 (a b : Value) : zcs [a, b] ≤ 8 := by have := zcat a; have := zcat b; simp only [zcs_cons, zcs_nil]; omega
theorem zc_3 (a b c : Value) : zcs [a, b, c] ≤ 8 := by have := zcat a; have := zcat b; have := zcat c; simp only [zcs_cons, zcs_nil]; omega
theorem zc_4 (a b c e : Value) : zcs [a, b, c, e] ≤ 8 := by have := zcat a; have := zcat b; have := zcat c; have := zcat e; simp only [zcs_cons, zcs_nil]; omega
theorem ze_c (v : Value) (vs : List Value) (p j : Nat) : ze (v :: vs) p j = if j = p then v else ze vs (p + v.category) j := rfl
theorem z1_c (ls : zL) (i : Nat) (v : Value) (j : Nat) : z1 ls i v j = if j = i then v else if j + 1 = i ∧ (ls j).category = 2 then .null else ls j := rfl
theorem z2_c (ls : zL) (i : Nat) (v : Value) (j : Nat) : z2 ls i v j = if j = i then v else if j = i + 1 then .null else if j + 1 = i ∧ (ls j).category = 2 then .null else ls j := rfl
theorem zvA_is (a : Nat) : zvA (.ref a) = decide (a ≠ 7) := by
  show (!(Nat.beq a 7)) = _
  by_cases h : a = 7
  · subst h; rfl
  · have h1 : Nat.beq a 7 = false := by
      cases hb : Nat.beq a 7 with
      | false => rfl
      | true => exact absurd (Nat.eq_of_beq_eq_true hb) h
    rw [h1, decide_eq_true h]
    rfl
theorem zI10 : ((1 : Int32) = 0) = False := by decide
theorem zI01 : ((0 : Int32) = 1) = False := by decide
/-- a boolean answer -/
def bI (p : Prop) [Decidable p] : Int32 := if p then 1 else 0
theorem bI_ok (p : Prop) [Decidable p] : (decide (bI p = 0) || decide (bI p = 1)) = true := by
  unfold bI
  by_cases h : p
  · rw [if_pos h]; rfl
  · rw [if_neg h]; rfl
theorem bI_0 (p : Prop) [Decidable p] : (bI p = 0) = ¬ p := by
  unfold bI
  by_cases h : p
  · rw [if_pos h]; simp [h, zI10]
  · rw [if_neg h]; simp [h]
theorem bI_t {p : Prop} [Decidable p] (h : p) : bI p = 1 := if_pos h
theorem bI_f {p : Prop} [Decidable p] (h : ¬ p) : bI p = 0 := if_neg h
theorem i_nlt {x y : Int32} : ¬ x < y ↔ y ≤ x := Int32.not_lt
theorem i_nle {x y : Int32} : ¬ x ≤ y ↔ y < x := Int32.not_le
/-! simple tests of the class -/
theorem c_isBelow {d : Nat} {h : zH} {Q : Option Value → zH → Prop} (x y : Int32) : zR d 125 0 (ze [.int x, .int y] 0) [] h Q = Q (some (.int (bI (0 ≤ x ∧ x < y)))) h := by
  simp only [s_125_0, s_125_1, s_125_4, s_125_5, s_125_6, s_125_9, s_125_10, s_125_13, s_125_14, ze_c, z1_c, z2_c, Nat.zero_le, zvI_int, zvJ_long, zvA_is, zvi_int, cat_int, cat_ref, cat_long, zc_0, zc_1, zc_2, zc_3, zc_4, Nat.reduceAdd, Nat.reduceLeDiff, Nat.reduceEqDiff, reduceIte, Option.toList_some, Option.toList_none, List.nil_append, List.cons_append, decide_true, decide_false, Bool.or_true, Bool.true_or, Bool.or_false, Bool.or_self, Bool.not_false, ne_eq, not_false_eq_true, not_true_eq_false, eq_self, and_true, true_and, and_false, false_and, zI10, zI01, ↓bI_ok, bI_0, ite_not]
  by_cases h1 : x < 0
  · rw [if_pos h1, bI_f (fun q => i_nlt.mpr q.1 h1)]
  · rw [if_neg h1]
    by_cases h2 : y ≤ x
    · rw [if_pos h2, bI_f (fun q => i_nle.mpr q.2 h2)]
    · rw [if_neg h2, bI_t ⟨i_nlt.mp h1, i_nle.mp h2⟩]
theorem c_hasEvent {d L : Nat} {s : zG} {Q : Option Value → zH → Prop} (x : Int32) : zR (d + 1) 40 0 (ze [.ref 23, .int x] 0) [] (zv L s) Q = Q (some (.int (bI (0 ≤ x ∧ x < s.1 23 2)))) (zv L s) := by
  simp only [s_40_0, s_40_1, s_40_2, s_40_2d, s_40_5, s_40_8, c_isBelow, ze_c, z1_c, z2_c, Nat.zero_le, zvI_int, zvJ_long, zvA_is, zvi_int, cat_int, cat_ref, cat_long, zc_0, zc_1, zc_2, zc_3, zc_4, Nat.reduceAdd, Nat.reduceLeDiff, Nat.reduceEqDiff, reduceIte, Option.toList_some, Option.toList_none, List.nil_append, List.cons_append, decide_true, decide_false, Bool.or_true, Bool.true_or, Bool.or_false, Bool.or_self, Bool.not_false, ne_eq, not_false_eq_true, not_true_eq_false, eq_self, and_true, true_and, and_false, false_and, zI10, zI01, ↓bI_ok, bI_0, ite_not]
theorem c_hasProphet {d L : Nat} {s : zG} {Q : Option Value → zH → Prop} (x : Int32) : zR (d + 1) 41 0 (ze [.ref 23, .int x] 0) [] (zv L s) Q = Q (some (.int (bI (0 ≤ x ∧ x < s.1 23 3)))) (zv L s) := by
  simp only [s_41_0, s_41_1, s_41_2, s_41_2d, s_41_5, s_41_8, c_isBelow, ze_c, z1_c, z2_c, Nat.zero_le, zvI_int, zvJ_long, zvA_is, zvi_int, cat_int, cat_ref, cat_long, zc_0, zc_1, zc_2, zc_3, zc_4, Nat.reduceAdd, Nat.reduceLeDiff, Nat.reduceEqDiff, reduceIte, Option.toList_some, Option.toList_none, List.nil_append, List.cons_append, decide_true, decide_false, Bool.or_true, Bool.true_or, Bool.or_false, Bool.or_self, Bool.not_false, ne_eq, not_false_eq_true, not_true_eq_false, eq_self, and_true, true_and, and_false, false_and, zI10, zI01, ↓bI_ok, bI_0, ite_not]
theorem c_hasSaying {d L : Nat} {s : zG} {Q : Option Value → zH → Prop} (x : Int32) : zR (d + 1) 42 0 (ze [.ref 23, .int x] 0) [] (zv L s) Q = Q (some (.int (bI (0 ≤ x ∧ x < s.1 23 4)))) (zv L s) := by
  simp only [s_42_0, s_42_1, s_42_2, s_42_2d, s_42_5, s_42_8, c_isBelow, ze_c, z1_c, z2_c, Nat.zero_le, zvI_int, zvJ_long, zvA_is, zvi_int, cat_int, cat_ref, cat_long, zc_0, zc_1, zc_2, zc_3, zc_4, Nat.reduceAdd, Nat.reduceLeDiff, Nat.reduceEqDiff, reduceIte, Option.toList_some, Option.toList_none, List.nil_append, List.cons_append, decide_true, decide_false, Bool.or_true, Bool.true_or, Bool.or_false, Bool.or_self, Bool.not_false, ne_eq, not_false_eq_true, not_true_eq_false, eq_self, and_true, true_and, and_false, false_and, zI10, zI01, ↓bI_ok, bI_0, ite_not]
theorem c_setCount {d L : Nat} {s : zG} {Q : Option Value → zH → Prop} : zR d 46 0 (ze [.ref 23] 0) [] (zv L s) Q = Q (some (.int (1 <<< (s.1 23 2 &&& 31)))) (zv L s) := by
  simp only [s_46_0, s_46_1, s_46_2, s_46_2d, s_46_5, s_46_6, ze_c, z1_c, z2_c, Nat.zero_le, zvI_int, zvJ_long, zvA_is, zvi_int, cat_int, cat_ref, cat_long, zc_0, zc_1, zc_2, zc_3, zc_4, Nat.reduceAdd, Nat.reduceLeDiff, Nat.reduceEqDiff, reduceIte, Option.toList_some, Option.toList_none, List.nil_append, List.cons_append, decide_true, decide_false, Bool.or_true, Bool.true_or, Bool.or_false, Bool.or_self, Bool.not_false, ne_eq, not_false_eq_true, not_true_eq_false, eq_self, and_true, true_and, and_false, false_and, zI10, zI01, ↓bI_ok, bI_0, ite_not]
theorem c_hasSet {d L : Nat} {s : zG} {Q : Option Value → zH → Prop} (x : Int32) : zR (d + 1) 43 0 (ze [.ref 23, .int x] 0) [] (zv L s) Q = Q (some (.int (bI (0 ≤ x ∧ x < 1 <<< (s.1 23 2 &&& 31))))) (zv L s) := by
  simp only [s_43_0, s_43_1, s_43_2, s_43_5, s_43_8, c_isBelow, c_setCount, ze_c, z1_c, z2_c, Nat.zero_le, zvI_int, zvJ_long, zvA_is, zvi_int, cat_int, cat_ref, cat_long, zc_0, zc_1, zc_2, zc_3, zc_4, Nat.reduceAdd, Nat.reduceLeDiff, Nat.reduceEqDiff, reduceIte, Option.toList_some, Option.toList_none, List.nil_append, List.cons_append, decide_true, decide_false, Bool.or_true, Bool.true_or, Bool.or_false, Bool.or_self, Bool.not_false, ne_eq, not_false_eq_true, not_true_eq_false, eq_self, and_true, true_and, and_false, false_and, zI10, zI01, ↓bI_ok, bI_0, ite_not]
theorem c_isThere {d L : Nat} {s : zG} {Q : Option Value → zH → Prop} : zR d 39 0 (ze [.ref 23] 0) [] (zv L s) Q = Q (some (.int (bI (0 < s.1 23 2)))) (zv L s) := by
  simp only [s_39_0, s_39_1, s_39_1d, s_39_4, s_39_7, s_39_8, s_39_11, s_39_12, ze_c, z1_c, z2_c, Nat.zero_le, zvI_int, zvJ_long, zvA_is, zvi_int, cat_int, cat_ref, cat_long, zc_0, zc_1, zc_2, zc_3, zc_4, Nat.reduceAdd, Nat.reduceLeDiff, Nat.reduceEqDiff, reduceIte, Option.toList_some, Option.toList_none, List.nil_append, List.cons_append, decide_true, decide_false, Bool.or_true, Bool.true_or, Bool.or_false, Bool.or_self, Bool.not_false, ne_eq, not_false_eq_true, not_true_eq_false, eq_self, and_true, true_and, and_false, false_and, zI10, zI01, ↓bI_ok, bI_0, ite_not]
  by_cases h : s.1 23 2 ≤ 0
  · rw [if_pos h, bI_f (i_nlt.mpr h)]
  · rw [if_neg h, bI_t (i_nle.mp h)]
theorem iT_0 : (0 : Int32).toInt = 0 := by decide
theorem iT_1 : (1 : Int32).toInt = 1 := by decide
theorem iT_2 : (2 : Int32).toInt = 2 := by decide
theorem iT_3 : (3 : Int32).toInt = 3 := by decide
theorem iT_4 : (4 : Int32).toInt = 4 := by decide
theorem iT_5 : (5 : Int32).toInt = 5 := by decide
theorem iT_6 : (6 : Int32).toInt = 6 := by decide
theorem iT_8 : (8 : Int32).toInt = 8 := by decide
theorem iT_40 : (40 : Int32).toInt = 40 := by decide
theorem iT_m1 : (-1 : Int32).toInt = -1 := by decide
theorem c_hasWording {d L : Nat} {s : zG} {Q : Option Value → zH → Prop} (x y z : Int32) : zR (d + 2) 44 0 (ze [.ref 23, .int x, .int y, .int z] 0) [] (zv L s) Q = Q (some (.int (bI ((0 ≤ x ∧ x ≤ 4) ∧ (0 ≤ y ∧ y < s.1 23 2) ∧ (0 ≤ z ∧ z < s.1 23 2) ∧ (if x ≤ 1 then y = z else y < z))))) (zv L s) := by
  simp only [s_44_0, s_44_1, s_44_4, s_44_5, s_44_6, s_44_9, s_44_10, s_44_11, s_44_14, s_44_17, s_44_18, s_44_19, s_44_22, s_44_25, s_44_26, s_44_27, s_44_28, s_44_29, s_44_32, s_44_33, s_44_34, s_44_37, s_44_38, s_44_41, s_44_42, s_44_45, s_44_46, s_44_47, s_44_50, s_44_51, s_44_54, s_44_55, c_hasEvent, ze_c, z1_c, z2_c, Nat.zero_le, zvI_int, zvJ_long, zvA_is, zvi_int, cat_int, cat_ref, cat_long, zc_0, zc_1, zc_2, zc_3, zc_4, Nat.reduceAdd, Nat.reduceLeDiff, Nat.reduceEqDiff, reduceIte, Option.toList_some, Option.toList_none, List.nil_append, List.cons_append, decide_true, decide_false, Bool.or_true, Bool.true_or, Bool.or_false, Bool.or_self, Bool.not_false, ne_eq, not_false_eq_true, not_true_eq_false, eq_self, and_true, true_and, and_false, false_and, zI10, zI01, ↓bI_ok, bI_0, ite_not]
  by_cases c0 : x < 0
  · rw [if_pos c0, bI_f (fun q => i_nlt.mpr q.1.1 c0)]
  rw [if_neg c0]
  by_cases c1 : 4 < x
  · rw [if_pos c1, bI_f (fun q => i_nlt.mpr q.1.2 c1)]
  rw [if_neg c1]
  by_cases c2 : 0 ≤ y ∧ y < s.1 23 2
  · rw [if_pos c2]
    by_cases c3 : 0 ≤ z ∧ z < s.1 23 2
    · rw [if_pos c3]
      by_cases c4 : 1 < x
      · have c5 : ¬ x ≤ 1 := i_nle.mpr c4
        simp only [if_pos c4, if_neg c5]
        by_cases c6 : z ≤ y
        · rw [if_pos c6, bI_f (fun q => i_nlt.mpr c6 q.2.2.2)]
        · rw [if_neg c6, bI_t ⟨⟨i_nlt.mp c0, i_nlt.mp c1⟩, c2, c3, i_nle.mp c6⟩]
      · have c5 : x ≤ 1 := i_nlt.mp c4
        simp only [if_neg c4, if_pos c5]
        by_cases c6 : y = z
        · rw [if_pos c6, bI_t ⟨⟨i_nlt.mp c0, i_nlt.mp c1⟩, c2, c3, c6⟩]
        · rw [if_neg c6, bI_f (fun q => c6 q.2.2.2)]
    · rw [if_neg c3, bI_f (fun q => c3 q.2.2.1)]
  · rw [if_neg c2, bI_f (fun q => c2 q.2.1)]
theorem zan_31 : zan 31 = 12 := rfl
theorem l_isNew {d L n : Nat} {s : zG} {Q : Option Value → zH → Prop} (x : Int32) (hn : n ≤ 12) : ∀ (m i : Nat) (ls : zL), i + m = n → ls 0 = .ref 23 → ls 1 = .int x → ls 2 = .int (nI n) → ls 3 = .int (nI i) → (∀ j, j < i → s.1 31 j ≠ x) → zR d 50 2 ls [] (zv L s) Q = Q (some (.int (bI (∀ j, j < n → s.1 31 j ≠ x)))) (zv L s) := by
  intro m
  induction m with
  | zero =>
    intro i ls hi h0 h1 h2 h3 hj
    have hc : nI n ≤ nI i := nI_le (by omega) (by omega)
    rw [s_50_2 (by rw [h3]; rfl)]
    simp only [s_50_0, s_50_1, s_50_3, s_50_4, s_50_7, s_50_8, s_50_8d, s_50_11, s_50_12, s_50_13, s_50_14, s_50_17, s_50_18, s_50_19, s_50_22, s_50_25, s_50_26, h0, h1, h2, h3, hc, ze_c, z1_c, z2_c, Nat.zero_le, zvI_int, zvJ_long, zvA_is, zvi_int, cat_int, cat_ref, cat_long, zc_0, zc_1, zc_2, zc_3, zc_4, Nat.reduceAdd, Nat.reduceLeDiff, Nat.reduceEqDiff, reduceIte, Option.toList_some, Option.toList_none, List.nil_append, List.cons_append, decide_true, decide_false, Bool.or_true, Bool.true_or, Bool.or_false, Bool.or_self, Bool.not_false, ne_eq, not_false_eq_true, not_true_eq_false, eq_self, and_true, true_and, and_false, false_and, zI10, zI01, ↓bI_ok, bI_0, ite_not]
    rw [bI_t (fun j hj2 => hj j (by omega))]
  | succ m ih =>
    intro i ls hi h0 h1 h2 h3 hj
    have hc : ¬ nI n ≤ nI i := nI_ge (by omega) (by omega)
    have hz : zin (nI i) 12 = true := zin_nI (by omega) (by decide)
    have hcl : (nI i).toNatClampNeg = i := nI_clamp (by omega)
    rw [s_50_2 (by rw [h3]; rfl)]
    simp only [s_50_0, s_50_1, s_50_3, s_50_4, s_50_7, s_50_8, s_50_8d, s_50_11, s_50_12, s_50_13, s_50_14, s_50_17, s_50_18, s_50_19, s_50_22, s_50_25, s_50_26, h0, h1, h2, h3, hc, hz, hcl, zan_31, ze_c, z1_c, z2_c, Nat.zero_le, zvI_int, zvJ_long, zvA_is, zvi_int, cat_int, cat_ref, cat_long, zc_0, zc_1, zc_2, zc_3, zc_4, Nat.reduceAdd, Nat.reduceLeDiff, Nat.reduceEqDiff, reduceIte, Option.toList_some, Option.toList_none, List.nil_append, List.cons_append, decide_true, decide_false, Bool.or_true, Bool.true_or, Bool.or_false, Bool.or_self, Bool.not_false, ne_eq, not_false_eq_true, not_true_eq_false, eq_self, and_true, true_and, and_false, false_and, zI10, zI01, ↓bI_ok, bI_0, ite_not]
    by_cases he : s.1 31 i = x
    · rw [if_pos he, bI_f (fun q => q i (by omega) he)]
    · rw [if_neg he]
      refine ih (i + 1) _ (by omega) ?_ ?_ ?_ ?_ (fun j hj2 => ?_)
      · simp only [h0, ze_c, z1_c, z2_c, Nat.zero_le, zvI_int, zvJ_long, zvA_is, zvi_int, cat_int, cat_ref, cat_long, zc_0, zc_1, zc_2, zc_3, zc_4, Nat.reduceAdd, Nat.reduceLeDiff, Nat.reduceEqDiff, reduceIte, Option.toList_some, Option.toList_none, List.nil_append, List.cons_append, decide_true, decide_false, Bool.or_true, Bool.true_or, Bool.or_false, Bool.or_self, Bool.not_false, ne_eq, not_false_eq_true, not_true_eq_false, eq_self, and_true, true_and, and_false, false_and, zI10, zI01, ↓bI_ok, bI_0, ite_not]
      · simp only [h1, ze_c, z1_c, z2_c, Nat.zero_le, zvI_int, zvJ_long, zvA_is, zvi_int, cat_int, cat_ref, cat_long, zc_0, zc_1, zc_2, zc_3, zc_4, Nat.reduceAdd, Nat.reduceLeDiff, Nat.reduceEqDiff, reduceIte, Option.toList_some, Option.toList_none, List.nil_append, List.cons_append, decide_true, decide_false, Bool.or_true, Bool.true_or, Bool.or_false, Bool.or_self, Bool.not_false, ne_eq, not_false_eq_true, not_true_eq_false, eq_self, and_true, true_and, and_false, false_and, zI10, zI01, ↓bI_ok, bI_0, ite_not]
      · simp only [h2, ze_c, z1_c, z2_c, Nat.zero_le, zvI_int, zvJ_long, zvA_is, zvi_int, cat_int, cat_ref, cat_long, zc_0, zc_1, zc_2, zc_3, zc_4, Nat.reduceAdd, Nat.reduceLeDiff, Nat.reduceEqDiff, reduceIte, Option.toList_some, Option.toList_none, List.nil_append, List.cons_append, decide_true, decide_false, Bool.or_true, Bool.true_or, Bool.or_false, Bool.or_self, Bool.not_false, ne_eq, not_false_eq_true, not_true_eq_false, eq_self, and_true, true_and, and_false, false_and, zI10, zI01, ↓bI_ok, bI_0, ite_not]
      · simp only [nI_1, ze_c, z1_c, z2_c, Nat.zero_le, zvI_int, zvJ_long, zvA_is, zvi_int, cat_int, cat_ref, cat_long, zc_0, zc_1, zc_2, zc_3, zc_4, Nat.reduceAdd, Nat.reduceLeDiff, Nat.reduceEqDiff, reduceIte, Option.toList_some, Option.toList_none, List.nil_append, List.cons_append, decide_true, decide_false, Bool.or_true, Bool.true_or, Bool.or_false, Bool.or_self, Bool.not_false, ne_eq, not_false_eq_true, not_true_eq_false, eq_self, and_true, true_and, and_false, false_and, zI10, zI01, ↓bI_ok, bI_0, ite_not]
      · rcases Nat.lt_or_ge j i with q | q
        · exact hj j q
        · rw [show j = i by omega]; exact he
theorem c_isNew {d L n : Nat} {s : zG} {Q : Option Value → zH → Prop} (x : Int32) (hn : n ≤ 12) : zR d 50 0 (ze [.ref 23, .int x, .int (nI n)] 0) [] (zv L s) Q = Q (some (.int (bI (∀ j, j < n → s.1 31 j ≠ x)))) (zv L s) := by
  rw [s_50_0, s_50_1]
  exact l_isNew x hn n 0 _ (by omega) rfl rfl rfl rfl (fun j hj => absurd hj (Nat.not_lt_zero j))
