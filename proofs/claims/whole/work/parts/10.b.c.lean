/-! numbers: literals and small sums as nI -/
theorem zn_2 : ((2 : Int32) = 0) = False := by decide
theorem zn_6 : ((6 : Int32) = 0) = False := by decide
theorem zn_20 : ((20 : Int32) = 0) = False := by decide
theorem zn_24 : ((24 : Int32) = 0) = False := by decide
theorem zn_36 : ((36 : Int32) = 0) = False := by decide
theorem zn_100 : ((100 : Int32) = 0) = False := by decide
theorem zn_400 : ((400 : Int32) = 0) = False := by decide
theorem zm_20 : ((20 : Int64) = 0) = False := by decide
theorem zmL : ((2147483647 : Int64) = 0) = False := by decide
theorem dv_36 {c : Nat} (h : c < 2 ^ 31) : nI c / 36 = nI (c / 36) := pk_div (d := 36) h (by decide) (by decide)
theorem rm_36 {c : Nat} (h : c < 2 ^ 31) : nI c - nI c / 36 * 36 = nI (c % 36) := pk_rem (d := 36) h (by decide) (by decide)
theorem dv_6 {c : Nat} (h : c < 2 ^ 31) : nI c / 6 = nI (c / 6) := pk_div (d := 6) h (by decide) (by decide)
theorem rm_6 {c : Nat} (h : c < 2 ^ 31) : nI c - nI c / 6 * 6 = nI (c % 6) := pk_rem (d := 6) h (by decide) (by decide)
theorem ad_48 (e : Nat) : (48 : Int32) + nI e = nI (48 + e) := nI_add 48 e
theorem ad_54 (e : Nat) : (54 : Int32) + nI e = nI (54 + e) := nI_add 54 e
theorem ad_59 (e : Nat) : (59 : Int32) + nI e = nI (59 + e) := nI_add 59 e
theorem ad_64 (e : Nat) : (64 : Int32) + nI e = nI (64 + e) := nI_add 64 e
theorem ad_77 (e : Nat) : (77 : Int32) + nI e = nI (77 + e) := nI_add 77 e
theorem ad_82 (e : Nat) : (82 : Int32) + nI e = nI (82 + e) := nI_add 82 e
theorem cl_69 : (69 : Int32).toNatClampNeg = 69 := by decide
theorem zi_69 : zin 69 89 = true := by decide
theorem cl_70 : (70 : Int32).toNatClampNeg = 70 := by decide
theorem zi_70 : zin 70 89 = true := by decide
theorem cl_71 : (71 : Int32).toNatClampNeg = 71 := by decide
theorem zi_71 : zin 71 89 = true := by decide
theorem cl_72 : (72 : Int32).toNatClampNeg = 72 := by decide
theorem zi_72 : zin 72 89 = true := by decide
theorem cl_73 : (73 : Int32).toNatClampNeg = 73 := by decide
theorem zi_73 : zin 73 89 = true := by decide
theorem cl_74 : (74 : Int32).toNatClampNeg = 74 := by decide
theorem zi_74 : zin 74 89 = true := by decide
theorem cl_75 : (75 : Int32).toNatClampNeg = 75 := by decide
theorem zi_75 : zin 75 89 = true := by decide
theorem ap_1 (a : Nat) : nI a + 1 = nI (a + 1) := nI_add a 1
theorem ap_2 (a : Nat) : nI a + 2 = nI (a + 2) := nI_add a 2
theorem ap_3 (a : Nat) : nI a + 3 = nI (a + 3) := nI_add a 3
theorem mu_4 (a : Nat) : (4 : Int32) * nI a = nI (4 * a) := pk_mul 4 a
theorem mu_36 (a : Nat) : (36 : Int32) * nI a = nI (36 * a) := pk_mul 36 a
theorem mu_6 (a : Nat) : (6 : Int32) * nI a = nI (6 * a) := pk_mul 6 a
theorem zan_24 : zan 24 = 6 := rfl
theorem zan_25 : zan 25 = 5 := rfl
theorem zan_26 : zan 26 = 5 := rfl
theorem zan_27 : zan 27 = 5 := rfl
theorem zan_28 : zan 28 = 5 := rfl
theorem zan_29 : zan 29 = 5 := rfl
theorem zan_30 : zan 30 = 12 := rfl
theorem zan_293 : zan 293 = 89 := rfl
theorem zan_294 : zan 294 = 8 := rfl
theorem zan_295 : zan 295 = 8 := rfl
theorem zan_296 : zan 296 = 320 := rfl
theorem zan_19 : zan 19 = 8 := rfl
theorem zan_20 : zan 20 = 8 := rfl
/-! the class: wordings -/
theorem c_formOf {d c : Nat} {h : zH} {Q : Option Value → zH → Prop} (hc : c < 180) : zR d 127 0 (ze [.int (nI c)] 0) [] h Q = Q (some (.int (nI (c / 36)))) h := by
  have h1 : c < 2 ^ 31 := by omega
  simp only [s_127_0, s_127_1, s_127_3, s_127_4, zn_36, dv_36 h1, ze_c, z1_c, z2_c, Nat.zero_le, zvI_int, zvJ_long, zvA_is, zvi_int, cat_int, cat_ref, cat_long, zc_0, zc_1, zc_2, zc_3, zc_4, Nat.reduceAdd, Nat.reduceLeDiff, Nat.reduceEqDiff, reduceIte, Option.toList_some, Option.toList_none, List.nil_append, List.cons_append, decide_true, decide_false, Bool.or_true, Bool.true_or, Bool.or_false, Bool.or_self, Bool.not_false, ne_eq, not_false_eq_true, not_true_eq_false, eq_self, and_true, true_and, and_false, false_and, zI10, zI01, ↓bI_ok, bI_0, ite_not]
theorem c_firstEventOf {d c : Nat} {h : zH} {Q : Option Value → zH → Prop} (hc : c < 180) : zR d 128 0 (ze [.int (nI c)] 0) [] h Q = Q (some (.int (nI (c / 6 % 6)))) h := by
  have h1 : c < 2 ^ 31 := by omega
  have h2 : c / 6 < 2 ^ 31 := by omega
  simp only [s_128_0, s_128_1, s_128_3, s_128_4, s_128_6, s_128_7, zn_6, dv_6 h1, rm_6 h2, ze_c, z1_c, z2_c, Nat.zero_le, zvI_int, zvJ_long, zvA_is, zvi_int, cat_int, cat_ref, cat_long, zc_0, zc_1, zc_2, zc_3, zc_4, Nat.reduceAdd, Nat.reduceLeDiff, Nat.reduceEqDiff, reduceIte, Option.toList_some, Option.toList_none, List.nil_append, List.cons_append, decide_true, decide_false, Bool.or_true, Bool.true_or, Bool.or_false, Bool.or_self, Bool.not_false, ne_eq, not_false_eq_true, not_true_eq_false, eq_self, and_true, true_and, and_false, false_and, zI10, zI01, ↓bI_ok, bI_0, ite_not]
theorem c_secondEventOf {d c : Nat} {h : zH} {Q : Option Value → zH → Prop} (hc : c < 180) : zR d 129 0 (ze [.int (nI c)] 0) [] h Q = Q (some (.int (nI (c % 6)))) h := by
  have h1 : c < 2 ^ 31 := by omega
  simp only [s_129_0, s_129_1, s_129_3, s_129_4, zn_6, ze_c, z1_c, z2_c, Nat.zero_le, zvI_int, zvJ_long, zvA_is, zvi_int, cat_int, cat_ref, cat_long, zc_0, zc_1, zc_2, zc_3, zc_4, Nat.reduceAdd, Nat.reduceLeDiff, Nat.reduceEqDiff, reduceIte, Option.toList_some, Option.toList_none, List.nil_append, List.cons_append, decide_true, decide_false, Bool.or_true, Bool.true_or, Bool.or_false, Bool.or_self, Bool.not_false, ne_eq, not_false_eq_true, not_true_eq_false, eq_self, and_true, true_and, and_false, false_and, zI10, zI01, ↓bI_ok, bI_0, ite_not]
  rw [rm_6 h1]
theorem c_codeOf {d a b c : Nat} {h : zH} {Q : Option Value → zH → Prop} : zR d 126 0 (ze [.int (nI a), .int (nI b), .int (nI c)] 0) [] h Q = Q (some (.int (nI (36 * a + 6 * b + c)))) h := by
  simp only [s_126_0, s_126_2, s_126_3, s_126_4, s_126_6, s_126_7, s_126_8, s_126_9, s_126_10, s_126_11, mu_36, mu_6, nI_add, ze_c, z1_c, z2_c, Nat.zero_le, zvI_int, zvJ_long, zvA_is, zvi_int, cat_int, cat_ref, cat_long, zc_0, zc_1, zc_2, zc_3, zc_4, Nat.reduceAdd, Nat.reduceLeDiff, Nat.reduceEqDiff, reduceIte, Option.toList_some, Option.toList_none, List.nil_append, List.cons_append, decide_true, decide_false, Bool.or_true, Bool.true_or, Bool.or_false, Bool.or_self, Bool.not_false, ne_eq, not_false_eq_true, not_true_eq_false, eq_self, and_true, true_and, and_false, false_and, zI10, zI01, ↓bI_ok, bI_0, ite_not]
/-- ODDS by the chances x, y -/
def oddsF (f : Nat) (x y : Int32) : Int32 := if f = 0 then 20 * x else if f = 1 then 20 * (20 - x) else if f = 2 then x * y else if f = 3 then 400 - (20 - x) * (20 - y) else x * (20 - y) + y * (20 - x)
theorem nI_is (f : Nat) (hf : f < 5) : (nI f = 0) = (f = 0) ∧ (nI f = 1) = (f = 1) ∧ (nI f = 2) = (f = 2) ∧ (nI f = 3) = (f = 3) := by
  rcases (show f = 0 ∨ f = 1 ∨ f = 2 ∨ f = 3 ∨ f = 4 by omega) with rfl | rfl | rfl | rfl | rfl <;> decide
theorem c_oddsOf {d L c : Nat} {s : zG} {Q : Option Value → zH → Prop} (hc : c < 180) : zR (d + 1) 51 0 (ze [.ref 23, .int (nI c)] 0) [] (zv L s) Q = Q (some (.int (oddsF (c / 36) (s.1 24 (c / 6 % 6)) (s.1 24 (c % 6))))) (zv L s) := by
  have z1 : zin (nI (c / 6 % 6)) 6 = true := zin_nI (by omega) (by decide)
  have z2 : zin (nI (c % 6)) 6 = true := zin_nI (by omega) (by decide)
  have e1 : (nI (c / 6 % 6)).toNatClampNeg = c / 6 % 6 := nI_clamp (by omega)
  have e2 : (nI (c % 6)).toNatClampNeg = c % 6 := nI_clamp (by omega)
  obtain ⟨f0, f1, f2, f3⟩ := nI_is (c / 36) (by omega)
  simp only [s_51_0, s_51_1, s_51_1d, s_51_4, s_51_5, s_51_8, s_51_9, s_51_10, s_51_11, s_51_11d, s_51_14, s_51_15, s_51_18, s_51_19, s_51_20, s_51_21, s_51_24, s_51_56, s_51_58, s_51_59, s_51_60, s_51_61, s_51_63, s_51_65, s_51_66, s_51_67, s_51_68, s_51_69, s_51_70, s_51_71, s_51_72, s_51_73, s_51_76, s_51_78, s_51_79, s_51_80, s_51_82, s_51_83, s_51_84, s_51_85, s_51_86, s_51_87, s_51_88, s_51_90, s_51_91, s_51_92, s_51_93, s_51_94, s_51_96, s_51_97, s_51_98, s_51_99, s_51_100, c_firstEventOf hc, c_secondEventOf hc, c_formOf hc, zan_24, z1, z2, e1, e2, f0, f1, f2, f3, ze_c, z1_c, z2_c, Nat.zero_le, zvI_int, zvJ_long, zvA_is, zvi_int, cat_int, cat_ref, cat_long, zc_0, zc_1, zc_2, zc_3, zc_4, Nat.reduceAdd, Nat.reduceLeDiff, Nat.reduceEqDiff, reduceIte, Option.toList_some, Option.toList_none, List.nil_append, List.cons_append, decide_true, decide_false, Bool.or_true, Bool.true_or, Bool.or_false, Bool.or_self, Bool.not_false, ne_eq, not_false_eq_true, not_true_eq_false, eq_self, and_true, true_and, and_false, false_and, zI10, zI01, ↓bI_ok, bI_0, ite_not]
  unfold oddsF
  repeat' split
  all_goals rfl

/-! the reference: tests -/
theorem m_in {d : Nat} {h : zH} {Q : Option Value → zH → Prop} (x lo hi : Int64) : zR d 133 0 (ze [.long x, .long lo, .long hi] 0) [] h Q = Q (some (.int (bI (lo ≤ x ∧ x ≤ hi)))) h := by
  simp only [s_133_0, s_133_1, s_133_2, s_133_3, s_133_6, s_133_7, s_133_9, s_133_10, s_133_13, s_133_14, s_133_17, s_133_18, lg_cmp_lt, lg_cmp_gt, ze_c, z1_c, z2_c, Nat.zero_le, zvI_int, zvJ_long, zvA_is, zvi_int, cat_int, cat_ref, cat_long, zc_0, zc_1, zc_2, zc_3, zc_4, Nat.reduceAdd, Nat.reduceLeDiff, Nat.reduceEqDiff, reduceIte, Option.toList_some, Option.toList_none, List.nil_append, List.cons_append, decide_true, decide_false, Bool.or_true, Bool.true_or, Bool.or_false, Bool.or_self, Bool.not_false, ne_eq, not_false_eq_true, not_true_eq_false, eq_self, and_true, true_and, and_false, false_and, zI10, zI01, ↓bI_ok, bI_0, ite_not]
  by_cases h1 : x < lo
  · rw [if_pos h1, bI_f (fun q => Int64.not_lt.mpr q.1 h1)]
  · rw [if_neg h1]
    by_cases h2 : hi < x
    · rw [if_pos h2, bI_f (fun q => Int64.not_lt.mpr q.2 h2)]
    · rw [if_neg h2, bI_t ⟨Int64.not_lt.mp h1, Int64.not_lt.mp h2⟩]
theorem m_isEvent {d L : Nat} {s : zG} {Q : Option Value → zH → Prop} (x : Int32) : zR (d + 1) 156 0 (ze [.ref 292, .int x] 0) [] (zv L s) Q = Q (some (.int (bI (0 ≤ x.toInt64 ∧ x.toInt64 ≤ (s.1 293 71 - 1).toInt64)))) (zv L s) := by
  simp only [s_156_0, s_156_1, s_156_2, s_156_3, s_156_4, s_156_7, s_156_9, s_156_10, s_156_11, s_156_12, s_156_13, s_156_16, m_in, zan_293, zi_71, cl_71, ze_c, z1_c, z2_c, Nat.zero_le, zvI_int, zvJ_long, zvA_is, zvi_int, cat_int, cat_ref, cat_long, zc_0, zc_1, zc_2, zc_3, zc_4, Nat.reduceAdd, Nat.reduceLeDiff, Nat.reduceEqDiff, reduceIte, Option.toList_some, Option.toList_none, List.nil_append, List.cons_append, decide_true, decide_false, Bool.or_true, Bool.true_or, Bool.or_false, Bool.or_self, Bool.not_false, ne_eq, not_false_eq_true, not_true_eq_false, eq_self, and_true, true_and, and_false, false_and, zI10, zI01, ↓bI_ok, bI_0, ite_not]

