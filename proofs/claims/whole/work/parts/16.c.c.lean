/-! the law's loop -/
set_option maxHeartbeats 8000000 in
theorem lw_switch {x : Int32} {L i : Nat} {xs : Nat → Int32} {s : zG} {ls : zL} {Q : Option Value → zH → Prop} (hI : IV s) (hx : s.1 0 = xs) (k0 : ls 0 = .ref 0) (k1 : ls 1 = .ref 8) (k2 : ls 2 = .ref 292) (k3 : ls 3 = .int (nI i)) (hi : i + 6 ≤ L) (hL : L ≤ 384) (K : ∀ s', IV s' → s'.1 0 = xs → zR 41 226 1232 ls [] (zv L s') Q) : zR 41 226 33 ls [.int x] (zv L s) Q := by
  rw [s_226_33]
  by_cases h0 : x = 0
  · rw [if_pos h0]
    exact lw_row hI hx k0 k1 k2 k3 hi hL K
  rw [if_neg h0]
  by_cases h1 : x = 1
  · rw [if_pos h1]
    exact lw_set hI hx k0 k1 k2 k3 hi hL K
  rw [if_neg h1]
  by_cases h2 : x = 2
  · rw [if_pos h2]
    exact lw_copy hI hx k0 k1 k2 k3 hi hL K
  rw [if_neg h2]
  by_cases h3 : x = 3
  · rw [if_pos h3]
    exact lw_drop hI hx k0 k1 k2 k3 hi hL K
  rw [if_neg h3]
  by_cases h4 : x = 4
  · rw [if_pos h4]
    exact lw_feed hI hx k0 k1 k2 k3 hi hL K
  rw [if_neg h4]
  by_cases h5 : x = 5
  · rw [if_pos h5]
    exact lw_republic hI hx k0 k1 k2 k3 hi hL K
  rw [if_neg h5]
  by_cases h6 : x = 6
  · rw [if_pos h6]
    exact lw_fault hI hx k0 k1 k2 k3 hi hL K
  rw [if_neg h6]
  by_cases h7 : x = 7
  · rw [if_pos h7]
    exact lw_undo hI hx k0 k1 k2 k3 hi hL K
  rw [if_neg h7]
  by_cases h8 : x = 8
  · rw [if_pos h8]
    exact lw_say hI hx k0 k1 k2 k3 hi hL K
  rw [if_neg h8]
  by_cases h9 : x = 9
  · rw [if_pos h9]
    exact lw_unsay hI hx k0 k1 k2 k3 hi hL K
  rw [if_neg h9]
  by_cases h10 : x = 10
  · rw [if_pos h10]
    exact lw_chance hI hx k0 k1 k2 k3 hi hL K
  rw [if_neg h10]
  by_cases h11 : x = 11
  · rw [if_pos h11]
    exact lw_year hI hx k0 k1 k2 k3 hi hL K
  rw [if_neg h11]
  by_cases h12 : x = 12
  · rw [if_pos h12]
    exact lw_drawn hI hx k0 k1 k2 k3 hi hL K
  rw [if_neg h12]
  by_cases h13 : x = 13
  · rw [if_pos h13]
    exact lw_prophet hI hx k0 k1 k2 k3 hi hL K
  rw [if_neg h13]
  by_cases h14 : x = 14
  · rw [if_pos h14]
    exact lw_saying hI hx k0 k1 k2 k3 hi hL K
  rw [if_neg h14]
  by_cases h15 : x = 15
  · rw [if_pos h15]
    exact lw_odds hI hx k0 k1 k2 k3 hi hL K
  rw [if_neg h15]
  by_cases h16 : x = 16
  · rw [if_pos h16]
    exact lw_fine hI hx k0 k1 k2 k3 hi hL K
  rw [if_neg h16]
  by_cases h17 : x = 17
  · rw [if_pos h17]
    exact lw_net hI hx k0 k1 k2 k3 hi hL K
  rw [if_neg h17]
  by_cases h18 : x = 18
  · rw [if_pos h18]
    exact lw_expected hI hx k0 k1 k2 k3 hi hL K
  rw [if_neg h18]
  by_cases h19 : x = 19
  · rw [if_pos h19]
    exact lw_worst hI hx k0 k1 k2 k3 hi hL K
  rw [if_neg h19]
  by_cases h20 : x = 20
  · rw [if_pos h20]
    exact lw_cheapest hI hx k0 k1 k2 k3 hi hL K
  rw [if_neg h20]
  by_cases h21 : x = 21
  · rw [if_pos h21]
    exact lw_loopholes hI hx k0 k1 k2 k3 hi hL K
  rw [if_neg h21]
  by_cases h22 : x = 22
  · rw [if_pos h22]
    exact lw_shut hI hx k0 k1 k2 k3 hi hL K
  rw [if_neg h22]
  by_cases h23 : x = 23
  · rw [if_pos h23]
    exact lw_group hI hx k0 k1 k2 k3 hi hL K
  rw [if_neg h23]
  by_cases h24 : x = 24
  · rw [if_pos h24]
    exact lw_could hI hx k0 k1 k2 k3 hi hL K
  rw [if_neg h24]
  by_cases h25 : x = 25
  · rw [if_pos h25]
    exact lw_premium hI hx k0 k1 k2 k3 hi hL K
  rw [if_neg h25]
  by_cases h26 : x = 26
  · rw [if_pos h26]
    exact lw_heeded hI hx k0 k1 k2 k3 hi hL K
  rw [if_neg h26]
  by_cases h27 : x = 27
  · rw [if_pos h27]
    exact lw_plain hI hx k0 k1 k2 k3 hi hL K
  rw [if_neg h27]
  by_cases h28 : x = 28
  · rw [if_pos h28]
    exact lw_image hI hx k0 k1 k2 k3 hi hL K
  rw [if_neg h28]
  by_cases h29 : x = 29
  · rw [if_pos h29]
    exact lw_restore hI hx k0 k1 k2 k3 hi hL K
  rw [if_neg h29]
  by_cases h30 : x = 30
  · rw [if_pos h30]
    exact lw_kind hI hx k0 k1 k2 k3 hi hL K
  rw [if_neg h30]
  by_cases h31 : x = 31
  · rw [if_pos h31]
    exact lw_as hI hx k0 k1 k2 k3 hi hL K
  rw [if_neg h31]
  by_cases h32 : x = 32
  · rw [if_pos h32]
    exact lw_ask hI hx k0 k1 k2 k3 hi hL K
  rw [if_neg h32]
  by_cases h33 : x = 33
  · rw [if_pos h33]
    exact lw_trace hI hx k0 k1 k2 k3 hi hL K
  rw [if_neg h33]
  by_cases h34 : x = 34
  · rw [if_pos h34]
    exact lw_count hI hx k0 k1 k2 k3 hi hL K
  rw [if_neg h34]
  by_cases h35 : x = 35
  · rw [if_pos h35]
    exact lw_status hI hx k0 k1 k2 k3 hi hL K
  rw [if_neg h35]
  exact K s hI hx
set_option maxHeartbeats 8000000 in
theorem lw_lt {L i : Nat} (hL : L ≤ 384) (hi : i ≤ 384) : nI L - nI 6 < nI i ↔ L < i + 6 := by
  have k5 : (nI L - nI 6).toInt = (L : Int) - (6 : Nat) := pk_sub_toInt (by omega) (by omega)
  have k6 : (nI i).toInt = (i : Int) := nI_toInt (by omega)
  rw [Int32.lt_iff_toInt_lt, k5, k6]
  omega
set_option maxHeartbeats 8000000 in
theorem lw_loop {L : Nat} {xs : Nat → Int32} (hL : L ≤ 384) : ∀ (n i : Nat) (s : zG) (ls : zL), L < i + n → i ≤ 384 → IV s → s.1 0 = xs → ls 0 = .ref 0 → ls 1 = .ref 8 → ls 2 = .ref 292 → ls 3 = .int (nI i) → zR 41 226 18 ls [] (zv L s) (fun v h' => v = some (.int 1) ∧ ∃ s', h' = zv L s') := by
  intro n
  induction n with
  | zero =>
    intro i s ls hn h4 hI hx k0 k1 k2 k3
    have q : nI L - nI 6 < nI i := (lw_lt (by omega) (by omega)).mpr (by omega)
    simp (disch := first | omega | (simp (disch := omega) only [k0, k3, q, ze_c, z1_s, z1_n, z1_p, z2_s, z2_n, z2_p, Nat.zero_le, zvI_int, zvJ_long, zvA_is, zvi_int, cat_int, cat_ref, cat_long, zc_0, zc_1, zc_2, zc_3, zc_4, Nat.reduceAdd, Nat.reduceLeDiff, Nat.reduceEqDiff, reduceIte, Option.toList_some, Option.toList_none, List.nil_append, List.cons_append, decide_true, decide_false, Bool.or_true, Bool.true_or, Bool.or_false, Bool.or_self, Bool.not_false, ne_eq, not_false_eq_true, not_true_eq_false, eq_self, and_true, true_and, and_false, false_and, ↓bI_ok, bI_z, ite_not, nI_add, pk_mul, nI_eqI, nI_leP, nI_ltP, nI_clamp, zin_nI, Nat.le_refl, Nat.add_zero, ite_self, zU_i, zUl_i, zU_o, zUl_o, rc_u, rc_l, rc_e, if_true, if_false, Nat.reduceLT, Nat.not_lt_zero, nI_m1, m1_le, m1_lt, nI_mM, mM_lt, Bool.false_eq_true, lgz_eq, lgz_lt, lgz_le, lgz_gt, lgz_ge, cq_ref, cq_int, zan_19, zan_20, zan_22, zan_24, zan_25, zan_26, zan_27, zan_28, zan_29, zan_30, zan_31, zan_33, zan_34, zan_35, zan_36, zan_37, zan_38, zan_39, zan_40, zan_263, zan_264, zan_266, zan_267, zan_268, zan_270, zan_271, zan_273, zan_293, zan_294, zan_295, zan_296, zan_297, zan_298, zan_299, zan_300, zan_301, zan_302, zan_303, zan_305, zan_306, zan_307, zan_11, zan_12, zan_13, zan_14, zan_15, zan_16, zan_17, zan_18, zaj_261, zaj_262, zaj_269, zaj_304, k_0, k_1, k_2, k_3, k_4, k_5, k_6, k_7, k_8, k_9, k_10, k_11, k_12, k_13, k_14, k_15, k_16, k_17, k_18, k_19, k_20, k_21, k_22, k_23, k_24, k_25, k_26, k_27, k_28, k_29, k_30, k_31, k_32, k_33, k_34, k_35, k_36, k_40, k_44, k_48, k_50, k_54, k_57, k_59, k_63, k_64, k_69, k_70, k_71, k_72, k_73, k_74, k_75, k_77, k_82, k_89, k_97, k_100, k_102, k_105, k_108, k_111, k_118, k_119, k_127, k_178, k_180, k_255, k_320, k_400, k_999, k_1000, k_1771, k_1848, k_999999, k_1000000, k_252645135, k_858993459, k_1431655765]; done) | fail) only [s_226_18, s_226_19, s_226_20, s_226_21, s_226_23, s_226_24, k0, k3, q, ze_c, z1_s, z1_n, z1_p, z2_s, z2_n, z2_p, Nat.zero_le, zvI_int, zvJ_long, zvA_is, zvi_int, cat_int, cat_ref, cat_long, zc_0, zc_1, zc_2, zc_3, zc_4, Nat.reduceAdd, Nat.reduceLeDiff, Nat.reduceEqDiff, reduceIte, Option.toList_some, Option.toList_none, List.nil_append, List.cons_append, decide_true, decide_false, Bool.or_true, Bool.true_or, Bool.or_false, Bool.or_self, Bool.not_false, ne_eq, not_false_eq_true, not_true_eq_false, eq_self, and_true, true_and, and_false, false_and, ↓bI_ok, bI_z, ite_not, nI_add, pk_mul, nI_eqI, nI_leP, nI_ltP, nI_clamp, zin_nI, Nat.le_refl, Nat.add_zero, ite_self, zU_i, zUl_i, zU_o, zUl_o, rc_u, rc_l, rc_e, if_true, if_false, Nat.reduceLT, Nat.not_lt_zero, nI_m1, m1_le, m1_lt, nI_mM, mM_lt, Bool.false_eq_true, lgz_eq, lgz_lt, lgz_le, lgz_gt, lgz_ge, cq_ref, cq_int, zan_19, zan_20, zan_22, zan_24, zan_25, zan_26, zan_27, zan_28, zan_29, zan_30, zan_31, zan_33, zan_34, zan_35, zan_36, zan_37, zan_38, zan_39, zan_40, zan_263, zan_264, zan_266, zan_267, zan_268, zan_270, zan_271, zan_273, zan_293, zan_294, zan_295, zan_296, zan_297, zan_298, zan_299, zan_300, zan_301, zan_302, zan_303, zan_305, zan_306, zan_307, zan_11, zan_12, zan_13, zan_14, zan_15, zan_16, zan_17, zan_18, zaj_261, zaj_262, zaj_269, zaj_304, k_0, k_1, k_2, k_3, k_4, k_5, k_6, k_7, k_8, k_9, k_10, k_11, k_12, k_13, k_14, k_15, k_16, k_17, k_18, k_19, k_20, k_21, k_22, k_23, k_24, k_25, k_26, k_27, k_28, k_29, k_30, k_31, k_32, k_33, k_34, k_35, k_36, k_40, k_44, k_48, k_50, k_54, k_57, k_59, k_63, k_64, k_69, k_70, k_71, k_72, k_73, k_74, k_75, k_77, k_82, k_89, k_97, k_100, k_102, k_105, k_108, k_111, k_118, k_119, k_127, k_178, k_180, k_255, k_320, k_400, k_999, k_1000, k_1771, k_1848, k_999999, k_1000000, k_252645135, k_858993459, k_1431655765]
    rw [s_226_1238, s_226_1239 rfl]
    exact ⟨rfl, s, rfl⟩
  | succ n ih =>
    intro i s ls hn h4 hI hx k0 k1 k2 k3
    by_cases c : L < i + 6
    · have q : nI L - nI 6 < nI i := (lw_lt (by omega) (by omega)).mpr c
      simp (disch := first | omega | (simp (disch := omega) only [k0, k3, q, ze_c, z1_s, z1_n, z1_p, z2_s, z2_n, z2_p, Nat.zero_le, zvI_int, zvJ_long, zvA_is, zvi_int, cat_int, cat_ref, cat_long, zc_0, zc_1, zc_2, zc_3, zc_4, Nat.reduceAdd, Nat.reduceLeDiff, Nat.reduceEqDiff, reduceIte, Option.toList_some, Option.toList_none, List.nil_append, List.cons_append, decide_true, decide_false, Bool.or_true, Bool.true_or, Bool.or_false, Bool.or_self, Bool.not_false, ne_eq, not_false_eq_true, not_true_eq_false, eq_self, and_true, true_and, and_false, false_and, ↓bI_ok, bI_z, ite_not, nI_add, pk_mul, nI_eqI, nI_leP, nI_ltP, nI_clamp, zin_nI, Nat.le_refl, Nat.add_zero, ite_self, zU_i, zUl_i, zU_o, zUl_o, rc_u, rc_l, rc_e, if_true, if_false, Nat.reduceLT, Nat.not_lt_zero, nI_m1, m1_le, m1_lt, nI_mM, mM_lt, Bool.false_eq_true, lgz_eq, lgz_lt, lgz_le, lgz_gt, lgz_ge, cq_ref, cq_int, zan_19, zan_20, zan_22, zan_24, zan_25, zan_26, zan_27, zan_28, zan_29, zan_30, zan_31, zan_33, zan_34, zan_35, zan_36, zan_37, zan_38, zan_39, zan_40, zan_263, zan_264, zan_266, zan_267, zan_268, zan_270, zan_271, zan_273, zan_293, zan_294, zan_295, zan_296, zan_297, zan_298, zan_299, zan_300, zan_301, zan_302, zan_303, zan_305, zan_306, zan_307, zan_11, zan_12, zan_13, zan_14, zan_15, zan_16, zan_17, zan_18, zaj_261, zaj_262, zaj_269, zaj_304, k_0, k_1, k_2, k_3, k_4, k_5, k_6, k_7, k_8, k_9, k_10, k_11, k_12, k_13, k_14, k_15, k_16, k_17, k_18, k_19, k_20, k_21, k_22, k_23, k_24, k_25, k_26, k_27, k_28, k_29, k_30, k_31, k_32, k_33, k_34, k_35, k_36, k_40, k_44, k_48, k_50, k_54, k_57, k_59, k_63, k_64, k_69, k_70, k_71, k_72, k_73, k_74, k_75, k_77, k_82, k_89, k_97, k_100, k_102, k_105, k_108, k_111, k_118, k_119, k_127, k_178, k_180, k_255, k_320, k_400, k_999, k_1000, k_1771, k_1848, k_999999, k_1000000, k_252645135, k_858993459, k_1431655765]; done) | fail) only [s_226_18, s_226_19, s_226_20, s_226_21, s_226_23, s_226_24, k0, k3, q, ze_c, z1_s, z1_n, z1_p, z2_s, z2_n, z2_p, Nat.zero_le, zvI_int, zvJ_long, zvA_is, zvi_int, cat_int, cat_ref, cat_long, zc_0, zc_1, zc_2, zc_3, zc_4, Nat.reduceAdd, Nat.reduceLeDiff, Nat.reduceEqDiff, reduceIte, Option.toList_some, Option.toList_none, List.nil_append, List.cons_append, decide_true, decide_false, Bool.or_true, Bool.true_or, Bool.or_false, Bool.or_self, Bool.not_false, ne_eq, not_false_eq_true, not_true_eq_false, eq_self, and_true, true_and, and_false, false_and, ↓bI_ok, bI_z, ite_not, nI_add, pk_mul, nI_eqI, nI_leP, nI_ltP, nI_clamp, zin_nI, Nat.le_refl, Nat.add_zero, ite_self, zU_i, zUl_i, zU_o, zUl_o, rc_u, rc_l, rc_e, if_true, if_false, Nat.reduceLT, Nat.not_lt_zero, nI_m1, m1_le, m1_lt, nI_mM, mM_lt, Bool.false_eq_true, lgz_eq, lgz_lt, lgz_le, lgz_gt, lgz_ge, cq_ref, cq_int, zan_19, zan_20, zan_22, zan_24, zan_25, zan_26, zan_27, zan_28, zan_29, zan_30, zan_31, zan_33, zan_34, zan_35, zan_36, zan_37, zan_38, zan_39, zan_40, zan_263, zan_264, zan_266, zan_267, zan_268, zan_270, zan_271, zan_273, zan_293, zan_294, zan_295, zan_296, zan_297, zan_298, zan_299, zan_300, zan_301, zan_302, zan_303, zan_305, zan_306, zan_307, zan_11, zan_12, zan_13, zan_14, zan_15, zan_16, zan_17, zan_18, zaj_261, zaj_262, zaj_269, zaj_304, k_0, k_1, k_2, k_3, k_4, k_5, k_6, k_7, k_8, k_9, k_10, k_11, k_12, k_13, k_14, k_15, k_16, k_17, k_18, k_19, k_20, k_21, k_22, k_23, k_24, k_25, k_26, k_27, k_28, k_29, k_30, k_31, k_32, k_33, k_34, k_35, k_36, k_40, k_44, k_48, k_50, k_54, k_57, k_59, k_63, k_64, k_69, k_70, k_71, k_72, k_73, k_74, k_75, k_77, k_82, k_89, k_97, k_100, k_102, k_105, k_108, k_111, k_118, k_119, k_127, k_178, k_180, k_255, k_320, k_400, k_999, k_1000, k_1771, k_1848, k_999999, k_1000000, k_252645135, k_858993459, k_1431655765]
      rw [s_226_1238, s_226_1239 rfl]
      exact ⟨rfl, s, rfl⟩
    · have q : ¬ (nI L - nI 6 < nI i) := fun w => c ((lw_lt (by omega) (by omega)).mp w)
      have hi : i + 6 ≤ L := by omega
      simp (disch := first | omega | (simp (disch := omega) only [k0, k3, q, hx, ze_c, z1_s, z1_n, z1_p, z2_s, z2_n, z2_p, Nat.zero_le, zvI_int, zvJ_long, zvA_is, zvi_int, cat_int, cat_ref, cat_long, zc_0, zc_1, zc_2, zc_3, zc_4, Nat.reduceAdd, Nat.reduceLeDiff, Nat.reduceEqDiff, reduceIte, Option.toList_some, Option.toList_none, List.nil_append, List.cons_append, decide_true, decide_false, Bool.or_true, Bool.true_or, Bool.or_false, Bool.or_self, Bool.not_false, ne_eq, not_false_eq_true, not_true_eq_false, eq_self, and_true, true_and, and_false, false_and, ↓bI_ok, bI_z, ite_not, nI_add, pk_mul, nI_eqI, nI_leP, nI_ltP, nI_clamp, zin_nI, Nat.le_refl, Nat.add_zero, ite_self, zU_i, zUl_i, zU_o, zUl_o, rc_u, rc_l, rc_e, if_true, if_false, Nat.reduceLT, Nat.not_lt_zero, nI_m1, m1_le, m1_lt, nI_mM, mM_lt, Bool.false_eq_true, lgz_eq, lgz_lt, lgz_le, lgz_gt, lgz_ge, cq_ref, cq_int, zan_19, zan_20, zan_22, zan_24, zan_25, zan_26, zan_27, zan_28, zan_29, zan_30, zan_31, zan_33, zan_34, zan_35, zan_36, zan_37, zan_38, zan_39, zan_40, zan_263, zan_264, zan_266, zan_267, zan_268, zan_270, zan_271, zan_273, zan_293, zan_294, zan_295, zan_296, zan_297, zan_298, zan_299, zan_300, zan_301, zan_302, zan_303, zan_305, zan_306, zan_307, zan_11, zan_12, zan_13, zan_14, zan_15, zan_16, zan_17, zan_18, zaj_261, zaj_262, zaj_269, zaj_304, k_0, k_1, k_2, k_3, k_4, k_5, k_6, k_7, k_8, k_9, k_10, k_11, k_12, k_13, k_14, k_15, k_16, k_17, k_18, k_19, k_20, k_21, k_22, k_23, k_24, k_25, k_26, k_27, k_28, k_29, k_30, k_31, k_32, k_33, k_34, k_35, k_36, k_40, k_44, k_48, k_50, k_54, k_57, k_59, k_63, k_64, k_69, k_70, k_71, k_72, k_73, k_74, k_75, k_77, k_82, k_89, k_97, k_100, k_102, k_105, k_108, k_111, k_118, k_119, k_127, k_178, k_180, k_255, k_320, k_400, k_999, k_1000, k_1771, k_1848, k_999999, k_1000000, k_252645135, k_858993459, k_1431655765]; done) | fail) only [s_226_18, s_226_19, s_226_20, s_226_21, s_226_23, s_226_24, s_226_27, s_226_28, s_226_29, s_226_30, s_226_32, k0, k3, q, hx, ze_c, z1_s, z1_n, z1_p, z2_s, z2_n, z2_p, Nat.zero_le, zvI_int, zvJ_long, zvA_is, zvi_int, cat_int, cat_ref, cat_long, zc_0, zc_1, zc_2, zc_3, zc_4, Nat.reduceAdd, Nat.reduceLeDiff, Nat.reduceEqDiff, reduceIte, Option.toList_some, Option.toList_none, List.nil_append, List.cons_append, decide_true, decide_false, Bool.or_true, Bool.true_or, Bool.or_false, Bool.or_self, Bool.not_false, ne_eq, not_false_eq_true, not_true_eq_false, eq_self, and_true, true_and, and_false, false_and, ↓bI_ok, bI_z, ite_not, nI_add, pk_mul, nI_eqI, nI_leP, nI_ltP, nI_clamp, zin_nI, Nat.le_refl, Nat.add_zero, ite_self, zU_i, zUl_i, zU_o, zUl_o, rc_u, rc_l, rc_e, if_true, if_false, Nat.reduceLT, Nat.not_lt_zero, nI_m1, m1_le, m1_lt, nI_mM, mM_lt, Bool.false_eq_true, lgz_eq, lgz_lt, lgz_le, lgz_gt, lgz_ge, cq_ref, cq_int, zan_19, zan_20, zan_22, zan_24, zan_25, zan_26, zan_27, zan_28, zan_29, zan_30, zan_31, zan_33, zan_34, zan_35, zan_36, zan_37, zan_38, zan_39, zan_40, zan_263, zan_264, zan_266, zan_267, zan_268, zan_270, zan_271, zan_273, zan_293, zan_294, zan_295, zan_296, zan_297, zan_298, zan_299, zan_300, zan_301, zan_302, zan_303, zan_305, zan_306, zan_307, zan_11, zan_12, zan_13, zan_14, zan_15, zan_16, zan_17, zan_18, zaj_261, zaj_262, zaj_269, zaj_304, k_0, k_1, k_2, k_3, k_4, k_5, k_6, k_7, k_8, k_9, k_10, k_11, k_12, k_13, k_14, k_15, k_16, k_17, k_18, k_19, k_20, k_21, k_22, k_23, k_24, k_25, k_26, k_27, k_28, k_29, k_30, k_31, k_32, k_33, k_34, k_35, k_36, k_40, k_44, k_48, k_50, k_54, k_57, k_59, k_63, k_64, k_69, k_70, k_71, k_72, k_73, k_74, k_75, k_77, k_82, k_89, k_97, k_100, k_102, k_105, k_108, k_111, k_118, k_119, k_127, k_178, k_180, k_255, k_320, k_400, k_999, k_1000, k_1771, k_1848, k_999999, k_1000000, k_252645135, k_858993459, k_1431655765]
      refine lw_switch hI hx k0 k1 k2 k3 hi hL (fun s' hI' hx' => ?_)
      simp (disch := first | omega | (simp (disch := omega) only [k0, k3, ze_c, z1_s, z1_n, z1_p, z2_s, z2_n, z2_p, Nat.zero_le, zvI_int, zvJ_long, zvA_is, zvi_int, cat_int, cat_ref, cat_long, zc_0, zc_1, zc_2, zc_3, zc_4, Nat.reduceAdd, Nat.reduceLeDiff, Nat.reduceEqDiff, reduceIte, Option.toList_some, Option.toList_none, List.nil_append, List.cons_append, decide_true, decide_false, Bool.or_true, Bool.true_or, Bool.or_false, Bool.or_self, Bool.not_false, ne_eq, not_false_eq_true, not_true_eq_false, eq_self, and_true, true_and, and_false, false_and, ↓bI_ok, bI_z, ite_not, nI_add, pk_mul, nI_eqI, nI_leP, nI_ltP, nI_clamp, zin_nI, Nat.le_refl, Nat.add_zero, ite_self, zU_i, zUl_i, zU_o, zUl_o, rc_u, rc_l, rc_e, if_true, if_false, Nat.reduceLT, Nat.not_lt_zero, nI_m1, m1_le, m1_lt, nI_mM, mM_lt, Bool.false_eq_true, lgz_eq, lgz_lt, lgz_le, lgz_gt, lgz_ge, cq_ref, cq_int, zan_19, zan_20, zan_22, zan_24, zan_25, zan_26, zan_27, zan_28, zan_29, zan_30, zan_31, zan_33, zan_34, zan_35, zan_36, zan_37, zan_38, zan_39, zan_40, zan_263, zan_264, zan_266, zan_267, zan_268, zan_270, zan_271, zan_273, zan_293, zan_294, zan_295, zan_296, zan_297, zan_298, zan_299, zan_300, zan_301, zan_302, zan_303, zan_305, zan_306, zan_307, zan_11, zan_12, zan_13, zan_14, zan_15, zan_16, zan_17, zan_18, zaj_261, zaj_262, zaj_269, zaj_304, k_0, k_1, k_2, k_3, k_4, k_5, k_6, k_7, k_8, k_9, k_10, k_11, k_12, k_13, k_14, k_15, k_16, k_17, k_18, k_19, k_20, k_21, k_22, k_23, k_24, k_25, k_26, k_27, k_28, k_29, k_30, k_31, k_32, k_33, k_34, k_35, k_36, k_40, k_44, k_48, k_50, k_54, k_57, k_59, k_63, k_64, k_69, k_70, k_71, k_72, k_73, k_74, k_75, k_77, k_82, k_89, k_97, k_100, k_102, k_105, k_108, k_111, k_118, k_119, k_127, k_178, k_180, k_255, k_320, k_400, k_999, k_1000, k_1771, k_1848, k_999999, k_1000000, k_252645135, k_858993459, k_1431655765]; done) | fail) only [s_226_1232, s_226_1235, k0, k3, ze_c, z1_s, z1_n, z1_p, z2_s, z2_n, z2_p, Nat.zero_le, zvI_int, zvJ_long, zvA_is, zvi_int, cat_int, cat_ref, cat_long, zc_0, zc_1, zc_2, zc_3, zc_4, Nat.reduceAdd, Nat.reduceLeDiff, Nat.reduceEqDiff, reduceIte, Option.toList_some, Option.toList_none, List.nil_append, List.cons_append, decide_true, decide_false, Bool.or_true, Bool.true_or, Bool.or_false, Bool.or_self, Bool.not_false, ne_eq, not_false_eq_true, not_true_eq_false, eq_self, and_true, true_and, and_false, false_and, ↓bI_ok, bI_z, ite_not, nI_add, pk_mul, nI_eqI, nI_leP, nI_ltP, nI_clamp, zin_nI, Nat.le_refl, Nat.add_zero, ite_self, zU_i, zUl_i, zU_o, zUl_o, rc_u, rc_l, rc_e, if_true, if_false, Nat.reduceLT, Nat.not_lt_zero, nI_m1, m1_le, m1_lt, nI_mM, mM_lt, Bool.false_eq_true, lgz_eq, lgz_lt, lgz_le, lgz_gt, lgz_ge, cq_ref, cq_int, zan_19, zan_20, zan_22, zan_24, zan_25, zan_26, zan_27, zan_28, zan_29, zan_30, zan_31, zan_33, zan_34, zan_35, zan_36, zan_37, zan_38, zan_39, zan_40, zan_263, zan_264, zan_266, zan_267, zan_268, zan_270, zan_271, zan_273, zan_293, zan_294, zan_295, zan_296, zan_297, zan_298, zan_299, zan_300, zan_301, zan_302, zan_303, zan_305, zan_306, zan_307, zan_11, zan_12, zan_13, zan_14, zan_15, zan_16, zan_17, zan_18, zaj_261, zaj_262, zaj_269, zaj_304, k_0, k_1, k_2, k_3, k_4, k_5, k_6, k_7, k_8, k_9, k_10, k_11, k_12, k_13, k_14, k_15, k_16, k_17, k_18, k_19, k_20, k_21, k_22, k_23, k_24, k_25, k_26, k_27, k_28, k_29, k_30, k_31, k_32, k_33, k_34, k_35, k_36, k_40, k_44, k_48, k_50, k_54, k_57, k_59, k_63, k_64, k_69, k_70, k_71, k_72, k_73, k_74, k_75, k_77, k_82, k_89, k_97, k_100, k_102, k_105, k_108, k_111, k_118, k_119, k_127, k_178, k_180, k_255, k_320, k_400, k_999, k_1000, k_1771, k_1848, k_999999, k_1000000, k_252645135, k_858993459, k_1431655765]
      exact ih (i + 6) s' _ (by omega) (by omega) hI' hx' k0 k1 (by simp (disch := first | omega | (simp (disch := omega) only [k2, ze_c, z1_s, z1_n, z1_p, z2_s, z2_n, z2_p, Nat.zero_le, zvI_int, zvJ_long, zvA_is, zvi_int, cat_int, cat_ref, cat_long, zc_0, zc_1, zc_2, zc_3, zc_4, Nat.reduceAdd, Nat.reduceLeDiff, Nat.reduceEqDiff, reduceIte, Option.toList_some, Option.toList_none, List.nil_append, List.cons_append, decide_true, decide_false, Bool.or_true, Bool.true_or, Bool.or_false, Bool.or_self, Bool.not_false, ne_eq, not_false_eq_true, not_true_eq_false, eq_self, and_true, true_and, and_false, false_and, ↓bI_ok, bI_z, ite_not, nI_add, pk_mul, nI_eqI, nI_leP, nI_ltP, nI_clamp, zin_nI, Nat.le_refl, Nat.add_zero, ite_self, zU_i, zUl_i, zU_o, zUl_o, rc_u, rc_l, rc_e, if_true, if_false, Nat.reduceLT, Nat.not_lt_zero, nI_m1, m1_le, m1_lt, nI_mM, mM_lt, Bool.false_eq_true, lgz_eq, lgz_lt, lgz_le, lgz_gt, lgz_ge, cq_ref, cq_int, zan_19, zan_20, zan_22, zan_24, zan_25, zan_26, zan_27, zan_28, zan_29, zan_30, zan_31, zan_33, zan_34, zan_35, zan_36, zan_37, zan_38, zan_39, zan_40, zan_263, zan_264, zan_266, zan_267, zan_268, zan_270, zan_271, zan_273, zan_293, zan_294, zan_295, zan_296, zan_297, zan_298, zan_299, zan_300, zan_301, zan_302, zan_303, zan_305, zan_306, zan_307, zan_11, zan_12, zan_13, zan_14, zan_15, zan_16, zan_17, zan_18, zaj_261, zaj_262, zaj_269, zaj_304, k_0, k_1, k_2, k_3, k_4, k_5, k_6, k_7, k_8, k_9, k_10, k_11, k_12, k_13, k_14, k_15, k_16, k_17, k_18, k_19, k_20, k_21, k_22, k_23, k_24, k_25, k_26, k_27, k_28, k_29, k_30, k_31, k_32, k_33, k_34, k_35, k_36, k_40, k_44, k_48, k_50, k_54, k_57, k_59, k_63, k_64, k_69, k_70, k_71, k_72, k_73, k_74, k_75, k_77, k_82, k_89, k_97, k_100, k_102, k_105, k_108, k_111, k_118, k_119, k_127, k_178, k_180, k_255, k_320, k_400, k_999, k_1000, k_1771, k_1848, k_999999, k_1000000, k_252645135, k_858993459, k_1431655765]; done) | fail) only [k2, ze_c, z1_s, z1_n, z1_p, z2_s, z2_n, z2_p, Nat.zero_le, zvI_int, zvJ_long, zvA_is, zvi_int, cat_int, cat_ref, cat_long, zc_0, zc_1, zc_2, zc_3, zc_4, Nat.reduceAdd, Nat.reduceLeDiff, Nat.reduceEqDiff, reduceIte, Option.toList_some, Option.toList_none, List.nil_append, List.cons_append, decide_true, decide_false, Bool.or_true, Bool.true_or, Bool.or_false, Bool.or_self, Bool.not_false, ne_eq, not_false_eq_true, not_true_eq_false, eq_self, and_true, true_and, and_false, false_and, ↓bI_ok, bI_z, ite_not, nI_add, pk_mul, nI_eqI, nI_leP, nI_ltP, nI_clamp, zin_nI, Nat.le_refl, Nat.add_zero, ite_self, zU_i, zUl_i, zU_o, zUl_o, rc_u, rc_l, rc_e, if_true, if_false, Nat.reduceLT, Nat.not_lt_zero, nI_m1, m1_le, m1_lt, nI_mM, mM_lt, Bool.false_eq_true, lgz_eq, lgz_lt, lgz_le, lgz_gt, lgz_ge, cq_ref, cq_int, zan_19, zan_20, zan_22, zan_24, zan_25, zan_26, zan_27, zan_28, zan_29, zan_30, zan_31, zan_33, zan_34, zan_35, zan_36, zan_37, zan_38, zan_39, zan_40, zan_263, zan_264, zan_266, zan_267, zan_268, zan_270, zan_271, zan_273, zan_293, zan_294, zan_295, zan_296, zan_297, zan_298, zan_299, zan_300, zan_301, zan_302, zan_303, zan_305, zan_306, zan_307, zan_11, zan_12, zan_13, zan_14, zan_15, zan_16, zan_17, zan_18, zaj_261, zaj_262, zaj_269, zaj_304, k_0, k_1, k_2, k_3, k_4, k_5, k_6, k_7, k_8, k_9, k_10, k_11, k_12, k_13, k_14, k_15, k_16, k_17, k_18, k_19, k_20, k_21, k_22, k_23, k_24, k_25, k_26, k_27, k_28, k_29, k_30, k_31, k_32, k_33, k_34, k_35, k_36, k_40, k_44, k_48, k_50, k_54, k_57, k_59, k_63, k_64, k_69, k_70, k_71, k_72, k_73, k_74, k_75, k_77, k_82, k_89, k_97, k_100, k_102, k_105, k_108, k_111, k_118, k_119, k_127, k_178, k_180, k_255, k_320, k_400, k_999, k_1000, k_1771, k_1848, k_999999, k_1000000, k_252645135, k_858993459, k_1431655765]) rfl
