/-! SOUND, 1: how the small machine's things stand for the great one's -/
def zA (B : Nat) : Nat → Prop := fun q => B ≤ q
/-- where things lie: the first new address, the old values, the array kinds, the kinds of objects, the script -/
abbrev zE : Type := Nat × (Nat → Value) × (Nat → ClassId) × va_G × Nat × (Nat → Int32)
def zad (G : zE) (a : Nat) : Value := if a < 8 then G.2.1 a else .ref (G.1 + (a - 8))
def ztv (G : zE) (v : Value) : Value := match v with
  | .ref a => zad G a
  | v => v
theorem ztv_int (G : zE) (x : Int32) : ztv G (.int x) = .int x := rfl
theorem ztv_long (G : zE) (x : Int64) : ztv G (.long x) = .long x := rfl
theorem ztv_null (G : zE) : ztv G .null = .null := rfl
theorem ztv_ref (G : zE) (a : Nat) : ztv G (.ref a) = zad G a := rfl
theorem zad_new (G : zE) {a : Nat} (h : ¬ a < 8) : zad G a = .ref (G.1 + (a - 8)) := if_neg h
theorem zad_old (G : zE) {a : Nat} (h : a < 8) : zad G a = G.2.1 a := if_pos h
def zce (G : zE) (c : zC) : va_E := match c with
  | .inl (t, n, .inl f) => .inl (G.2.2.1 t, n, .inl f)
  | .inl (t, n, .inr (.inl f)) => .inl (G.2.2.1 t, n, .inr (.inl f))
  | .inl (t, n, .inr (.inr f)) => .inl (G.2.2.1 t, n, .inr (.inr (.inr (.inr (fun j => (f j).map (fun a => G.1 + (a - 8)))))))
  | .inr (ci, fs) => .inr (ci, fs.map (ztv G))
/-- the heap H holds what h tells -/
def zP (G : zE) (h : zH) (H : Heap) : Prop := H.size = G.1 + h.1 ∧ (∀ a, a < 8 → h.2.2 a = zold G.2.2.2.2.1 G.2.2.2.2.2 a) ∧ ∀ k, k < h.1 → va_at G.2.2.2.1 vwCl (G.1 + k, zce G (h.2.2 (8 + k))) H
def zty (G : zE) : List (ClassId × FieldType) := [(G.2.2.1 0, .int), (G.2.2.1 1, .long), (G.2.2.1 2, .object "ProphetFines$Republic"), (G.2.2.1 3, .array .int)]
/-- of the tables -/
def zK (G : zE) (U : State) : Prop := va_K G.2.2.2.1 vwCl (zty G) U ∧ (∀ w ∈ zNW, va_Nw w U) ∧ va_AO "ProphetFines$Republic" U ∧ va_Nw (.arrayOver (.array .int)) U
/-- of what is old -/
def zX (G : zE) (U : State) (H : Heap) : Prop :=
  (∃ t, G.2.1 0 = .ref t ∧ va_T .int t G.2.2.2.2.1 (fun j => .int (G.2.2.2.2.2 j)) (zA G.1) U H) ∧
  (∃ t, G.2.1 1 = .ref t ∧ va_T .int t 6 (fun j => .int (zo1 j)) (zA G.1) U H ∧ va_Z "ProphetFines" "WIDER_KIND" "[I" (.ref t) (zA G.1) U H) ∧
  (∃ t, G.2.1 2 = .ref t ∧ va_T .long t 6 (fun j => .long (zo2 j)) (zA G.1) U H ∧ va_Z "ProphetFines" "SETS_WITH" "[J" (.ref t) (zA G.1) U H) ∧
  (∃ t, G.2.1 3 = .ref t ∧ va_T .int t 6 (fun j => .int (zo3 j)) (zA G.1) U H ∧ va_Z "ProphetFines$Asked" "SIZE_BODIES" "[I" (.ref t) (zA G.1) U H) ∧
  (∃ t, G.2.1 4 = .ref t ∧ va_T .int t 6 (fun j => .int (zo4 j)) (zA G.1) U H ∧ va_Z "ProphetFines$Asked" "MARK_BODIES" "[I" (.ref t) (zA G.1) U H) ∧
  (∃ t u, G.2.1 5 = .ref t ∧ G.2.1 6 = .ref u ∧ va_O "java/lang/String" t (zA G.1) U H ∧ va_OF "java/lang/String" "coder" "B" (.int 0) t (zA G.1) U H ∧ va_OF "java/lang/String" "value" "[B" (.ref u) t (zA G.1) U H ∧ va_T .byte u 6 (fun j => .int (zo6 j)) (zA G.1) U H ∧ vk_R "ProphetFines$Tape" 79 ".wlaoi" t U) ∧
  va_Z "java/lang/String" "COMPACT_STRINGS" "Z" (.int 1) (zA G.1) U H ∧
  va_Z "jdk/internal/util/Preconditions" "SIOOBE_FORMATTER" "Ljava/util/function/BiFunction;" (G.2.1 7) (zA G.1) U H ∧ (G.2.1 7 = .null ∨ ∃ t, G.2.1 7 = .ref t)
theorem zX.kept {G : zE} {U : State} {H H1 : Heap} (h : zX G U H) (hq : ∀ a : Nat, a < H.size → ¬ zA G.1 a → H1[a]? = H[a]?) : zX G U H1 := by
  obtain ⟨⟨t0, a0, b0⟩, ⟨t1, a1, b1, c1⟩, ⟨t2, a2, b2, c2⟩, ⟨t3, a3, b3, c3⟩, ⟨t4, a4, b4, c4⟩, ⟨t5, u5, a5, b5, c5, d5, e5, f5, g5⟩, h6, h7, h8⟩ := h
  exact ⟨⟨t0, a0, b0.kept hq⟩, ⟨t1, a1, b1.kept hq, c1.kept hq⟩, ⟨t2, a2, b2.kept hq, c2.kept hq⟩, ⟨t3, a3, b3.kept hq, c3.kept hq⟩, ⟨t4, a4, b4.kept hq, c4.kept hq⟩, ⟨t5, u5, a5, b5, c5.kept hq, d5.kept hq, e5.kept hq, f5.kept hq, g5⟩, h6.kept hq, h7.kept hq, h8⟩
theorem zX.warm {G : zE} {s U : State} {H : Heap} (hW : s.WarmedH U.vm) (h : zX G s H) : zX G U H := by
  obtain ⟨⟨t0, a0, b0⟩, ⟨t1, a1, b1, c1⟩, ⟨t2, a2, b2, c2⟩, ⟨t3, a3, b3, c3⟩, ⟨t4, a4, b4, c4⟩, ⟨t5, u5, a5, b5, c5, d5, e5, f5, g5⟩, h6, h7, h8⟩ := h
  have w := hW.alike
  exact ⟨⟨t0, a0, b0.moved w⟩, ⟨t1, a1, b1.moved w, c1.moved w⟩, ⟨t2, a2, b2.moved w, c2.moved w⟩, ⟨t3, a3, b3.moved w, c3.moved w⟩, ⟨t4, a4, b4.moved w, c4.moved w⟩, ⟨t5, u5, a5, b5, c5.moved w, d5.moved w, e5.moved w, f5.moved w, g5.warm hW⟩, h6.moved w, h7.moved w, h8⟩
theorem zX.same {G : zE} {u U : State} {H : Heap} (hv : U.vm = u.vm) (h : zX G u H) : zX G U H := by
  obtain ⟨⟨t0, a0, b0⟩, ⟨t1, a1, b1, c1⟩, ⟨t2, a2, b2, c2⟩, ⟨t3, a3, b3, c3⟩, ⟨t4, a4, b4, c4⟩, ⟨t5, u5, a5, b5, c5, d5, e5, f5, g5⟩, h6, h7, h8⟩ := h
  have w : u.vm.Alike U.vm := by rw [hv]; exact Vm.Alike.refl u.vm
  exact ⟨⟨t0, a0, b0.moved w⟩, ⟨t1, a1, b1.moved w, c1.moved w⟩, ⟨t2, a2, b2.moved w, c2.moved w⟩, ⟨t3, a3, b3.moved w, c3.moved w⟩, ⟨t4, a4, b4.moved w, c4.moved w⟩, ⟨t5, u5, a5, b5, c5.moved w, d5.moved w, e5.moved w, f5.moved w, g5.same hv⟩, h6.moved w, h7.moved w, h8⟩
theorem zov_moved {u U : State} (hvm : u.vm.Alike U.vm) (h : va_Nw (.arrayOver (.array .int)) u) : va_Nw (.arrayOver (.array .int)) U := Jvm.Stand.arrayOver_alikeB hvm h
theorem zNW_form : ∀ w ∈ zNW, (∃ a i b n d q, w = .fieldLinkNest a i b n d q) ∨ ∃ a i x q, w = .methodLinkNest a i x q := by
  intro w hw
  simp only [zNW, List.mem_cons, List.not_mem_nil, or_false] at hw
  rcases hw with rfl | rfl | rfl | rfl | rfl | rfl | rfl | rfl | rfl | rfl | rfl | rfl | rfl | rfl | rfl <;> first | exact Or.inl ⟨_, _, _, _, _, _, rfl⟩ | exact Or.inr ⟨_, _, _, _, rfl⟩
theorem zK.warm {G : zE} {s U : State} (hW : s.WarmedH U.vm) (h : zK G s) : zK G U := by
  obtain ⟨h1, h2, h3, h4⟩ := h
  refine ⟨va_K.moved hW.alike h1, fun w hw => ?_, va_AO.moved hW.alike h3, zov_moved hW.alike h4⟩
  rcases zNW_form w hw with ⟨a, i, b, n, d, q, rfl⟩ | ⟨a, i, x, q, rfl⟩
  · exact va_Nw.warmF hW (h2 _ hw)
  · exact va_Nw.warmM hW (h2 _ hw)
theorem zK.same {G : zE} {u U : State} (hv : U.vm = u.vm) (h : zK G u) : zK G U := by
  obtain ⟨h1, h2, h3, h4⟩ := h
  have w : u.vm.Alike U.vm := by rw [hv]; exact Vm.Alike.refl u.vm
  refine ⟨va_K.moved w h1, fun w hw => ?_, va_AO.moved w h3, zov_moved w h4⟩
  rcases zNW_form w hw with ⟨a, i, b, n, d, q, rfl⟩ | ⟨a, i, x, q, rfl⟩
  · exact va_Nw.same rfl hv.symm (h2 _ hw)
  · exact va_Nw.same rfl hv.symm (h2 _ hw)
/-- the frame's variables -/
def zLv (G : zE) (sl : Array Slot) (nL : Nat) (ls : zL) : Prop := sl.size = nL ∧ lv_wf sl ∧ ∀ i, ls i ≠ .null → sl[i]? = some (.val (ztv G (ls i)))
def zli (G : zE) (nL : Nat) (ls : zL) : List (Nat × Value) := (List.range nL).filterMap (fun i => if ls i = .null then none else some (i, ztv G (ls i)))
theorem zLv.has {G : zE} {sl : Array Slot} {nL : Nat} {ls : zL} (h : zLv G sl nL ls) : lv_has sl nL (zli G nL ls) := by
  refine ⟨h.1, h.2.1, fun q hq => ?_⟩
  obtain ⟨i, -, hi⟩ := List.mem_filterMap.mp hq
  by_cases hn : ls i = .null
  · rw [if_pos hn] at hi; cases hi
  · rw [if_neg hn] at hi
    cases hi
    exact h.2.2 i hn
theorem zLv.lt {G : zE} {sl : Array Slot} {nL : Nat} {ls : zL} (h : zLv G sl nL ls) {i : Nat} (hi : ls i ≠ .null) : i < nL := by
  rw [← h.1]
  exact lv_lt (h.2.2 i hi)
theorem zli_mem {G : zE} {nL : Nat} {ls : zL} {i : Nat} (h : ls i ≠ .null) (hl : i < nL) : (i, ztv G (ls i)) ∈ zli G nL ls := by
  refine List.mem_filterMap.mpr ⟨i, List.mem_range.mpr hl, ?_⟩
  rw [if_neg h]
theorem zoa_form {G : zE} {U : State} {H : Heap} (h : zX G U H) {a : Nat} (ha : a < 8) : (∃ t, G.2.1 a = .ref t) ∨ (a = 7 ∧ G.2.1 7 = .null) := by
  obtain ⟨⟨t0, a0, -⟩, ⟨t1, a1, -⟩, ⟨t2, a2, -⟩, ⟨t3, a3, -⟩, ⟨t4, a4, -⟩, ⟨t5, u5, a5, b5, -⟩, -, -, h8⟩ := h
  rcases (show a = 0 ∨ a = 1 ∨ a = 2 ∨ a = 3 ∨ a = 4 ∨ a = 5 ∨ a = 6 ∨ a = 7 by omega) with rfl | rfl | rfl | rfl | rfl | rfl | rfl | rfl
  · exact Or.inl ⟨_, a0⟩
  · exact Or.inl ⟨_, a1⟩
  · exact Or.inl ⟨_, a2⟩
  · exact Or.inl ⟨_, a3⟩
  · exact Or.inl ⟨_, a4⟩
  · exact Or.inl ⟨_, a5⟩
  · exact Or.inl ⟨_, b5⟩
  · rcases h8 with q | q
    · exact Or.inr ⟨rfl, q⟩
    · exact Or.inl q
theorem zad_form {G : zE} {U : State} {H : Heap} (h : zX G U H) {a : Nat} (ha : a ≠ 7) : ∃ t, zad G a = .ref t := by
  by_cases h8 : a < 8
  · rw [zad_old G h8]
    rcases zoa_form h h8 with q | q
    · exact q
    · exact absurd q.1 ha
  · exact ⟨_, zad_new G h8⟩
theorem ztv_cat {G : zE} {U : State} {H : Heap} (h : zX G U H) (v : Value) : (ztv G v).category = v.category := by
  cases v with
  | ref a =>
    by_cases h8 : a < 8
    · rw [ztv_ref, zad_old G h8]
      rcases zoa_form h h8 with ⟨t, e⟩ | ⟨rfl, e⟩
      · rw [e]; rfl
      · rw [e]; rfl
    · rw [ztv_ref, zad_new G h8]; rfl
  | _ => rfl
theorem zcs_tv {G : zE} {U : State} {H : Heap} (h : zX G U H) (st : List Value) : ((st.map (ztv G)).map fun v => v.category).sum = zcs st := by
  unfold zcs
  rw [List.map_map]
  congr 1
  apply List.map_congr_left
  intro v _
  exact ztv_cat h v
theorem zLv_store1 {G : zE} {U : State} {H : Heap} (hX : zX G U H) {sl sl' : Array Slot} {nL i : Nat} {ls : zL} {v : Value} (h : zLv G sl nL ls) (h' : lv_has sl' nL ((i, ztv G v) :: (zli G nL ls).filter (fun q => !(q.1 == i) && !(q.1 + 1 == i && q.2.category == 2)))) : zLv G sl' nL (z1 ls i v) := by
  refine ⟨h'.1, h'.2.1, fun j hj => ?_⟩
  unfold z1 at hj ⊢
  by_cases h1 : j = i
  · subst h1
    rw [if_pos rfl]
    exact h'.2.2 _ List.mem_cons_self
  · rw [if_neg h1] at hj ⊢
    by_cases h2 : j + 1 = i ∧ (ls j).category = 2
    · rw [if_pos h2] at hj; exact absurd rfl hj
    · rw [if_neg h2] at hj ⊢
      refine h'.2.2 (j, ztv G (ls j)) (List.mem_cons_of_mem _ (List.mem_filter.mpr ⟨zli_mem hj (h.lt hj), ?_⟩))
      have e1 : (j == i) = false := by simp [h1]
      have e2 : (j + 1 == i && (ztv G (ls j)).category == 2) = false := by
        rw [ztv_cat hX]
        simp only [Bool.and_eq_false_iff, beq_eq_false_iff_ne, ne_eq]
        by_cases q : j + 1 = i
        · exact Or.inr (fun z => h2 ⟨q, z⟩)
        · exact Or.inl q
      simp only [e1, e2, Bool.not_false, Bool.and_self]
theorem zLv_store2 {G : zE} {U : State} {H : Heap} (hX : zX G U H) {sl sl' : Array Slot} {nL i : Nat} {ls : zL} {v : Value} (h : zLv G sl nL ls) (h' : lv_has sl' nL ((i, ztv G v) :: (zli G nL ls).filter (fun q => !(q.1 == i) && (!(q.1 == i + 1) && !(q.1 + 1 == i && q.2.category == 2))))) : zLv G sl' nL (z2 ls i v) := by
  refine ⟨h'.1, h'.2.1, fun j hj => ?_⟩
  unfold z2 at hj ⊢
  by_cases h1 : j = i
  · subst h1
    rw [if_pos rfl]
    exact h'.2.2 _ List.mem_cons_self
  · rw [if_neg h1] at hj ⊢
    by_cases h3 : j = i + 1
    · rw [if_pos h3] at hj; exact absurd rfl hj
    · rw [if_neg h3] at hj ⊢
      by_cases h2 : j + 1 = i ∧ (ls j).category = 2
      · rw [if_pos h2] at hj; exact absurd rfl hj
      · rw [if_neg h2] at hj ⊢
        refine h'.2.2 (j, ztv G (ls j)) (List.mem_cons_of_mem _ (List.mem_filter.mpr ⟨zli_mem hj (h.lt hj), ?_⟩))
        have e1 : (j == i) = false := by simp [h1]
        have e3 : (j == i + 1) = false := by simp [h3]
        have e2 : (j + 1 == i && (ztv G (ls j)).category == 2) = false := by
          rw [ztv_cat hX]
          simp only [Bool.and_eq_false_iff, beq_eq_false_iff_ne, ne_eq]
          by_cases q : j + 1 = i
          · exact Or.inr (fun z => h2 ⟨q, z⟩)
          · exact Or.inl q
        simp only [e1, e2, e3, Bool.not_false, Bool.and_self]
/-- the heap, one cell changed, or more cells -/
theorem zP.one {G : zE} {h : zH} {H : Heap} (hP : zP G h H) {a : Nat} (ha : znew h a = true) : ¬ a < 8 ∧ a - 8 < h.1 ∧ va_at G.2.2.2.1 vwCl (G.1 + (a - 8), zce G (h.2.2 a)) H := by
  simp only [znew, Bool.and_eq_true, Nat.ble_eq, Nat.blt_eq] at ha
  have h1 : a - 8 < h.1 := by omega
  have h2 := hP.2.2 (a - 8) h1
  rw [show 8 + (a - 8) = a by omega] at h2
  exact ⟨by omega, h1, h2⟩
theorem zP.set {G : zE} {h : zH} {H H1 : Heap} (hP : zP G h H) {a : Nat} {c : zC} (ha : znew h a = true) (hz : H1.size = H.size) (hq : ∀ q : Nat, q ≠ G.1 + (a - 8) → H1[q]? = H[q]?) (hc : va_at G.2.2.2.1 vwCl (G.1 + (a - 8), zce G c) H1) : zP G (zu h a c) H1 := by
  obtain ⟨h8, h1, -⟩ := hP.one ha
  refine ⟨hz.trans hP.1, fun b hb => ?_, fun k hk => ?_⟩
  · show (if b = a then c else h.2.2 b) = _
    rw [if_neg (by omega)]
    exact hP.2.1 b hb
  · show va_at _ _ (G.1 + k, zce G (if 8 + k = a then c else h.2.2 (8 + k))) H1
    by_cases e : 8 + k = a
    · rw [if_pos e]
      rw [show a - 8 = k by omega] at hc
      exact hc
    · rw [if_neg e]
      exact (hP.2.2 k hk).kept (hq _ (by show G.1 + k ≠ _; omega))
theorem zP.push {G : zE} {h : zH} {H H1 : Heap} (hP : zP G h H) {c : zC} {n : Nat} (hz : H1.size = H.size + 1) (hq : ∀ q : Nat, q < H.size → H1[q]? = H[q]?) (hc : va_at G.2.2.2.1 vwCl (G.1 + h.1, zce G c) H1) : zP G (zp h c n) H1 := by
  refine ⟨by rw [hz, hP.1]; rfl, fun b hb => ?_, fun k hk => ?_⟩
  · show (if b = 8 + h.1 then c else h.2.2 b) = _
    rw [if_neg (by omega)]
    exact hP.2.1 b hb
  · show va_at _ _ (G.1 + k, zce G (if 8 + k = 8 + h.1 then c else h.2.2 (8 + k))) H1
    have hk' : k < h.1 + 1 := hk
    by_cases e : 8 + k = 8 + h.1
    · rw [if_pos e, show k = h.1 by omega]
      exact hc
    · rw [if_neg e]
      exact (hP.2.2 k (by omega)).kept (hq _ (by show G.1 + k < _; rw [hP.1]; omega))
