/-! SOUND, 4: rows of rows, copies, calls -/
theorem vr_outer (c : ClassId) (N h0 : Nat) : ∀ i : Nat, Jvm.Free.Multi.outerC c N h0 i = arrV c N (fun j => va_rf (if j < i then some (h0 + 1 + j) else none))
  | 0 => by
    show ({ cls := c, slots := Array.replicate N .null, vm := .none } : Cell) = _
    rw [arrV_new]
    refine congrArg (arrV c N) (funext fun j => ?_)
    simp [va_rf]
  | i + 1 => by
    show (Jvm.Free.Multi.outerC c N h0 i).setSlot i (.ref (h0 + 1 + i)) = _
    rw [vr_outer c N h0 i, arrV_store]
    refine congrArg (arrV c N) (funext fun j => ?_)
    by_cases e : j = i
    · subst e
      simp [updV, va_rf]
    · by_cases h : j < i
      · simp [updV, e, h, Nat.lt_succ_of_lt h]
      · simp [updV, e, h, show ¬ j < i + 1 by omega]
section ZS
variable {p : Program} {l : Launch} {e : Env} {R : Room} {s : State} {m : MethodId} {args : Array Value} {below : List Frame} {meth : Method} {c : Code} {H : Heap} {locs : List Loc} {cells slots : Nat} {Q : State → Prop}
variable {G : zE} {cc : ByteArray} {pc : Nat} {sl : Array Slot} {rest : List Value} {h : zH} {own : String}
theorem y_multi (hx : p.tables.exec = Jvm.exec) (hb : c.code = cc) (hts : ∀ w ∈ zWd, w.before args s = true) (hown : s.vm.findClass own = some m.cls) (hK : zK G s) (hP : zP G h H) (hS : va_S (zA G.1) s.heap H locs) {n k : Int32} {q : Nat} (hlink : (Jvm.Cond.classLink own q "[[I").before args s = true) (hn : ¬ n < 0) (hN : n.toNatClampNeg ≤ 4000) (hk : ¬ k < 0) (hM : k.toNatClampNeg ≤ 4000) (hcells : cells + (1 + n.toNatClampNeg) ≤ R.cells) (hslots : slots + (n.toNatClampNeg + n.toNatClampNeg * k.toNatClampNeg) ≤ R.slots) (hd : decode cc pc = .ok (.multianewarray q 2, 4))
    (kk : ∀ (H1 : Heap), zP G (zpm h n.toNatClampNeg k.toNatClampNeg) H1 → va_S (zA G.1) s.heap H1 locs → W p l e R s m args below meth c H1 locs (cells + (1 + n.toNatClampNeg)) (slots + (n.toNatClampNeg + n.toNatClampNeg * k.toNatClampNeg)) Q (F0 m (pc + 4) sl (zad G (8 + h.1) :: rest))) : W p l e R s m args below meth c H locs cells slots Q (F0 m pc sl (.int k :: .int n :: rest)) := by
  rw [zad_new G (by omega), show 8 + h.1 - 8 = h.1 by omega, ← hP.1] at kk
  intro T hT Xs
  obtain ⟨vm₁, cA, comp, -, fA, fC, hO, -, X', step⟩ := Xs.multianewarray2F (ty := .int) hx hown hlink (show (Jvm.Cond.arrayOver (.array .int)).before args s = true from hK.2.2.2) (hts (.arrayClass .int) zw_ar_int) (g := F0 m pc sl (.int k :: .int n :: rest)) rfl (by rw [hb]; exact hd) rfl hn hk (by omega) (by show k.toNatClampNeg * 4 ≤ _; omega) (by omega) rfl rfl hcells hslots
  have hcI : comp = G.2.2.1 0 := Option.some.inj (fC.symm.trans (hK.1.2 0 _ rfl).2)
  have hcA : cA = G.2.2.1 3 := Option.some.inj (fA.symm.trans (hK.1.2 3 _ rfl).2)
  subst hcI
  subst hcA
  generalize hF : Jvm.Free.Multi.fill (T.setVm vm₁) (G.2.2.1 3) (G.2.2.1 0) n.toNatClampNeg k.toNatClampNeg (defaultValue .int) n.toNatClampNeg = F at X' step
  have hTh : (T.setVm vm₁).heap = H := hT
  obtain ⟨f1, f2, -, -⟩ := Jvm.Free.Multi.fill_facts (T.setVm vm₁) (G.2.2.1 3) (G.2.2.1 0) n.toNatClampNeg k.toNatClampNeg (defaultValue .int) n.toNatClampNeg
  rw [hF, hTh] at f1 f2
  have hold : ∀ x : Nat, x < H.size → F.heap[x]? = H[x]? := fun x hx => by
    have := Jvm.Free.Multi.fill_old (T.setVm vm₁) (G.2.2.1 3) (G.2.2.1 0) n.toNatClampNeg k.toNatClampNeg (defaultValue .int) (a := x) (by rw [hTh]; exact hx) n.toNatClampNeg
    rw [hF, hTh] at this
    exact this
  have hrow : ∀ j : Nat, j < n.toNatClampNeg → F.heap[H.size + 1 + j]? = some (vp_cell (G.2.2.1 0) (k.toNatClampNeg, .inl (fun _ => 0))) := fun j hj => by
    have := Jvm.Free.Multi.fill_inner (T.setVm vm₁) (G.2.2.1 3) (G.2.2.1 0) n.toNatClampNeg k.toNatClampNeg (defaultValue .int) n.toNatClampNeg j hj
    rw [hF, hTh] at this
    rw [this, vp_cell_i, ← arrV_new]
    rfl
  rw [vr_outer] at f2
  have hP1 : zP G (zpm h n.toNatClampNeg k.toNatClampNeg) F.heap := by
    refine ⟨by rw [f1, hP.1]; show _ = G.1 + (h.1 + (1 + n.toNatClampNeg)); omega, fun b hb => ?_, fun j hj => ?_⟩
    · show (if b = 8 + h.1 then _ else if 8 + h.1 < b ∧ b < 8 + h.1 + 1 + n.toNatClampNeg then _ else h.2.2 b) = _
      rw [if_neg (by omega), if_neg (by omega)]
      exact hP.2.1 b hb
    · have hj' : j < h.1 + (1 + n.toNatClampNeg) := hj
      show va_at _ _ (G.1 + j, zce G (if 8 + j = 8 + h.1 then _ else if 8 + h.1 < 8 + j ∧ 8 + j < 8 + h.1 + 1 + n.toNatClampNeg then _ else h.2.2 (8 + j))) F.heap
      by_cases e1 : 8 + j = 8 + h.1
      · rw [if_pos e1, show j = h.1 by omega, ← hP.1]
        show F.heap[H.size]? = some (vp_cell (G.2.2.1 3) _)
        rw [f2, vp_cell_q]
        refine congrArg (fun f => some (arrV (G.2.2.1 3) n.toNatClampNeg f)) (funext fun i => ?_)
        by_cases hi : i < n.toNatClampNeg
        · simp only [hi, if_true, Option.map_some, va_rf]
          rw [hP.1]
          show Value.ref (G.1 + h.1 + 1 + i) = Value.ref (G.1 + (8 + h.1 + 1 + i - 8))
          rw [show G.1 + (8 + h.1 + 1 + i - 8) = G.1 + h.1 + 1 + i by omega]
        · simp only [hi, if_false, Option.map_none, va_rf]
      · rw [if_neg e1]
        by_cases e2 : 8 + h.1 < 8 + j ∧ 8 + j < 8 + h.1 + 1 + n.toNatClampNeg
        · rw [if_pos e2]
          show F.heap[G.1 + j]? = some (vp_cell (G.2.2.1 0) _)
          have := hrow (j - h.1 - 1) (by omega)
          rw [hP.1, show G.1 + h.1 + 1 + (j - h.1 - 1) = G.1 + j by omega] at this
          exact this
        · rw [if_neg e2]
          exact (hP.2.2 j (by omega)).kept (hold _ (by show G.1 + j < _; rw [hP.1]; omega))
  obtain ⟨t, a1, b1⟩ := kk F.heap hP1 (zS_push hP hS (by rw [f1]; omega) hold) F rfl (by
    have h1 : cells + (1 + n.toNatClampNeg) = cells + 1 + n.toNatClampNeg := by omega
    have h2 : slots + (n.toNatClampNeg + n.toNatClampNeg * k.toNatClampNeg) = slots + n.toNatClampNeg + n.toNatClampNeg * k.toNatClampNeg := by omega
    rw [h1, h2]
    exact X')
  refine ⟨t, step t ?_, b1⟩
  have e9 : T.heap.size = H.size := by rw [hT]
  rw [e9]
  exact a1
theorem y_copy (hx : p.tables.exec = Jvm.exec) (hb : c.code = cc) (hml : c.maxLocals = sl.size) (hts : ∀ w ∈ zWd, w.before args s = true) (hown : s.vm.findClass own = some m.cls) (hK : zK G s) (hP : zP G h H) (hS : va_S (zA G.1) s.heap H locs) {a b n0 n1 q : Nat} {f g : Nat → Int32} {sp dp n : Int32} (hlink : (Jvm.Cond.methodLink own q arraycopyName).before args s = true) (ea : h.2.2 a = .inl (0, n0, .inl f)) (eb : h.2.2 b = .inl (0, n1, .inl g)) (ha : znew h a = true) (hb' : znew h b = true) (h1 : ¬ sp < 0) (h2 : ¬ dp < 0) (h3 : ¬ n < 0) (h4 : sp.toNatClampNeg + n.toNatClampNeg ≤ n0) (h5 : dp.toNatClampNeg + n.toNatClampNeg ≤ n1) (hfr : 1 ≤ R.frames) (hlo : 8 + 40 ≤ R.locals) (hc : (rest.map fun v => v.category).sum ≤ 8) (hd : decode cc pc = .ok (.invokestatic q, 3))
    (kk : ∀ (H1 : Heap) (locs1 : List Loc), zP G (zu h b (.inl (0, n1, .inl (va_cpy f g sp.toNatClampNeg dp.toNatClampNeg n.toNatClampNeg)))) H1 → va_S (zA G.1) s.heap H1 locs1 → W p l e R s m args below meth c H1 locs1 cells slots Q (F0 m (pc + 3) sl rest)) : W p l e R s m args below meth c H locs cells slots Q (F0 m pc sl (.int n :: .int dp :: zad G b :: .int sp :: zad G a :: rest)) := by
  have nn : ∀ z : Int32, ¬ z < 0 → z.toInt = (z.toNatClampNeg : Int) := by
    intro z hz
    have hz0 : (0 : Int) ≤ z.toInt := by
      have := Int32.not_lt.mp hz
      simpa using Int32.le_iff_toInt_le.mp this
    show z.toInt = ((z.toInt.toNat : Nat) : Int)
    omega
  rw [zad_of_new hP ha, zad_of_new hP hb']
  intro T hT X
  have hc0 := (hP.one ha).2.2
  have hc1 := (hP.one hb').2.2
  rw [ea] at hc0
  rw [eb] at hc1
  have hc0 : H[G.1 + (a - 8)]? = some (vp_cell (G.2.2.1 0) (n0, .inl f)) := hc0
  have hc1 : H[G.1 + (b - 8)]? = some (vp_cell (G.2.2.1 0) (n1, .inl g)) := hc1
  obtain ⟨-, k0, hk0, cm0, hkk0⟩ := (hK.1.2 0 _ rfl).1 n0 (fun j => .int (f j))
  obtain ⟨-, k1, hk1, cm1, hkk1⟩ := (hK.1.2 0 _ rfl).1 n1 (fun j => .int (g j))
  obtain ⟨vm', X', step⟩ := X.arraycopy hx hown hlink (hts (.native arraycopyName) (zWd_of (by decide +kernel) rfl)) (hts (.static arraycopyName) (zWd_of (by decide +kernel) rfl)) (hts (.initialized "java/lang/System") (zWd_of (by decide +kernel) rfl)) (src := G.1 + (a - 8)) (dst := G.1 + (b - 8)) (cs := vp_cell (G.2.2.1 0) (n0, .inl f)) (cd := vp_cell (G.2.2.1 0) (n1, .inl g)) (srcPos := sp) (destPos := dp) (n := n) (by rw [hT]; exact hc0) (by rw [hT]; exact hc1)
    (fun _ h => by cases h) (fun _ h => by cases h) (fun h => by cases h) (fun h => by cases h) hk0 hk1 hkk0 hkk1 (by simp [refKind]) h1 h2 h3
    (by rw [nn sp h1, nn n h3]; show ¬ _ > ((arrV (G.2.2.1 0) n0 (fun j => .int (f j))).slots.size : Int); rw [arrV_size]; omega)
    (by rw [nn dp h2, nn n h3]; show ¬ _ > ((arrV (G.2.2.1 0) n1 (fun j => .int (g j))).slots.size : Int); rw [arrV_size]; omega)
    (fun vm₁ _ i hi => by
      have e : (vp_cell (G.2.2.1 0) (n0, .inl f)).slots.getD (sp.toNatClampNeg + i) .null = .int (f (sp.toNatClampNeg + i)) := by
        show (arrV (G.2.2.1 0) n0 (fun j => .int (f j))).slots.getD _ _ = _
        rw [Array.getD_eq_getD_getElem?, arrV_read _ _ (by omega)]
        rfl
      refine ⟨?_, ?_⟩
      · rw [e]
        rfl
      · rw [e]
        exact trivial)
    (g := F0 m pc sl (.int n :: .int dp :: .ref (G.1 + (b - 8)) :: .int sp :: .ref (G.1 + (a - 8)) :: rest)) rfl (by rw [hml]) (rest := rest) rfl (by rw [hb]; exact hd) hfr (by
      have h7 : nativeFrameWords "java/lang/System" "arraycopy" 5 = 7 := by decide
      show 2 * 0 + _ + (nativeFrameWords "java/lang/System" "arraycopy" 5 + 11) ≤ _
      rw [h7]
      omega)
  have e1 : copied (vp_cell (G.2.2.1 0) (n0, .inl f)) (vp_cell (G.2.2.1 0) (n1, .inl g)) sp dp n = vp_cell (G.2.2.1 0) (n1, .inl (va_cpy f g sp.toNatClampNeg dp.toNatClampNeg n.toNatClampNeg)) := va_copied (fun z => .int z) _ _ f g h4
  rw [e1] at X' step
  have hl : G.1 + (b - 8) < H.size := (Array.getElem?_eq_some_iff.mp hc1).1
  have hheap : ((T.setVm vm').setCell (G.1 + (b - 8)) (vp_cell (G.2.2.1 0) (n1, .inl (va_cpy f g sp.toNatClampNeg dp.toNatClampNeg n.toNatClampNeg)))).heap = H.setIfInBounds (G.1 + (b - 8)) (vp_cell (G.2.2.1 0) (n1, .inl (va_cpy f g sp.toNatClampNeg dp.toNatClampNeg n.toNatClampNeg))) := by rw [← hT]; rfl
  have oq : ∀ q : Nat, q ≠ G.1 + (b - 8) → (H.setIfInBounds (G.1 + (b - 8)) (vp_cell (G.2.2.1 0) (n1, .inl (va_cpy f g sp.toNatClampNeg dp.toNatClampNeg n.toNatClampNeg))))[q]? = H[q]? := fun q hq => by simp [Array.getElem?_setIfInBounds, Ne.symm hq]
  obtain ⟨t, a1, b1⟩ := kk _ _ (hP.set hb' (by simp) oq (show (H.setIfInBounds (G.1 + (b - 8)) _)[G.1 + (b - 8)]? = some _ by simp [Array.getElem?_setIfInBounds, hl])) ⟨by simp; exact hS.1, fun q g1 g2 => by
      rw [oq q (fun e => g2 (by rw [e]; exact Nat.le_add_right _ _))]
      exact hS.2.1 q g1 g2, fun q hq => by
      rcases List.mem_append.mp hq with h | h
      · exact hS.2.2 q h
      · obtain ⟨z, -, hz⟩ := List.mem_map.mp h
        rw [← hz]
        exact Nat.le_add_right _ _⟩ _ hheap X'
  exact ⟨t, step t a1, b1⟩
theorem y_objinit (hx : p.tables.exec = Jvm.exec) (hb : c.code = cc) (hml : c.maxLocals = sl.size) (hts : ∀ w ∈ zWd, w.before args s = true) (hown : s.vm.findClass own = some m.cls) {a q : Nat} (hlink : (Jvm.Cond.methodLink own q objectInit).before args s = true) (hfr : 1 ≤ R.frames) (hlo : 8 + 12 ≤ R.locals) (hc : (rest.map fun v => v.category).sum ≤ 8) (hd : decode cc pc = .ok (.invokespecial q, 3))
    (kk : W p l e R s m args below meth c H locs cells slots Q (F0 m (pc + 3) sl rest)) : W p l e R s m args below meth c H locs cells slots Q (F0 m pc sl (.ref a :: rest)) :=
  W.objInit hx hb hown hlink (hts (.instanceMethod objectInit) (zWd_of (by decide +kernel) rfl)) (hts (.code objectInit ⟨#[0xb1]⟩ 1 none) (zWd_of (by decide +kernel) rfl)) rfl hml.symm rfl hd hfr (by show 2 * 0 + _ + 12 ≤ _; omega) kk
theorem y_abs (hx : p.tables.exec = Jvm.exec) (hb : c.code = cc) (hml : c.maxLocals = sl.size) (hts : ∀ w ∈ zWd, w.before args s = true) (hown : s.vm.findClass own = some m.cls) {x : Int64} {q : Nat} (hlink : (Jvm.Cond.methodLink own q (zm 218).1).before args s = true) (hfr : 1 ≤ R.frames) (hlo : 8 + 40 ≤ R.locals) (hc : (rest.map fun v => v.category).sum ≤ 8) (hcells : cells ≤ R.cells) (hslots : slots ≤ R.slots) (hd : decode cc pc = .ok (.invokestatic q, 3))
    (kk : W p l e R s m args below meth c H locs cells slots Q (F0 m (pc + 3) sl (.long (if 0 < x then x else -x) :: rest))) : W p l e R s m args below meth c H locs cells slots Q (F0 m pc sl (.long x :: rest)) := by
  intro T hT X
  obtain ⟨vm', X', hstep⟩ := X.mathAbsLH hx hown hlink (hts _ ((zmo_ok (a := 218) (by decide)).2.2.2.2.2.1 (by decide))) (hts _ (zmo_ok (a := 218) (by decide)).2.2.1) (hts _ (zmo_ok (a := 218) (by decide)).2.1) (g := F0 m pc sl (.long x :: rest)) rfl hml.symm rfl (by rw [hb]; exact hd) hfr (by show 2 * 0 + _ + 13 ≤ _; omega) hcells hslots
  obtain ⟨t2, a2, b2⟩ := kk (T.setVm vm') hT X'
  have e9 : Jvm.Free.BdW.absL x = if 0 < x then x else -x := by
    unfold Jvm.Free.BdW.absL
    by_cases h1 : 0 < x
    · rw [if_pos h1, if_pos h1]
    · rw [if_neg h1, if_neg h1]
      by_cases h0 : x = 0
      · rw [if_pos h0, h0]; decide
      · rw [if_neg h0]
  rw [e9] at hstep
  exact ⟨t2, hstep t2 a2, b2⟩
theorem y_max (hx : p.tables.exec = Jvm.exec) (hb : c.code = cc) (hml : c.maxLocals = sl.size) (hts : ∀ w ∈ zWd, w.before args s = true) (hown : s.vm.findClass own = some m.cls) {x y : Int64} {q : Nat} (hlink : (Jvm.Cond.methodLink own q (zm 219).1).before args s = true) (hfr : 1 ≤ R.frames) (hlo : 8 + 40 ≤ R.locals) (hc : (rest.map fun v => v.category).sum ≤ 8) (hcells : cells ≤ R.cells) (hslots : slots ≤ R.slots) (hd : decode cc pc = .ok (.invokestatic q, 3))
    (kk : W p l e R s m args below meth c H locs cells slots Q (F0 m (pc + 3) sl (.long (if y < x then x else y) :: rest))) : W p l e R s m args below meth c H locs cells slots Q (F0 m pc sl (.long y :: .long x :: rest)) := by
  intro T hT X
  obtain ⟨vm', X', hstep⟩ := X.mathMaxLH hx hown hlink (hts _ ((zmo_ok (a := 219) (by decide)).2.2.2.2.2.1 (by decide))) (hts _ (zmo_ok (a := 219) (by decide)).2.2.1) (hts _ (zmo_ok (a := 219) (by decide)).2.1) (g := F0 m pc sl (.long y :: .long x :: rest)) rfl hml.symm rfl (by rw [hb]; exact hd) hfr (by show 2 * 0 + _ + 15 ≤ _; omega) hcells hslots
  obtain ⟨t2, a2, b2⟩ := kk (T.setVm vm') hT X'
  exact ⟨t2, hstep t2 a2, b2⟩
theorem zNW_no218 (own : String) (q : Nat) : ¬ Jvm.Cond.methodLinkNest own q (zm 218).1 "ProphetFines" ∈ zNW := by
  intro hm
  simp only [zNW, List.mem_cons, List.not_mem_nil, or_false, Jvm.Cond.methodLinkNest.injEq, reduceCtorEq, false_or] at hm
  revert hm
  have e : (zm 218).1 = ⟨"java/lang/Math", "abs", "(J)J"⟩ := rfl
  rw [e]
  simp
theorem zNW_no219 (own : String) (q : Nat) : ¬ Jvm.Cond.methodLinkNest own q (zm 219).1 "ProphetFines" ∈ zNW := by
  intro hm
  simp only [zNW, List.mem_cons, List.not_mem_nil, or_false, Jvm.Cond.methodLinkNest.injEq, reduceCtorEq, false_or] at hm
  revert hm
  have e : (zm 219).1 = ⟨"java/lang/Math", "max", "(JJ)J"⟩ := rfl
  rw [e]
  simp
/-- what is left to do behind a call -/
theorem y_after {st0 : List Value} {Qa : State → Outcome → State → Prop} {v : Option Value} {h' : zH} {mc ms : Nat} (hr : va_Run p l e R s m args below meth c H locs cells slots mc ms (F0 m pc sl st0) rest Qa (zA G.1)) (hS : va_S (zA G.1) s.heap H locs) (hq : ∀ (st₀ t : State) (w : Option Value), st₀.heap = H → Qa st₀ (.returned w) t → w = v ∧ zP G h' t.heap ∧ va_F (zA G.1) st₀ t)
    (kk : ∀ (H1 : Heap) (locs1 : List Loc), zP G h' H1 → va_S (zA G.1) s.heap H1 locs1 → W p l e R s m args below meth c H1 locs1 (cells + mc) (slots + ms) Q (F0 m (pc + 3) sl (v.toList ++ rest))) : W p l e R s m args below meth c H locs cells slots Q (F0 m pc sl st0) := by
  intro T hT X
  obtain ⟨w, st₀, t, T', L, h0, X', hL, e1, e2, hQ, st⟩ := hr T hT X
  obtain ⟨rfl, hP', hz, hk⟩ := hq st₀ t w h0 hQ
  rw [h0] at hz hk
  rw [← e1] at hP'
  obtain ⟨t2, a1, b1⟩ := kk T'.heap (locs ++ L) hP' ⟨Nat.le_trans hS.1 (by rw [e1]; exact hz), fun q h1 h2 => by rw [e1, hk q (Nat.lt_of_lt_of_le h1 hS.1) h2]; exact hS.2.1 q h1 h2, fun q hq => by
      rcases List.mem_append.mp hq with h | h
      · exact hS.2.2 q h
      · exact hL q h⟩ T' rfl X'
  exact ⟨t2, st t2 a1, b1⟩
end ZS
