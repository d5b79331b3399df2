/-! SOUND, 5: one step -/
def zCx (G : zE) (p : Program) (R : Room) (s : State) (m : MethodId) (args : Array Value) (meth : Method) (c : Code) (d k : Nat) : Prop :=
  p.tables.exec = Jvm.exec ∧ c.code = (zm k).2.1 ∧ c.maxLocals = (zm k).2.2.1 ∧ s.vm.findClass (zm k).1.cls = some m.cls ∧ (∀ w ∈ zWd, w.before args s = true) ∧ ((zm k).1.name = "<init>" → meth.name = "<init>") ∧ zK G s ∧ zX G s s.heap ∧ d + 1 ≤ R.frames ∧ 64 * (d + 1) ≤ R.locals
theorem zvI_ex {v : Value} (h : zvI v = true) : ∃ x, v = .int x := by cases v <;> first | exact ⟨_, rfl⟩ | cases h
theorem zvJ_ex {v : Value} (h : zvJ v = true) : ∃ x, v = .long x := by cases v <;> first | exact ⟨_, rfl⟩ | cases h
theorem zvA_ex {v : Value} (h : zvA v = true) : ∃ x, v = .ref x ∧ x ≠ 7 := by
  cases v with
  | ref a =>
    refine ⟨a, rfl, fun e => ?_⟩
    subst e
    cases h
  | _ => cases h
theorem z_off {pc : Nat} {dflt : Int} {ps : List (Int × Int)} (h1 : 0 ≤ (pc : Int) + dflt) (h2 : ps.all (fun q => decide (0 ≤ (pc : Int) + q.2)) = true) (x : Int) : 0 ≤ (pc : Int) + Op.lookupswitch.offset ps dflt x := by
  induction ps with
  | nil => exact h1
  | cons q ps ih =>
    simp only [List.all_cons, Bool.and_eq_true, decide_eq_true_eq] at h2
    unfold Op.lookupswitch.offset
    split
    · exact h2.1
    · exact ih h2.2
section ZS
variable {p : Program} {l : Launch} {e : Env} {R : Room} {s : State} {m : MethodId} {args : Array Value} {below : List Frame} {meth : Method} {c : Code} {H : Heap} {locs : List Loc} {cells slots : Nat} {Q : State → Prop}
variable {G : zE} {d k pc : Nat} {sl : Array Slot} {ls : zL} {st : List Value} {h : zH}
theorem n_iadd {len a b : Nat} {iv : Int} (C : zCx G p R s m args meth c d k) (hd : decode (zm k).2.1 pc = .ok (.iadd, 1)) (hlk : zokl k (zm k).1.cls (zlk (zm k).1.cls) zNW pc (.iadd) a b iv = true) {pc' : Nat} {ls' : zL} {st' : List Value} {h' : zH} (hz : zx (.iadd, len, a, b, iv) k pc ls st h = some (.inl (pc', ls', st', h'))) (hP : zP G h H) (hS : va_S (zA G.1) s.heap H locs) (hl : zLv G sl (zm k).2.2.1 ls) (hcells : cells + (h'.1 - h.1) ≤ R.cells) (hslots : slots + (h'.2.1 - h.2.1) ≤ R.slots) (kk : ∀ (H1 : Heap) (locs1 : List Loc) (sl1 : Array Slot), zP G h' H1 → va_S (zA G.1) s.heap H1 locs1 → zLv G sl1 (zm k).2.2.1 ls' → W p l e R s m args below meth c H1 locs1 (cells + (h'.1 - h.1)) (slots + (h'.2.1 - h.2.1)) Q (F0 m pc' sl1 (st'.map (ztv G)))) : W p l e R s m args below meth c H locs cells slots Q (F0 m pc sl (st.map (ztv G))) := by
  obtain ⟨hx, hb, hml, hown, hts, hnm, hK, hX, hfr, hlo⟩ := C
  simp only [zx, zb] at hz
  split at hz
  · simp only [Option.some.injEq, Sum.inl.injEq, Prod.mk.injEq] at hz
    obtain ⟨rfl, rfl, rfl, rfl⟩ := hz
    have kk := kk H locs sl hP hS hl
    simp only [Nat.sub_self, Nat.add_zero, List.map_cons, ztv_int, ztv_long, ztv_ref] at kk ⊢
    exact lv_iadd hx hb hd kk
  · cases hz
theorem n_isub {len a b : Nat} {iv : Int} (C : zCx G p R s m args meth c d k) (hd : decode (zm k).2.1 pc = .ok (.isub, 1)) (hlk : zokl k (zm k).1.cls (zlk (zm k).1.cls) zNW pc (.isub) a b iv = true) {pc' : Nat} {ls' : zL} {st' : List Value} {h' : zH} (hz : zx (.isub, len, a, b, iv) k pc ls st h = some (.inl (pc', ls', st', h'))) (hP : zP G h H) (hS : va_S (zA G.1) s.heap H locs) (hl : zLv G sl (zm k).2.2.1 ls) (hcells : cells + (h'.1 - h.1) ≤ R.cells) (hslots : slots + (h'.2.1 - h.2.1) ≤ R.slots) (kk : ∀ (H1 : Heap) (locs1 : List Loc) (sl1 : Array Slot), zP G h' H1 → va_S (zA G.1) s.heap H1 locs1 → zLv G sl1 (zm k).2.2.1 ls' → W p l e R s m args below meth c H1 locs1 (cells + (h'.1 - h.1)) (slots + (h'.2.1 - h.2.1)) Q (F0 m pc' sl1 (st'.map (ztv G)))) : W p l e R s m args below meth c H locs cells slots Q (F0 m pc sl (st.map (ztv G))) := by
  obtain ⟨hx, hb, hml, hown, hts, hnm, hK, hX, hfr, hlo⟩ := C
  simp only [zx, zb] at hz
  split at hz
  · simp only [Option.some.injEq, Sum.inl.injEq, Prod.mk.injEq] at hz
    obtain ⟨rfl, rfl, rfl, rfl⟩ := hz
    have kk := kk H locs sl hP hS hl
    simp only [Nat.sub_self, Nat.add_zero, List.map_cons, ztv_int, ztv_long, ztv_ref] at kk ⊢
    exact lv_isub hx hb hd kk
  · cases hz
theorem n_imul {len a b : Nat} {iv : Int} (C : zCx G p R s m args meth c d k) (hd : decode (zm k).2.1 pc = .ok (.imul, 1)) (hlk : zokl k (zm k).1.cls (zlk (zm k).1.cls) zNW pc (.imul) a b iv = true) {pc' : Nat} {ls' : zL} {st' : List Value} {h' : zH} (hz : zx (.imul, len, a, b, iv) k pc ls st h = some (.inl (pc', ls', st', h'))) (hP : zP G h H) (hS : va_S (zA G.1) s.heap H locs) (hl : zLv G sl (zm k).2.2.1 ls) (hcells : cells + (h'.1 - h.1) ≤ R.cells) (hslots : slots + (h'.2.1 - h.2.1) ≤ R.slots) (kk : ∀ (H1 : Heap) (locs1 : List Loc) (sl1 : Array Slot), zP G h' H1 → va_S (zA G.1) s.heap H1 locs1 → zLv G sl1 (zm k).2.2.1 ls' → W p l e R s m args below meth c H1 locs1 (cells + (h'.1 - h.1)) (slots + (h'.2.1 - h.2.1)) Q (F0 m pc' sl1 (st'.map (ztv G)))) : W p l e R s m args below meth c H locs cells slots Q (F0 m pc sl (st.map (ztv G))) := by
  obtain ⟨hx, hb, hml, hown, hts, hnm, hK, hX, hfr, hlo⟩ := C
  simp only [zx, zb] at hz
  split at hz
  · simp only [Option.some.injEq, Sum.inl.injEq, Prod.mk.injEq] at hz
    obtain ⟨rfl, rfl, rfl, rfl⟩ := hz
    have kk := kk H locs sl hP hS hl
    simp only [Nat.sub_self, Nat.add_zero, List.map_cons, ztv_int, ztv_long, ztv_ref] at kk ⊢
    exact lv_imul hx hb hd kk
  · cases hz
theorem n_iand {len a b : Nat} {iv : Int} (C : zCx G p R s m args meth c d k) (hd : decode (zm k).2.1 pc = .ok (.iand, 1)) (hlk : zokl k (zm k).1.cls (zlk (zm k).1.cls) zNW pc (.iand) a b iv = true) {pc' : Nat} {ls' : zL} {st' : List Value} {h' : zH} (hz : zx (.iand, len, a, b, iv) k pc ls st h = some (.inl (pc', ls', st', h'))) (hP : zP G h H) (hS : va_S (zA G.1) s.heap H locs) (hl : zLv G sl (zm k).2.2.1 ls) (hcells : cells + (h'.1 - h.1) ≤ R.cells) (hslots : slots + (h'.2.1 - h.2.1) ≤ R.slots) (kk : ∀ (H1 : Heap) (locs1 : List Loc) (sl1 : Array Slot), zP G h' H1 → va_S (zA G.1) s.heap H1 locs1 → zLv G sl1 (zm k).2.2.1 ls' → W p l e R s m args below meth c H1 locs1 (cells + (h'.1 - h.1)) (slots + (h'.2.1 - h.2.1)) Q (F0 m pc' sl1 (st'.map (ztv G)))) : W p l e R s m args below meth c H locs cells slots Q (F0 m pc sl (st.map (ztv G))) := by
  obtain ⟨hx, hb, hml, hown, hts, hnm, hK, hX, hfr, hlo⟩ := C
  simp only [zx, zb] at hz
  split at hz
  · simp only [Option.some.injEq, Sum.inl.injEq, Prod.mk.injEq] at hz
    obtain ⟨rfl, rfl, rfl, rfl⟩ := hz
    have kk := kk H locs sl hP hS hl
    simp only [Nat.sub_self, Nat.add_zero, List.map_cons, ztv_int, ztv_long, ztv_ref] at kk ⊢
    exact lv_iand hx hb hd kk
  · cases hz
theorem n_ior {len a b : Nat} {iv : Int} (C : zCx G p R s m args meth c d k) (hd : decode (zm k).2.1 pc = .ok (.ior, 1)) (hlk : zokl k (zm k).1.cls (zlk (zm k).1.cls) zNW pc (.ior) a b iv = true) {pc' : Nat} {ls' : zL} {st' : List Value} {h' : zH} (hz : zx (.ior, len, a, b, iv) k pc ls st h = some (.inl (pc', ls', st', h'))) (hP : zP G h H) (hS : va_S (zA G.1) s.heap H locs) (hl : zLv G sl (zm k).2.2.1 ls) (hcells : cells + (h'.1 - h.1) ≤ R.cells) (hslots : slots + (h'.2.1 - h.2.1) ≤ R.slots) (kk : ∀ (H1 : Heap) (locs1 : List Loc) (sl1 : Array Slot), zP G h' H1 → va_S (zA G.1) s.heap H1 locs1 → zLv G sl1 (zm k).2.2.1 ls' → W p l e R s m args below meth c H1 locs1 (cells + (h'.1 - h.1)) (slots + (h'.2.1 - h.2.1)) Q (F0 m pc' sl1 (st'.map (ztv G)))) : W p l e R s m args below meth c H locs cells slots Q (F0 m pc sl (st.map (ztv G))) := by
  obtain ⟨hx, hb, hml, hown, hts, hnm, hK, hX, hfr, hlo⟩ := C
  simp only [zx, zb] at hz
  split at hz
  · simp only [Option.some.injEq, Sum.inl.injEq, Prod.mk.injEq] at hz
    obtain ⟨rfl, rfl, rfl, rfl⟩ := hz
    have kk := kk H locs sl hP hS hl
    simp only [Nat.sub_self, Nat.add_zero, List.map_cons, ztv_int, ztv_long, ztv_ref] at kk ⊢
    exact lv_ior hx hb hd kk
  · cases hz
theorem n_ixor {len a b : Nat} {iv : Int} (C : zCx G p R s m args meth c d k) (hd : decode (zm k).2.1 pc = .ok (.ixor, 1)) (hlk : zokl k (zm k).1.cls (zlk (zm k).1.cls) zNW pc (.ixor) a b iv = true) {pc' : Nat} {ls' : zL} {st' : List Value} {h' : zH} (hz : zx (.ixor, len, a, b, iv) k pc ls st h = some (.inl (pc', ls', st', h'))) (hP : zP G h H) (hS : va_S (zA G.1) s.heap H locs) (hl : zLv G sl (zm k).2.2.1 ls) (hcells : cells + (h'.1 - h.1) ≤ R.cells) (hslots : slots + (h'.2.1 - h.2.1) ≤ R.slots) (kk : ∀ (H1 : Heap) (locs1 : List Loc) (sl1 : Array Slot), zP G h' H1 → va_S (zA G.1) s.heap H1 locs1 → zLv G sl1 (zm k).2.2.1 ls' → W p l e R s m args below meth c H1 locs1 (cells + (h'.1 - h.1)) (slots + (h'.2.1 - h.2.1)) Q (F0 m pc' sl1 (st'.map (ztv G)))) : W p l e R s m args below meth c H locs cells slots Q (F0 m pc sl (st.map (ztv G))) := by
  obtain ⟨hx, hb, hml, hown, hts, hnm, hK, hX, hfr, hlo⟩ := C
  simp only [zx, zb] at hz
  split at hz
  · simp only [Option.some.injEq, Sum.inl.injEq, Prod.mk.injEq] at hz
    obtain ⟨rfl, rfl, rfl, rfl⟩ := hz
    have kk := kk H locs sl hP hS hl
    simp only [Nat.sub_self, Nat.add_zero, List.map_cons, ztv_int, ztv_long, ztv_ref] at kk ⊢
    exact lv_ixor hx hb hd kk
  · cases hz
theorem n_ishl {len a b : Nat} {iv : Int} (C : zCx G p R s m args meth c d k) (hd : decode (zm k).2.1 pc = .ok (.ishl, 1)) (hlk : zokl k (zm k).1.cls (zlk (zm k).1.cls) zNW pc (.ishl) a b iv = true) {pc' : Nat} {ls' : zL} {st' : List Value} {h' : zH} (hz : zx (.ishl, len, a, b, iv) k pc ls st h = some (.inl (pc', ls', st', h'))) (hP : zP G h H) (hS : va_S (zA G.1) s.heap H locs) (hl : zLv G sl (zm k).2.2.1 ls) (hcells : cells + (h'.1 - h.1) ≤ R.cells) (hslots : slots + (h'.2.1 - h.2.1) ≤ R.slots) (kk : ∀ (H1 : Heap) (locs1 : List Loc) (sl1 : Array Slot), zP G h' H1 → va_S (zA G.1) s.heap H1 locs1 → zLv G sl1 (zm k).2.2.1 ls' → W p l e R s m args below meth c H1 locs1 (cells + (h'.1 - h.1)) (slots + (h'.2.1 - h.2.1)) Q (F0 m pc' sl1 (st'.map (ztv G)))) : W p l e R s m args below meth c H locs cells slots Q (F0 m pc sl (st.map (ztv G))) := by
  obtain ⟨hx, hb, hml, hown, hts, hnm, hK, hX, hfr, hlo⟩ := C
  simp only [zx, zb] at hz
  split at hz
  · simp only [Option.some.injEq, Sum.inl.injEq, Prod.mk.injEq] at hz
    obtain ⟨rfl, rfl, rfl, rfl⟩ := hz
    have kk := kk H locs sl hP hS hl
    simp only [Nat.sub_self, Nat.add_zero, List.map_cons, ztv_int, ztv_long, ztv_ref] at kk ⊢
    exact lv_ishl hx hb hd kk
  · cases hz
theorem n_ishr {len a b : Nat} {iv : Int} (C : zCx G p R s m args meth c d k) (hd : decode (zm k).2.1 pc = .ok (.ishr, 1)) (hlk : zokl k (zm k).1.cls (zlk (zm k).1.cls) zNW pc (.ishr) a b iv = true) {pc' : Nat} {ls' : zL} {st' : List Value} {h' : zH} (hz : zx (.ishr, len, a, b, iv) k pc ls st h = some (.inl (pc', ls', st', h'))) (hP : zP G h H) (hS : va_S (zA G.1) s.heap H locs) (hl : zLv G sl (zm k).2.2.1 ls) (hcells : cells + (h'.1 - h.1) ≤ R.cells) (hslots : slots + (h'.2.1 - h.2.1) ≤ R.slots) (kk : ∀ (H1 : Heap) (locs1 : List Loc) (sl1 : Array Slot), zP G h' H1 → va_S (zA G.1) s.heap H1 locs1 → zLv G sl1 (zm k).2.2.1 ls' → W p l e R s m args below meth c H1 locs1 (cells + (h'.1 - h.1)) (slots + (h'.2.1 - h.2.1)) Q (F0 m pc' sl1 (st'.map (ztv G)))) : W p l e R s m args below meth c H locs cells slots Q (F0 m pc sl (st.map (ztv G))) := by
  obtain ⟨hx, hb, hml, hown, hts, hnm, hK, hX, hfr, hlo⟩ := C
  simp only [zx, zb] at hz
  split at hz
  · simp only [Option.some.injEq, Sum.inl.injEq, Prod.mk.injEq] at hz
    obtain ⟨rfl, rfl, rfl, rfl⟩ := hz
    have kk := kk H locs sl hP hS hl
    simp only [Nat.sub_self, Nat.add_zero, List.map_cons, ztv_int, ztv_long, ztv_ref] at kk ⊢
    exact lv_ishr hx hb hd kk
  · cases hz
theorem n_iushr {len a b : Nat} {iv : Int} (C : zCx G p R s m args meth c d k) (hd : decode (zm k).2.1 pc = .ok (.iushr, 1)) (hlk : zokl k (zm k).1.cls (zlk (zm k).1.cls) zNW pc (.iushr) a b iv = true) {pc' : Nat} {ls' : zL} {st' : List Value} {h' : zH} (hz : zx (.iushr, len, a, b, iv) k pc ls st h = some (.inl (pc', ls', st', h'))) (hP : zP G h H) (hS : va_S (zA G.1) s.heap H locs) (hl : zLv G sl (zm k).2.2.1 ls) (hcells : cells + (h'.1 - h.1) ≤ R.cells) (hslots : slots + (h'.2.1 - h.2.1) ≤ R.slots) (kk : ∀ (H1 : Heap) (locs1 : List Loc) (sl1 : Array Slot), zP G h' H1 → va_S (zA G.1) s.heap H1 locs1 → zLv G sl1 (zm k).2.2.1 ls' → W p l e R s m args below meth c H1 locs1 (cells + (h'.1 - h.1)) (slots + (h'.2.1 - h.2.1)) Q (F0 m pc' sl1 (st'.map (ztv G)))) : W p l e R s m args below meth c H locs cells slots Q (F0 m pc sl (st.map (ztv G))) := by
  obtain ⟨hx, hb, hml, hown, hts, hnm, hK, hX, hfr, hlo⟩ := C
  simp only [zx, zb] at hz
  split at hz
  · simp only [Option.some.injEq, Sum.inl.injEq, Prod.mk.injEq] at hz
    obtain ⟨rfl, rfl, rfl, rfl⟩ := hz
    have kk := kk H locs sl hP hS hl
    simp only [Nat.sub_self, Nat.add_zero, List.map_cons, ztv_int, ztv_long, ztv_ref] at kk ⊢
    exact lv_iushr hx hb hd rfl kk
  · cases hz
theorem n_ineg {len a b : Nat} {iv : Int} (C : zCx G p R s m args meth c d k) (hd : decode (zm k).2.1 pc = .ok (.ineg, 1)) (hlk : zokl k (zm k).1.cls (zlk (zm k).1.cls) zNW pc (.ineg) a b iv = true) {pc' : Nat} {ls' : zL} {st' : List Value} {h' : zH} (hz : zx (.ineg, len, a, b, iv) k pc ls st h = some (.inl (pc', ls', st', h'))) (hP : zP G h H) (hS : va_S (zA G.1) s.heap H locs) (hl : zLv G sl (zm k).2.2.1 ls) (hcells : cells + (h'.1 - h.1) ≤ R.cells) (hslots : slots + (h'.2.1 - h.2.1) ≤ R.slots) (kk : ∀ (H1 : Heap) (locs1 : List Loc) (sl1 : Array Slot), zP G h' H1 → va_S (zA G.1) s.heap H1 locs1 → zLv G sl1 (zm k).2.2.1 ls' → W p l e R s m args below meth c H1 locs1 (cells + (h'.1 - h.1)) (slots + (h'.2.1 - h.2.1)) Q (F0 m pc' sl1 (st'.map (ztv G)))) : W p l e R s m args below meth c H locs cells slots Q (F0 m pc sl (st.map (ztv G))) := by
  obtain ⟨hx, hb, hml, hown, hts, hnm, hK, hX, hfr, hlo⟩ := C
  simp only [zx, zun] at hz
  split at hz
  · simp only [Option.some.injEq, Sum.inl.injEq, Prod.mk.injEq] at hz
    obtain ⟨rfl, rfl, rfl, rfl⟩ := hz
    have kk := kk H locs sl hP hS hl
    simp only [Nat.sub_self, Nat.add_zero, List.map_cons, ztv_int, ztv_long, ztv_ref] at kk ⊢
    exact lv_ineg hx hb hd kk
  · cases hz
theorem n_i2b {len a b : Nat} {iv : Int} (C : zCx G p R s m args meth c d k) (hd : decode (zm k).2.1 pc = .ok (.i2b, 1)) (hlk : zokl k (zm k).1.cls (zlk (zm k).1.cls) zNW pc (.i2b) a b iv = true) {pc' : Nat} {ls' : zL} {st' : List Value} {h' : zH} (hz : zx (.i2b, len, a, b, iv) k pc ls st h = some (.inl (pc', ls', st', h'))) (hP : zP G h H) (hS : va_S (zA G.1) s.heap H locs) (hl : zLv G sl (zm k).2.2.1 ls) (hcells : cells + (h'.1 - h.1) ≤ R.cells) (hslots : slots + (h'.2.1 - h.2.1) ≤ R.slots) (kk : ∀ (H1 : Heap) (locs1 : List Loc) (sl1 : Array Slot), zP G h' H1 → va_S (zA G.1) s.heap H1 locs1 → zLv G sl1 (zm k).2.2.1 ls' → W p l e R s m args below meth c H1 locs1 (cells + (h'.1 - h.1)) (slots + (h'.2.1 - h.2.1)) Q (F0 m pc' sl1 (st'.map (ztv G)))) : W p l e R s m args below meth c H locs cells slots Q (F0 m pc sl (st.map (ztv G))) := by
  obtain ⟨hx, hb, hml, hown, hts, hnm, hK, hX, hfr, hlo⟩ := C
  simp only [zx, zun] at hz
  split at hz
  · simp only [Option.some.injEq, Sum.inl.injEq, Prod.mk.injEq] at hz
    obtain ⟨rfl, rfl, rfl, rfl⟩ := hz
    have kk := kk H locs sl hP hS hl
    simp only [Nat.sub_self, Nat.add_zero, List.map_cons, ztv_int, ztv_long, ztv_ref] at kk ⊢
    exact lv_i2b hx hb hd rfl kk
  · cases hz
theorem n_i2s {len a b : Nat} {iv : Int} (C : zCx G p R s m args meth c d k) (hd : decode (zm k).2.1 pc = .ok (.i2s, 1)) (hlk : zokl k (zm k).1.cls (zlk (zm k).1.cls) zNW pc (.i2s) a b iv = true) {pc' : Nat} {ls' : zL} {st' : List Value} {h' : zH} (hz : zx (.i2s, len, a, b, iv) k pc ls st h = some (.inl (pc', ls', st', h'))) (hP : zP G h H) (hS : va_S (zA G.1) s.heap H locs) (hl : zLv G sl (zm k).2.2.1 ls) (hcells : cells + (h'.1 - h.1) ≤ R.cells) (hslots : slots + (h'.2.1 - h.2.1) ≤ R.slots) (kk : ∀ (H1 : Heap) (locs1 : List Loc) (sl1 : Array Slot), zP G h' H1 → va_S (zA G.1) s.heap H1 locs1 → zLv G sl1 (zm k).2.2.1 ls' → W p l e R s m args below meth c H1 locs1 (cells + (h'.1 - h.1)) (slots + (h'.2.1 - h.2.1)) Q (F0 m pc' sl1 (st'.map (ztv G)))) : W p l e R s m args below meth c H locs cells slots Q (F0 m pc sl (st.map (ztv G))) := by
  obtain ⟨hx, hb, hml, hown, hts, hnm, hK, hX, hfr, hlo⟩ := C
  simp only [zx, zun] at hz
  split at hz
  · simp only [Option.some.injEq, Sum.inl.injEq, Prod.mk.injEq] at hz
    obtain ⟨rfl, rfl, rfl, rfl⟩ := hz
    have kk := kk H locs sl hP hS hl
    simp only [Nat.sub_self, Nat.add_zero, List.map_cons, ztv_int, ztv_long, ztv_ref] at kk ⊢
    exact lv_i2s hx hb hd rfl kk
  · cases hz
theorem n_i2c {len a b : Nat} {iv : Int} (C : zCx G p R s m args meth c d k) (hd : decode (zm k).2.1 pc = .ok (.i2c, 1)) (hlk : zokl k (zm k).1.cls (zlk (zm k).1.cls) zNW pc (.i2c) a b iv = true) {pc' : Nat} {ls' : zL} {st' : List Value} {h' : zH} (hz : zx (.i2c, len, a, b, iv) k pc ls st h = some (.inl (pc', ls', st', h'))) (hP : zP G h H) (hS : va_S (zA G.1) s.heap H locs) (hl : zLv G sl (zm k).2.2.1 ls) (hcells : cells + (h'.1 - h.1) ≤ R.cells) (hslots : slots + (h'.2.1 - h.2.1) ≤ R.slots) (kk : ∀ (H1 : Heap) (locs1 : List Loc) (sl1 : Array Slot), zP G h' H1 → va_S (zA G.1) s.heap H1 locs1 → zLv G sl1 (zm k).2.2.1 ls' → W p l e R s m args below meth c H1 locs1 (cells + (h'.1 - h.1)) (slots + (h'.2.1 - h.2.1)) Q (F0 m pc' sl1 (st'.map (ztv G)))) : W p l e R s m args below meth c H locs cells slots Q (F0 m pc sl (st.map (ztv G))) := by
  obtain ⟨hx, hb, hml, hown, hts, hnm, hK, hX, hfr, hlo⟩ := C
  simp only [zx, zun] at hz
  split at hz
  · simp only [Option.some.injEq, Sum.inl.injEq, Prod.mk.injEq] at hz
    obtain ⟨rfl, rfl, rfl, rfl⟩ := hz
    have kk := kk H locs sl hP hS hl
    simp only [Nat.sub_self, Nat.add_zero, List.map_cons, ztv_int, ztv_long, ztv_ref] at kk ⊢
    exact lv_i2c hx hb hd rfl kk
  · cases hz
theorem n_ladd {len a b : Nat} {iv : Int} (C : zCx G p R s m args meth c d k) (hd : decode (zm k).2.1 pc = .ok (.ladd, 1)) (hlk : zokl k (zm k).1.cls (zlk (zm k).1.cls) zNW pc (.ladd) a b iv = true) {pc' : Nat} {ls' : zL} {st' : List Value} {h' : zH} (hz : zx (.ladd, len, a, b, iv) k pc ls st h = some (.inl (pc', ls', st', h'))) (hP : zP G h H) (hS : va_S (zA G.1) s.heap H locs) (hl : zLv G sl (zm k).2.2.1 ls) (hcells : cells + (h'.1 - h.1) ≤ R.cells) (hslots : slots + (h'.2.1 - h.2.1) ≤ R.slots) (kk : ∀ (H1 : Heap) (locs1 : List Loc) (sl1 : Array Slot), zP G h' H1 → va_S (zA G.1) s.heap H1 locs1 → zLv G sl1 (zm k).2.2.1 ls' → W p l e R s m args below meth c H1 locs1 (cells + (h'.1 - h.1)) (slots + (h'.2.1 - h.2.1)) Q (F0 m pc' sl1 (st'.map (ztv G)))) : W p l e R s m args below meth c H locs cells slots Q (F0 m pc sl (st.map (ztv G))) := by
  obtain ⟨hx, hb, hml, hown, hts, hnm, hK, hX, hfr, hlo⟩ := C
  simp only [zx, zbl] at hz
  split at hz
  · simp only [Option.some.injEq, Sum.inl.injEq, Prod.mk.injEq] at hz
    obtain ⟨rfl, rfl, rfl, rfl⟩ := hz
    have kk := kk H locs sl hP hS hl
    simp only [Nat.sub_self, Nat.add_zero, List.map_cons, ztv_int, ztv_long, ztv_ref] at kk ⊢
    exact lv_ladd hx hb hd kk
  · cases hz
theorem n_lsub {len a b : Nat} {iv : Int} (C : zCx G p R s m args meth c d k) (hd : decode (zm k).2.1 pc = .ok (.lsub, 1)) (hlk : zokl k (zm k).1.cls (zlk (zm k).1.cls) zNW pc (.lsub) a b iv = true) {pc' : Nat} {ls' : zL} {st' : List Value} {h' : zH} (hz : zx (.lsub, len, a, b, iv) k pc ls st h = some (.inl (pc', ls', st', h'))) (hP : zP G h H) (hS : va_S (zA G.1) s.heap H locs) (hl : zLv G sl (zm k).2.2.1 ls) (hcells : cells + (h'.1 - h.1) ≤ R.cells) (hslots : slots + (h'.2.1 - h.2.1) ≤ R.slots) (kk : ∀ (H1 : Heap) (locs1 : List Loc) (sl1 : Array Slot), zP G h' H1 → va_S (zA G.1) s.heap H1 locs1 → zLv G sl1 (zm k).2.2.1 ls' → W p l e R s m args below meth c H1 locs1 (cells + (h'.1 - h.1)) (slots + (h'.2.1 - h.2.1)) Q (F0 m pc' sl1 (st'.map (ztv G)))) : W p l e R s m args below meth c H locs cells slots Q (F0 m pc sl (st.map (ztv G))) := by
  obtain ⟨hx, hb, hml, hown, hts, hnm, hK, hX, hfr, hlo⟩ := C
  simp only [zx, zbl] at hz
  split at hz
  · simp only [Option.some.injEq, Sum.inl.injEq, Prod.mk.injEq] at hz
    obtain ⟨rfl, rfl, rfl, rfl⟩ := hz
    have kk := kk H locs sl hP hS hl
    simp only [Nat.sub_self, Nat.add_zero, List.map_cons, ztv_int, ztv_long, ztv_ref] at kk ⊢
    exact lv_lsub hx hb hd kk
  · cases hz
theorem n_lmul {len a b : Nat} {iv : Int} (C : zCx G p R s m args meth c d k) (hd : decode (zm k).2.1 pc = .ok (.lmul, 1)) (hlk : zokl k (zm k).1.cls (zlk (zm k).1.cls) zNW pc (.lmul) a b iv = true) {pc' : Nat} {ls' : zL} {st' : List Value} {h' : zH} (hz : zx (.lmul, len, a, b, iv) k pc ls st h = some (.inl (pc', ls', st', h'))) (hP : zP G h H) (hS : va_S (zA G.1) s.heap H locs) (hl : zLv G sl (zm k).2.2.1 ls) (hcells : cells + (h'.1 - h.1) ≤ R.cells) (hslots : slots + (h'.2.1 - h.2.1) ≤ R.slots) (kk : ∀ (H1 : Heap) (locs1 : List Loc) (sl1 : Array Slot), zP G h' H1 → va_S (zA G.1) s.heap H1 locs1 → zLv G sl1 (zm k).2.2.1 ls' → W p l e R s m args below meth c H1 locs1 (cells + (h'.1 - h.1)) (slots + (h'.2.1 - h.2.1)) Q (F0 m pc' sl1 (st'.map (ztv G)))) : W p l e R s m args below meth c H locs cells slots Q (F0 m pc sl (st.map (ztv G))) := by
  obtain ⟨hx, hb, hml, hown, hts, hnm, hK, hX, hfr, hlo⟩ := C
  simp only [zx, zbl] at hz
  split at hz
  · simp only [Option.some.injEq, Sum.inl.injEq, Prod.mk.injEq] at hz
    obtain ⟨rfl, rfl, rfl, rfl⟩ := hz
    have kk := kk H locs sl hP hS hl
    simp only [Nat.sub_self, Nat.add_zero, List.map_cons, ztv_int, ztv_long, ztv_ref] at kk ⊢
    exact lv_lmul hx hb hd kk
  · cases hz
theorem n_land {len a b : Nat} {iv : Int} (C : zCx G p R s m args meth c d k) (hd : decode (zm k).2.1 pc = .ok (.land, 1)) (hlk : zokl k (zm k).1.cls (zlk (zm k).1.cls) zNW pc (.land) a b iv = true) {pc' : Nat} {ls' : zL} {st' : List Value} {h' : zH} (hz : zx (.land, len, a, b, iv) k pc ls st h = some (.inl (pc', ls', st', h'))) (hP : zP G h H) (hS : va_S (zA G.1) s.heap H locs) (hl : zLv G sl (zm k).2.2.1 ls) (hcells : cells + (h'.1 - h.1) ≤ R.cells) (hslots : slots + (h'.2.1 - h.2.1) ≤ R.slots) (kk : ∀ (H1 : Heap) (locs1 : List Loc) (sl1 : Array Slot), zP G h' H1 → va_S (zA G.1) s.heap H1 locs1 → zLv G sl1 (zm k).2.2.1 ls' → W p l e R s m args below meth c H1 locs1 (cells + (h'.1 - h.1)) (slots + (h'.2.1 - h.2.1)) Q (F0 m pc' sl1 (st'.map (ztv G)))) : W p l e R s m args below meth c H locs cells slots Q (F0 m pc sl (st.map (ztv G))) := by
  obtain ⟨hx, hb, hml, hown, hts, hnm, hK, hX, hfr, hlo⟩ := C
  simp only [zx, zbl] at hz
  split at hz
  · simp only [Option.some.injEq, Sum.inl.injEq, Prod.mk.injEq] at hz
    obtain ⟨rfl, rfl, rfl, rfl⟩ := hz
    have kk := kk H locs sl hP hS hl
    simp only [Nat.sub_self, Nat.add_zero, List.map_cons, ztv_int, ztv_long, ztv_ref] at kk ⊢
    exact lv_land hx hb hd kk
  · cases hz
theorem n_lor {len a b : Nat} {iv : Int} (C : zCx G p R s m args meth c d k) (hd : decode (zm k).2.1 pc = .ok (.lor, 1)) (hlk : zokl k (zm k).1.cls (zlk (zm k).1.cls) zNW pc (.lor) a b iv = true) {pc' : Nat} {ls' : zL} {st' : List Value} {h' : zH} (hz : zx (.lor, len, a, b, iv) k pc ls st h = some (.inl (pc', ls', st', h'))) (hP : zP G h H) (hS : va_S (zA G.1) s.heap H locs) (hl : zLv G sl (zm k).2.2.1 ls) (hcells : cells + (h'.1 - h.1) ≤ R.cells) (hslots : slots + (h'.2.1 - h.2.1) ≤ R.slots) (kk : ∀ (H1 : Heap) (locs1 : List Loc) (sl1 : Array Slot), zP G h' H1 → va_S (zA G.1) s.heap H1 locs1 → zLv G sl1 (zm k).2.2.1 ls' → W p l e R s m args below meth c H1 locs1 (cells + (h'.1 - h.1)) (slots + (h'.2.1 - h.2.1)) Q (F0 m pc' sl1 (st'.map (ztv G)))) : W p l e R s m args below meth c H locs cells slots Q (F0 m pc sl (st.map (ztv G))) := by
  obtain ⟨hx, hb, hml, hown, hts, hnm, hK, hX, hfr, hlo⟩ := C
  simp only [zx, zbl] at hz
  split at hz
  · simp only [Option.some.injEq, Sum.inl.injEq, Prod.mk.injEq] at hz
    obtain ⟨rfl, rfl, rfl, rfl⟩ := hz
    have kk := kk H locs sl hP hS hl
    simp only [Nat.sub_self, Nat.add_zero, List.map_cons, ztv_int, ztv_long, ztv_ref] at kk ⊢
    exact lv_lor hx hb hd kk
  · cases hz
theorem n_lxor {len a b : Nat} {iv : Int} (C : zCx G p R s m args meth c d k) (hd : decode (zm k).2.1 pc = .ok (.lxor, 1)) (hlk : zokl k (zm k).1.cls (zlk (zm k).1.cls) zNW pc (.lxor) a b iv = true) {pc' : Nat} {ls' : zL} {st' : List Value} {h' : zH} (hz : zx (.lxor, len, a, b, iv) k pc ls st h = some (.inl (pc', ls', st', h'))) (hP : zP G h H) (hS : va_S (zA G.1) s.heap H locs) (hl : zLv G sl (zm k).2.2.1 ls) (hcells : cells + (h'.1 - h.1) ≤ R.cells) (hslots : slots + (h'.2.1 - h.2.1) ≤ R.slots) (kk : ∀ (H1 : Heap) (locs1 : List Loc) (sl1 : Array Slot), zP G h' H1 → va_S (zA G.1) s.heap H1 locs1 → zLv G sl1 (zm k).2.2.1 ls' → W p l e R s m args below meth c H1 locs1 (cells + (h'.1 - h.1)) (slots + (h'.2.1 - h.2.1)) Q (F0 m pc' sl1 (st'.map (ztv G)))) : W p l e R s m args below meth c H locs cells slots Q (F0 m pc sl (st.map (ztv G))) := by
  obtain ⟨hx, hb, hml, hown, hts, hnm, hK, hX, hfr, hlo⟩ := C
  simp only [zx, zbl] at hz
  split at hz
  · simp only [Option.some.injEq, Sum.inl.injEq, Prod.mk.injEq] at hz
    obtain ⟨rfl, rfl, rfl, rfl⟩ := hz
    have kk := kk H locs sl hP hS hl
    simp only [Nat.sub_self, Nat.add_zero, List.map_cons, ztv_int, ztv_long, ztv_ref] at kk ⊢
    exact lv_lxor hx hb hd kk
  · cases hz
theorem n_lshl {len a b : Nat} {iv : Int} (C : zCx G p R s m args meth c d k) (hd : decode (zm k).2.1 pc = .ok (.lshl, 1)) (hlk : zokl k (zm k).1.cls (zlk (zm k).1.cls) zNW pc (.lshl) a b iv = true) {pc' : Nat} {ls' : zL} {st' : List Value} {h' : zH} (hz : zx (.lshl, len, a, b, iv) k pc ls st h = some (.inl (pc', ls', st', h'))) (hP : zP G h H) (hS : va_S (zA G.1) s.heap H locs) (hl : zLv G sl (zm k).2.2.1 ls) (hcells : cells + (h'.1 - h.1) ≤ R.cells) (hslots : slots + (h'.2.1 - h.2.1) ≤ R.slots) (kk : ∀ (H1 : Heap) (locs1 : List Loc) (sl1 : Array Slot), zP G h' H1 → va_S (zA G.1) s.heap H1 locs1 → zLv G sl1 (zm k).2.2.1 ls' → W p l e R s m args below meth c H1 locs1 (cells + (h'.1 - h.1)) (slots + (h'.2.1 - h.2.1)) Q (F0 m pc' sl1 (st'.map (ztv G)))) : W p l e R s m args below meth c H locs cells slots Q (F0 m pc sl (st.map (ztv G))) := by
  obtain ⟨hx, hb, hml, hown, hts, hnm, hK, hX, hfr, hlo⟩ := C
  simp only [zx, zbs] at hz
  split at hz
  · simp only [Option.some.injEq, Sum.inl.injEq, Prod.mk.injEq] at hz
    obtain ⟨rfl, rfl, rfl, rfl⟩ := hz
    have kk := kk H locs sl hP hS hl
    simp only [Nat.sub_self, Nat.add_zero, List.map_cons, ztv_int, ztv_long, ztv_ref] at kk ⊢
    exact lv_lshl hx hb hd rfl kk
  · cases hz
theorem n_lushr {len a b : Nat} {iv : Int} (C : zCx G p R s m args meth c d k) (hd : decode (zm k).2.1 pc = .ok (.lushr, 1)) (hlk : zokl k (zm k).1.cls (zlk (zm k).1.cls) zNW pc (.lushr) a b iv = true) {pc' : Nat} {ls' : zL} {st' : List Value} {h' : zH} (hz : zx (.lushr, len, a, b, iv) k pc ls st h = some (.inl (pc', ls', st', h'))) (hP : zP G h H) (hS : va_S (zA G.1) s.heap H locs) (hl : zLv G sl (zm k).2.2.1 ls) (hcells : cells + (h'.1 - h.1) ≤ R.cells) (hslots : slots + (h'.2.1 - h.2.1) ≤ R.slots) (kk : ∀ (H1 : Heap) (locs1 : List Loc) (sl1 : Array Slot), zP G h' H1 → va_S (zA G.1) s.heap H1 locs1 → zLv G sl1 (zm k).2.2.1 ls' → W p l e R s m args below meth c H1 locs1 (cells + (h'.1 - h.1)) (slots + (h'.2.1 - h.2.1)) Q (F0 m pc' sl1 (st'.map (ztv G)))) : W p l e R s m args below meth c H locs cells slots Q (F0 m pc sl (st.map (ztv G))) := by
  obtain ⟨hx, hb, hml, hown, hts, hnm, hK, hX, hfr, hlo⟩ := C
  simp only [zx, zbs] at hz
  split at hz
  · simp only [Option.some.injEq, Sum.inl.injEq, Prod.mk.injEq] at hz
    obtain ⟨rfl, rfl, rfl, rfl⟩ := hz
    have kk := kk H locs sl hP hS hl
    simp only [Nat.sub_self, Nat.add_zero, List.map_cons, ztv_int, ztv_long, ztv_ref] at kk ⊢
    exact lv_lushr hx hb hd rfl kk
  · cases hz
theorem n_lneg {len a b : Nat} {iv : Int} (C : zCx G p R s m args meth c d k) (hd : decode (zm k).2.1 pc = .ok (.lneg, 1)) (hlk : zokl k (zm k).1.cls (zlk (zm k).1.cls) zNW pc (.lneg) a b iv = true) {pc' : Nat} {ls' : zL} {st' : List Value} {h' : zH} (hz : zx (.lneg, len, a, b, iv) k pc ls st h = some (.inl (pc', ls', st', h'))) (hP : zP G h H) (hS : va_S (zA G.1) s.heap H locs) (hl : zLv G sl (zm k).2.2.1 ls) (hcells : cells + (h'.1 - h.1) ≤ R.cells) (hslots : slots + (h'.2.1 - h.2.1) ≤ R.slots) (kk : ∀ (H1 : Heap) (locs1 : List Loc) (sl1 : Array Slot), zP G h' H1 → va_S (zA G.1) s.heap H1 locs1 → zLv G sl1 (zm k).2.2.1 ls' → W p l e R s m args below meth c H1 locs1 (cells + (h'.1 - h.1)) (slots + (h'.2.1 - h.2.1)) Q (F0 m pc' sl1 (st'.map (ztv G)))) : W p l e R s m args below meth c H locs cells slots Q (F0 m pc sl (st.map (ztv G))) := by
  obtain ⟨hx, hb, hml, hown, hts, hnm, hK, hX, hfr, hlo⟩ := C
  simp only [zx] at hz
  split at hz
  · simp only [Option.some.injEq, Sum.inl.injEq, Prod.mk.injEq] at hz
    obtain ⟨rfl, rfl, rfl, rfl⟩ := hz
    have kk := kk H locs sl hP hS hl
    simp only [Nat.sub_self, Nat.add_zero, List.map_cons, ztv_int, ztv_long, ztv_ref] at kk ⊢
    exact lv_lneg hx hb hd kk
  · cases hz
theorem n_i2l {len a b : Nat} {iv : Int} (C : zCx G p R s m args meth c d k) (hd : decode (zm k).2.1 pc = .ok (.i2l, 1)) (hlk : zokl k (zm k).1.cls (zlk (zm k).1.cls) zNW pc (.i2l) a b iv = true) {pc' : Nat} {ls' : zL} {st' : List Value} {h' : zH} (hz : zx (.i2l, len, a, b, iv) k pc ls st h = some (.inl (pc', ls', st', h'))) (hP : zP G h H) (hS : va_S (zA G.1) s.heap H locs) (hl : zLv G sl (zm k).2.2.1 ls) (hcells : cells + (h'.1 - h.1) ≤ R.cells) (hslots : slots + (h'.2.1 - h.2.1) ≤ R.slots) (kk : ∀ (H1 : Heap) (locs1 : List Loc) (sl1 : Array Slot), zP G h' H1 → va_S (zA G.1) s.heap H1 locs1 → zLv G sl1 (zm k).2.2.1 ls' → W p l e R s m args below meth c H1 locs1 (cells + (h'.1 - h.1)) (slots + (h'.2.1 - h.2.1)) Q (F0 m pc' sl1 (st'.map (ztv G)))) : W p l e R s m args below meth c H locs cells slots Q (F0 m pc sl (st.map (ztv G))) := by
  obtain ⟨hx, hb, hml, hown, hts, hnm, hK, hX, hfr, hlo⟩ := C
  simp only [zx] at hz
  split at hz
  · simp only [Option.some.injEq, Sum.inl.injEq, Prod.mk.injEq] at hz
    obtain ⟨rfl, rfl, rfl, rfl⟩ := hz
    have kk := kk H locs sl hP hS hl
    simp only [Nat.sub_self, Nat.add_zero, List.map_cons, ztv_int, ztv_long, ztv_ref] at kk ⊢
    exact lv_i2l hx hb hd rfl kk
  · cases hz
theorem n_l2i {len a b : Nat} {iv : Int} (C : zCx G p R s m args meth c d k) (hd : decode (zm k).2.1 pc = .ok (.l2i, 1)) (hlk : zokl k (zm k).1.cls (zlk (zm k).1.cls) zNW pc (.l2i) a b iv = true) {pc' : Nat} {ls' : zL} {st' : List Value} {h' : zH} (hz : zx (.l2i, len, a, b, iv) k pc ls st h = some (.inl (pc', ls', st', h'))) (hP : zP G h H) (hS : va_S (zA G.1) s.heap H locs) (hl : zLv G sl (zm k).2.2.1 ls) (hcells : cells + (h'.1 - h.1) ≤ R.cells) (hslots : slots + (h'.2.1 - h.2.1) ≤ R.slots) (kk : ∀ (H1 : Heap) (locs1 : List Loc) (sl1 : Array Slot), zP G h' H1 → va_S (zA G.1) s.heap H1 locs1 → zLv G sl1 (zm k).2.2.1 ls' → W p l e R s m args below meth c H1 locs1 (cells + (h'.1 - h.1)) (slots + (h'.2.1 - h.2.1)) Q (F0 m pc' sl1 (st'.map (ztv G)))) : W p l e R s m args below meth c H locs cells slots Q (F0 m pc sl (st.map (ztv G))) := by
  obtain ⟨hx, hb, hml, hown, hts, hnm, hK, hX, hfr, hlo⟩ := C
  simp only [zx] at hz
  split at hz
  · simp only [Option.some.injEq, Sum.inl.injEq, Prod.mk.injEq] at hz
    obtain ⟨rfl, rfl, rfl, rfl⟩ := hz
    have kk := kk H locs sl hP hS hl
    simp only [Nat.sub_self, Nat.add_zero, List.map_cons, ztv_int, ztv_long, ztv_ref] at kk ⊢
    exact lv_l2i hx hb hd rfl kk
  · cases hz
theorem n_lcmp {len a b : Nat} {iv : Int} (C : zCx G p R s m args meth c d k) (hd : decode (zm k).2.1 pc = .ok (.lcmp, 1)) (hlk : zokl k (zm k).1.cls (zlk (zm k).1.cls) zNW pc (.lcmp) a b iv = true) {pc' : Nat} {ls' : zL} {st' : List Value} {h' : zH} (hz : zx (.lcmp, len, a, b, iv) k pc ls st h = some (.inl (pc', ls', st', h'))) (hP : zP G h H) (hS : va_S (zA G.1) s.heap H locs) (hl : zLv G sl (zm k).2.2.1 ls) (hcells : cells + (h'.1 - h.1) ≤ R.cells) (hslots : slots + (h'.2.1 - h.2.1) ≤ R.slots) (kk : ∀ (H1 : Heap) (locs1 : List Loc) (sl1 : Array Slot), zP G h' H1 → va_S (zA G.1) s.heap H1 locs1 → zLv G sl1 (zm k).2.2.1 ls' → W p l e R s m args below meth c H1 locs1 (cells + (h'.1 - h.1)) (slots + (h'.2.1 - h.2.1)) Q (F0 m pc' sl1 (st'.map (ztv G)))) : W p l e R s m args below meth c H locs cells slots Q (F0 m pc sl (st.map (ztv G))) := by
  obtain ⟨hx, hb, hml, hown, hts, hnm, hK, hX, hfr, hlo⟩ := C
  simp only [zx] at hz
  split at hz
  · simp only [Option.some.injEq, Sum.inl.injEq, Prod.mk.injEq] at hz
    obtain ⟨rfl, rfl, rfl, rfl⟩ := hz
    have kk := kk H locs sl hP hS hl
    simp only [Nat.sub_self, Nat.add_zero, List.map_cons, ztv_int, ztv_long, ztv_ref] at kk ⊢
    exact W.lcmp hx hb hd kk
  · cases hz
theorem n_idiv {len a b : Nat} {iv : Int} (C : zCx G p R s m args meth c d k) (hd : decode (zm k).2.1 pc = .ok (.idiv, 1)) (hlk : zokl k (zm k).1.cls (zlk (zm k).1.cls) zNW pc (.idiv) a b iv = true) {pc' : Nat} {ls' : zL} {st' : List Value} {h' : zH} (hz : zx (.idiv, len, a, b, iv) k pc ls st h = some (.inl (pc', ls', st', h'))) (hP : zP G h H) (hS : va_S (zA G.1) s.heap H locs) (hl : zLv G sl (zm k).2.2.1 ls) (hcells : cells + (h'.1 - h.1) ≤ R.cells) (hslots : slots + (h'.2.1 - h.2.1) ≤ R.slots) (kk : ∀ (H1 : Heap) (locs1 : List Loc) (sl1 : Array Slot), zP G h' H1 → va_S (zA G.1) s.heap H1 locs1 → zLv G sl1 (zm k).2.2.1 ls' → W p l e R s m args below meth c H1 locs1 (cells + (h'.1 - h.1)) (slots + (h'.2.1 - h.2.1)) Q (F0 m pc' sl1 (st'.map (ztv G)))) : W p l e R s m args below meth c H locs cells slots Q (F0 m pc sl (st.map (ztv G))) := by
  obtain ⟨hx, hb, hml, hown, hts, hnm, hK, hX, hfr, hlo⟩ := C
  simp only [zx] at hz
  split at hz
  · split at hz
    · cases hz
    · rename_i hne
      simp only [Option.some.injEq, Sum.inl.injEq, Prod.mk.injEq] at hz
      obtain ⟨rfl, rfl, rfl, rfl⟩ := hz
      have kk := kk H locs sl hP hS hl
      simp only [Nat.sub_self, Nat.add_zero, List.map_cons, ztv_int, ztv_long] at kk ⊢
      exact lv_idiv hx hb hd hne kk
  · cases hz
theorem n_irem {len a b : Nat} {iv : Int} (C : zCx G p R s m args meth c d k) (hd : decode (zm k).2.1 pc = .ok (.irem, 1)) (hlk : zokl k (zm k).1.cls (zlk (zm k).1.cls) zNW pc (.irem) a b iv = true) {pc' : Nat} {ls' : zL} {st' : List Value} {h' : zH} (hz : zx (.irem, len, a, b, iv) k pc ls st h = some (.inl (pc', ls', st', h'))) (hP : zP G h H) (hS : va_S (zA G.1) s.heap H locs) (hl : zLv G sl (zm k).2.2.1 ls) (hcells : cells + (h'.1 - h.1) ≤ R.cells) (hslots : slots + (h'.2.1 - h.2.1) ≤ R.slots) (kk : ∀ (H1 : Heap) (locs1 : List Loc) (sl1 : Array Slot), zP G h' H1 → va_S (zA G.1) s.heap H1 locs1 → zLv G sl1 (zm k).2.2.1 ls' → W p l e R s m args below meth c H1 locs1 (cells + (h'.1 - h.1)) (slots + (h'.2.1 - h.2.1)) Q (F0 m pc' sl1 (st'.map (ztv G)))) : W p l e R s m args below meth c H locs cells slots Q (F0 m pc sl (st.map (ztv G))) := by
  obtain ⟨hx, hb, hml, hown, hts, hnm, hK, hX, hfr, hlo⟩ := C
  simp only [zx] at hz
  split at hz
  · split at hz
    · cases hz
    · rename_i hne
      simp only [Option.some.injEq, Sum.inl.injEq, Prod.mk.injEq] at hz
      obtain ⟨rfl, rfl, rfl, rfl⟩ := hz
      have kk := kk H locs sl hP hS hl
      simp only [Nat.sub_self, Nat.add_zero, List.map_cons, ztv_int, ztv_long] at kk ⊢
      exact lv_irem hx hb hd hne kk
  · cases hz
theorem n_ldiv {len a b : Nat} {iv : Int} (C : zCx G p R s m args meth c d k) (hd : decode (zm k).2.1 pc = .ok (.ldiv, 1)) (hlk : zokl k (zm k).1.cls (zlk (zm k).1.cls) zNW pc (.ldiv) a b iv = true) {pc' : Nat} {ls' : zL} {st' : List Value} {h' : zH} (hz : zx (.ldiv, len, a, b, iv) k pc ls st h = some (.inl (pc', ls', st', h'))) (hP : zP G h H) (hS : va_S (zA G.1) s.heap H locs) (hl : zLv G sl (zm k).2.2.1 ls) (hcells : cells + (h'.1 - h.1) ≤ R.cells) (hslots : slots + (h'.2.1 - h.2.1) ≤ R.slots) (kk : ∀ (H1 : Heap) (locs1 : List Loc) (sl1 : Array Slot), zP G h' H1 → va_S (zA G.1) s.heap H1 locs1 → zLv G sl1 (zm k).2.2.1 ls' → W p l e R s m args below meth c H1 locs1 (cells + (h'.1 - h.1)) (slots + (h'.2.1 - h.2.1)) Q (F0 m pc' sl1 (st'.map (ztv G)))) : W p l e R s m args below meth c H locs cells slots Q (F0 m pc sl (st.map (ztv G))) := by
  obtain ⟨hx, hb, hml, hown, hts, hnm, hK, hX, hfr, hlo⟩ := C
  simp only [zx] at hz
  split at hz
  · split at hz
    · cases hz
    · rename_i hne
      simp only [Option.some.injEq, Sum.inl.injEq, Prod.mk.injEq] at hz
      obtain ⟨rfl, rfl, rfl, rfl⟩ := hz
      have kk := kk H locs sl hP hS hl
      simp only [Nat.sub_self, Nat.add_zero, List.map_cons, ztv_int, ztv_long] at kk ⊢
      exact lv_ldiv hx hb hd hne kk
  · cases hz
theorem n_lrem {len a b : Nat} {iv : Int} (C : zCx G p R s m args meth c d k) (hd : decode (zm k).2.1 pc = .ok (.lrem, 1)) (hlk : zokl k (zm k).1.cls (zlk (zm k).1.cls) zNW pc (.lrem) a b iv = true) {pc' : Nat} {ls' : zL} {st' : List Value} {h' : zH} (hz : zx (.lrem, len, a, b, iv) k pc ls st h = some (.inl (pc', ls', st', h'))) (hP : zP G h H) (hS : va_S (zA G.1) s.heap H locs) (hl : zLv G sl (zm k).2.2.1 ls) (hcells : cells + (h'.1 - h.1) ≤ R.cells) (hslots : slots + (h'.2.1 - h.2.1) ≤ R.slots) (kk : ∀ (H1 : Heap) (locs1 : List Loc) (sl1 : Array Slot), zP G h' H1 → va_S (zA G.1) s.heap H1 locs1 → zLv G sl1 (zm k).2.2.1 ls' → W p l e R s m args below meth c H1 locs1 (cells + (h'.1 - h.1)) (slots + (h'.2.1 - h.2.1)) Q (F0 m pc' sl1 (st'.map (ztv G)))) : W p l e R s m args below meth c H locs cells slots Q (F0 m pc sl (st.map (ztv G))) := by
  obtain ⟨hx, hb, hml, hown, hts, hnm, hK, hX, hfr, hlo⟩ := C
  simp only [zx] at hz
  split at hz
  · split at hz
    · cases hz
    · rename_i hne
      simp only [Option.some.injEq, Sum.inl.injEq, Prod.mk.injEq] at hz
      obtain ⟨rfl, rfl, rfl, rfl⟩ := hz
      have kk := kk H locs sl hP hS hl
      simp only [Nat.sub_self, Nat.add_zero, List.map_cons, ztv_int, ztv_long] at kk ⊢
      exact lv_lrem hx hb hd hne kk
  · cases hz
theorem n_iconst {len a b : Nat} {iv : Int} {q : Int} (C : zCx G p R s m args meth c d k) (hd : decode (zm k).2.1 pc = .ok (.iconst q, 1)) (hlk : zokl k (zm k).1.cls (zlk (zm k).1.cls) zNW pc (.iconst q) a b iv = true) {pc' : Nat} {ls' : zL} {st' : List Value} {h' : zH} (hz : zx (.iconst q, len, a, b, iv) k pc ls st h = some (.inl (pc', ls', st', h'))) (hP : zP G h H) (hS : va_S (zA G.1) s.heap H locs) (hl : zLv G sl (zm k).2.2.1 ls) (hcells : cells + (h'.1 - h.1) ≤ R.cells) (hslots : slots + (h'.2.1 - h.2.1) ≤ R.slots) (kk : ∀ (H1 : Heap) (locs1 : List Loc) (sl1 : Array Slot), zP G h' H1 → va_S (zA G.1) s.heap H1 locs1 → zLv G sl1 (zm k).2.2.1 ls' → W p l e R s m args below meth c H1 locs1 (cells + (h'.1 - h.1)) (slots + (h'.2.1 - h.2.1)) Q (F0 m pc' sl1 (st'.map (ztv G)))) : W p l e R s m args below meth c H locs cells slots Q (F0 m pc sl (st.map (ztv G))) := by
  obtain ⟨hx, hb, hml, hown, hts, hnm, hK, hX, hfr, hlo⟩ := C
  simp only [zx] at hz
  simp only [Option.some.injEq, Sum.inl.injEq, Prod.mk.injEq] at hz
  obtain ⟨rfl, rfl, rfl, rfl⟩ := hz
  have kk := kk H locs sl hP hS hl
  simp only [Nat.sub_self, Nat.add_zero, List.map_cons, ztv_int, ztv_long] at kk ⊢
  exact lv_iconst hx hb hd rfl kk
theorem n_bipush {len a b : Nat} {iv : Int} {q : Int} (C : zCx G p R s m args meth c d k) (hd : decode (zm k).2.1 pc = .ok (.bipush q, 2)) (hlk : zokl k (zm k).1.cls (zlk (zm k).1.cls) zNW pc (.bipush q) a b iv = true) {pc' : Nat} {ls' : zL} {st' : List Value} {h' : zH} (hz : zx (.bipush q, len, a, b, iv) k pc ls st h = some (.inl (pc', ls', st', h'))) (hP : zP G h H) (hS : va_S (zA G.1) s.heap H locs) (hl : zLv G sl (zm k).2.2.1 ls) (hcells : cells + (h'.1 - h.1) ≤ R.cells) (hslots : slots + (h'.2.1 - h.2.1) ≤ R.slots) (kk : ∀ (H1 : Heap) (locs1 : List Loc) (sl1 : Array Slot), zP G h' H1 → va_S (zA G.1) s.heap H1 locs1 → zLv G sl1 (zm k).2.2.1 ls' → W p l e R s m args below meth c H1 locs1 (cells + (h'.1 - h.1)) (slots + (h'.2.1 - h.2.1)) Q (F0 m pc' sl1 (st'.map (ztv G)))) : W p l e R s m args below meth c H locs cells slots Q (F0 m pc sl (st.map (ztv G))) := by
  obtain ⟨hx, hb, hml, hown, hts, hnm, hK, hX, hfr, hlo⟩ := C
  simp only [zx] at hz
  simp only [Option.some.injEq, Sum.inl.injEq, Prod.mk.injEq] at hz
  obtain ⟨rfl, rfl, rfl, rfl⟩ := hz
  have kk := kk H locs sl hP hS hl
  simp only [Nat.sub_self, Nat.add_zero, List.map_cons, ztv_int, ztv_long] at kk ⊢
  exact lv_bipush hx hb hd rfl kk
theorem n_sipush {len a b : Nat} {iv : Int} {q : Int} (C : zCx G p R s m args meth c d k) (hd : decode (zm k).2.1 pc = .ok (.sipush q, 3)) (hlk : zokl k (zm k).1.cls (zlk (zm k).1.cls) zNW pc (.sipush q) a b iv = true) {pc' : Nat} {ls' : zL} {st' : List Value} {h' : zH} (hz : zx (.sipush q, len, a, b, iv) k pc ls st h = some (.inl (pc', ls', st', h'))) (hP : zP G h H) (hS : va_S (zA G.1) s.heap H locs) (hl : zLv G sl (zm k).2.2.1 ls) (hcells : cells + (h'.1 - h.1) ≤ R.cells) (hslots : slots + (h'.2.1 - h.2.1) ≤ R.slots) (kk : ∀ (H1 : Heap) (locs1 : List Loc) (sl1 : Array Slot), zP G h' H1 → va_S (zA G.1) s.heap H1 locs1 → zLv G sl1 (zm k).2.2.1 ls' → W p l e R s m args below meth c H1 locs1 (cells + (h'.1 - h.1)) (slots + (h'.2.1 - h.2.1)) Q (F0 m pc' sl1 (st'.map (ztv G)))) : W p l e R s m args below meth c H locs cells slots Q (F0 m pc sl (st.map (ztv G))) := by
  obtain ⟨hx, hb, hml, hown, hts, hnm, hK, hX, hfr, hlo⟩ := C
  simp only [zx] at hz
  simp only [Option.some.injEq, Sum.inl.injEq, Prod.mk.injEq] at hz
  obtain ⟨rfl, rfl, rfl, rfl⟩ := hz
  have kk := kk H locs sl hP hS hl
  simp only [Nat.sub_self, Nat.add_zero, List.map_cons, ztv_int, ztv_long] at kk ⊢
  exact lv_sipush hx hb hd rfl kk
theorem n_lconst {len a b : Nat} {iv : Int} {q : Fin 2} (C : zCx G p R s m args meth c d k) (hd : decode (zm k).2.1 pc = .ok (.lconst q, 1)) (hlk : zokl k (zm k).1.cls (zlk (zm k).1.cls) zNW pc (.lconst q) a b iv = true) {pc' : Nat} {ls' : zL} {st' : List Value} {h' : zH} (hz : zx (.lconst q, len, a, b, iv) k pc ls st h = some (.inl (pc', ls', st', h'))) (hP : zP G h H) (hS : va_S (zA G.1) s.heap H locs) (hl : zLv G sl (zm k).2.2.1 ls) (hcells : cells + (h'.1 - h.1) ≤ R.cells) (hslots : slots + (h'.2.1 - h.2.1) ≤ R.slots) (kk : ∀ (H1 : Heap) (locs1 : List Loc) (sl1 : Array Slot), zP G h' H1 → va_S (zA G.1) s.heap H1 locs1 → zLv G sl1 (zm k).2.2.1 ls' → W p l e R s m args below meth c H1 locs1 (cells + (h'.1 - h.1)) (slots + (h'.2.1 - h.2.1)) Q (F0 m pc' sl1 (st'.map (ztv G)))) : W p l e R s m args below meth c H locs cells slots Q (F0 m pc sl (st.map (ztv G))) := by
  obtain ⟨hx, hb, hml, hown, hts, hnm, hK, hX, hfr, hlo⟩ := C
  simp only [zx] at hz
  simp only [Option.some.injEq, Sum.inl.injEq, Prod.mk.injEq] at hz
  obtain ⟨rfl, rfl, rfl, rfl⟩ := hz
  have kk := kk H locs sl hP hS hl
  simp only [Nat.sub_self, Nat.add_zero, List.map_cons, ztv_int, ztv_long] at kk ⊢
  exact lv_lconst hx hb hd rfl kk
theorem n_ldc {len a b : Nat} {iv : Int} {q : Nat} (C : zCx G p R s m args meth c d k) (hd : decode (zm k).2.1 pc = .ok (.ldc q, 2)) (hlk : zokl k (zm k).1.cls (zlk (zm k).1.cls) zNW pc (.ldc q) a b iv = true) {pc' : Nat} {ls' : zL} {st' : List Value} {h' : zH} (hz : zx (.ldc q, len, a, b, iv) k pc ls st h = some (.inl (pc', ls', st', h'))) (hP : zP G h H) (hS : va_S (zA G.1) s.heap H locs) (hl : zLv G sl (zm k).2.2.1 ls) (hcells : cells + (h'.1 - h.1) ≤ R.cells) (hslots : slots + (h'.2.1 - h.2.1) ≤ R.slots) (kk : ∀ (H1 : Heap) (locs1 : List Loc) (sl1 : Array Slot), zP G h' H1 → va_S (zA G.1) s.heap H1 locs1 → zLv G sl1 (zm k).2.2.1 ls' → W p l e R s m args below meth c H1 locs1 (cells + (h'.1 - h.1)) (slots + (h'.2.1 - h.2.1)) Q (F0 m pc' sl1 (st'.map (ztv G)))) : W p l e R s m args below meth c H locs cells slots Q (F0 m pc sl (st.map (ztv G))) := by
  obtain ⟨hx, hb, hml, hown, hts, hnm, hK, hX, hfr, hlo⟩ := C
  simp only [zx] at hz
  simp only [zokl] at hlk
  by_cases hb1 : b = 1
  · rw [if_pos hb1] at hz hlk
    simp only [Option.some.injEq, Sum.inl.injEq, Prod.mk.injEq] at hz
    obtain ⟨rfl, rfl, rfl, rfl⟩ := hz
    simp only [Bool.and_eq_true, decide_eq_true_eq] at hlk
    obtain ⟨ho, rfl⟩ := hlk
    have kk := kk H locs sl hP hS hl
    obtain ⟨-, -, -, -, -, ⟨t5, u5, a5, b5, c5, d5, e5, f5, g5⟩, -⟩ := hX
    simp only [Nat.sub_self, Nat.add_zero, List.map_cons, ztv_ref] at kk ⊢
    rw [zad_old G (by omega), a5] at kk
    rw [ho] at hown
    exact va_ldcS hx hb hown g5 hd kk
  · rw [if_neg hb1] at hz hlk
    simp only [Option.some.injEq, Sum.inl.injEq, Prod.mk.injEq] at hz
    obtain ⟨rfl, rfl, rfl, rfl⟩ := hz
    have kk := kk H locs sl hP hS hl
    simp only [Nat.sub_self, Nat.add_zero, List.map_cons, ztv_int] at kk ⊢
    exact lv_ldc hx hb hown (hts _ (zlk_w (of_decide_eq_true hlk))) hd kk
theorem n_ldc_w {len a b : Nat} {iv : Int} {q : Nat} (C : zCx G p R s m args meth c d k) (hd : decode (zm k).2.1 pc = .ok (.ldc_w q, 3)) (hlk : zokl k (zm k).1.cls (zlk (zm k).1.cls) zNW pc (.ldc_w q) a b iv = true) {pc' : Nat} {ls' : zL} {st' : List Value} {h' : zH} (hz : zx (.ldc_w q, len, a, b, iv) k pc ls st h = some (.inl (pc', ls', st', h'))) (hP : zP G h H) (hS : va_S (zA G.1) s.heap H locs) (hl : zLv G sl (zm k).2.2.1 ls) (hcells : cells + (h'.1 - h.1) ≤ R.cells) (hslots : slots + (h'.2.1 - h.2.1) ≤ R.slots) (kk : ∀ (H1 : Heap) (locs1 : List Loc) (sl1 : Array Slot), zP G h' H1 → va_S (zA G.1) s.heap H1 locs1 → zLv G sl1 (zm k).2.2.1 ls' → W p l e R s m args below meth c H1 locs1 (cells + (h'.1 - h.1)) (slots + (h'.2.1 - h.2.1)) Q (F0 m pc' sl1 (st'.map (ztv G)))) : W p l e R s m args below meth c H locs cells slots Q (F0 m pc sl (st.map (ztv G))) := by
  obtain ⟨hx, hb, hml, hown, hts, hnm, hK, hX, hfr, hlo⟩ := C
  simp only [zx] at hz
  simp only [zokl] at hlk
  simp only [Option.some.injEq, Sum.inl.injEq, Prod.mk.injEq] at hz
  obtain ⟨rfl, rfl, rfl, rfl⟩ := hz
  have kk := kk H locs sl hP hS hl
  simp only [Nat.sub_self, Nat.add_zero, List.map_cons, ztv_int, ztv_long] at kk ⊢
  exact lv_ldcw hx hb hown (hts _ (zlk_w (of_decide_eq_true hlk))) hd kk
theorem n_ldc2_w {len a b : Nat} {iv : Int} {q : Nat} (C : zCx G p R s m args meth c d k) (hd : decode (zm k).2.1 pc = .ok (.ldc2_w q, 3)) (hlk : zokl k (zm k).1.cls (zlk (zm k).1.cls) zNW pc (.ldc2_w q) a b iv = true) {pc' : Nat} {ls' : zL} {st' : List Value} {h' : zH} (hz : zx (.ldc2_w q, len, a, b, iv) k pc ls st h = some (.inl (pc', ls', st', h'))) (hP : zP G h H) (hS : va_S (zA G.1) s.heap H locs) (hl : zLv G sl (zm k).2.2.1 ls) (hcells : cells + (h'.1 - h.1) ≤ R.cells) (hslots : slots + (h'.2.1 - h.2.1) ≤ R.slots) (kk : ∀ (H1 : Heap) (locs1 : List Loc) (sl1 : Array Slot), zP G h' H1 → va_S (zA G.1) s.heap H1 locs1 → zLv G sl1 (zm k).2.2.1 ls' → W p l e R s m args below meth c H1 locs1 (cells + (h'.1 - h.1)) (slots + (h'.2.1 - h.2.1)) Q (F0 m pc' sl1 (st'.map (ztv G)))) : W p l e R s m args below meth c H locs cells slots Q (F0 m pc sl (st.map (ztv G))) := by
  obtain ⟨hx, hb, hml, hown, hts, hnm, hK, hX, hfr, hlo⟩ := C
  simp only [zx] at hz
  simp only [zokl] at hlk
  simp only [Option.some.injEq, Sum.inl.injEq, Prod.mk.injEq] at hz
  obtain ⟨rfl, rfl, rfl, rfl⟩ := hz
  have kk := kk H locs sl hP hS hl
  simp only [Nat.sub_self, Nat.add_zero, List.map_cons, ztv_int, ztv_long] at kk ⊢
  exact lv_ldc2 hx hb hown (hts _ (zlk_w (of_decide_eq_true hlk))) hd kk
theorem n_dup {len a b : Nat} {iv : Int} (C : zCx G p R s m args meth c d k) (hd : decode (zm k).2.1 pc = .ok (.dup, 1)) (hlk : zokl k (zm k).1.cls (zlk (zm k).1.cls) zNW pc (.dup) a b iv = true) {pc' : Nat} {ls' : zL} {st' : List Value} {h' : zH} (hz : zx (.dup, len, a, b, iv) k pc ls st h = some (.inl (pc', ls', st', h'))) (hP : zP G h H) (hS : va_S (zA G.1) s.heap H locs) (hl : zLv G sl (zm k).2.2.1 ls) (hcells : cells + (h'.1 - h.1) ≤ R.cells) (hslots : slots + (h'.2.1 - h.2.1) ≤ R.slots) (kk : ∀ (H1 : Heap) (locs1 : List Loc) (sl1 : Array Slot), zP G h' H1 → va_S (zA G.1) s.heap H1 locs1 → zLv G sl1 (zm k).2.2.1 ls' → W p l e R s m args below meth c H1 locs1 (cells + (h'.1 - h.1)) (slots + (h'.2.1 - h.2.1)) Q (F0 m pc' sl1 (st'.map (ztv G)))) : W p l e R s m args below meth c H locs cells slots Q (F0 m pc sl (st.map (ztv G))) := by
  obtain ⟨hx, hb, hml, hown, hts, hnm, hK, hX, hfr, hlo⟩ := C
  simp only [zx] at hz
  split at hz
  · split at hz
    · rename_i hc
      simp only [Option.some.injEq, Sum.inl.injEq, Prod.mk.injEq] at hz
      obtain ⟨rfl, rfl, rfl, rfl⟩ := hz
      have kk := kk H locs sl hP hS hl
      simp only [Nat.sub_self, Nat.add_zero, List.map_cons] at kk ⊢
      exact lv_dup hx hb hd (by rw [ztv_cat hX]; exact hc) kk
    · cases hz
  · cases hz
theorem n_pop {len a b : Nat} {iv : Int} (C : zCx G p R s m args meth c d k) (hd : decode (zm k).2.1 pc = .ok (.pop, 1)) (hlk : zokl k (zm k).1.cls (zlk (zm k).1.cls) zNW pc (.pop) a b iv = true) {pc' : Nat} {ls' : zL} {st' : List Value} {h' : zH} (hz : zx (.pop, len, a, b, iv) k pc ls st h = some (.inl (pc', ls', st', h'))) (hP : zP G h H) (hS : va_S (zA G.1) s.heap H locs) (hl : zLv G sl (zm k).2.2.1 ls) (hcells : cells + (h'.1 - h.1) ≤ R.cells) (hslots : slots + (h'.2.1 - h.2.1) ≤ R.slots) (kk : ∀ (H1 : Heap) (locs1 : List Loc) (sl1 : Array Slot), zP G h' H1 → va_S (zA G.1) s.heap H1 locs1 → zLv G sl1 (zm k).2.2.1 ls' → W p l e R s m args below meth c H1 locs1 (cells + (h'.1 - h.1)) (slots + (h'.2.1 - h.2.1)) Q (F0 m pc' sl1 (st'.map (ztv G)))) : W p l e R s m args below meth c H locs cells slots Q (F0 m pc sl (st.map (ztv G))) := by
  obtain ⟨hx, hb, hml, hown, hts, hnm, hK, hX, hfr, hlo⟩ := C
  simp only [zx] at hz
  split at hz
  · split at hz
    · rename_i hc
      simp only [Option.some.injEq, Sum.inl.injEq, Prod.mk.injEq] at hz
      obtain ⟨rfl, rfl, rfl, rfl⟩ := hz
      have kk := kk H locs sl hP hS hl
      simp only [Nat.sub_self, Nat.add_zero, List.map_cons] at kk ⊢
      exact lv_pop hx hb hd (by rw [ztv_cat hX]; exact hc) kk
    · cases hz
  · cases hz
theorem n_dup2 {len a b : Nat} {iv : Int} (C : zCx G p R s m args meth c d k) (hd : decode (zm k).2.1 pc = .ok (.dup2, 1)) (hlk : zokl k (zm k).1.cls (zlk (zm k).1.cls) zNW pc (.dup2) a b iv = true) {pc' : Nat} {ls' : zL} {st' : List Value} {h' : zH} (hz : zx (.dup2, len, a, b, iv) k pc ls st h = some (.inl (pc', ls', st', h'))) (hP : zP G h H) (hS : va_S (zA G.1) s.heap H locs) (hl : zLv G sl (zm k).2.2.1 ls) (hcells : cells + (h'.1 - h.1) ≤ R.cells) (hslots : slots + (h'.2.1 - h.2.1) ≤ R.slots) (kk : ∀ (H1 : Heap) (locs1 : List Loc) (sl1 : Array Slot), zP G h' H1 → va_S (zA G.1) s.heap H1 locs1 → zLv G sl1 (zm k).2.2.1 ls' → W p l e R s m args below meth c H1 locs1 (cells + (h'.1 - h.1)) (slots + (h'.2.1 - h.2.1)) Q (F0 m pc' sl1 (st'.map (ztv G)))) : W p l e R s m args below meth c H locs cells slots Q (F0 m pc sl (st.map (ztv G))) := by
  obtain ⟨hx, hb, hml, hown, hts, hnm, hK, hX, hfr, hlo⟩ := C
  simp only [zx] at hz
  split at hz
  · split at hz
    · rename_i hc
      simp only [Option.some.injEq, Sum.inl.injEq, Prod.mk.injEq] at hz
      obtain ⟨rfl, rfl, rfl, rfl⟩ := hz
      have kk := kk H locs sl hP hS hl
      simp only [Nat.sub_self, Nat.add_zero, List.map_cons] at kk ⊢
      exact lv_dup2_11 hx hb hd (by rw [ztv_cat hX]; exact hc.1) (by rw [ztv_cat hX]; exact hc.2) kk
    · cases hz
  · cases hz
theorem n_iload_n {len a b : Nat} {iv : Int} {q : Fin 4} (C : zCx G p R s m args meth c d k) (hd : decode (zm k).2.1 pc = .ok (.iload_n q, 1)) (hlk : zokl k (zm k).1.cls (zlk (zm k).1.cls) zNW pc (.iload_n q) a b iv = true) {pc' : Nat} {ls' : zL} {st' : List Value} {h' : zH} (hz : zx (.iload_n q, len, a, b, iv) k pc ls st h = some (.inl (pc', ls', st', h'))) (hP : zP G h H) (hS : va_S (zA G.1) s.heap H locs) (hl : zLv G sl (zm k).2.2.1 ls) (hcells : cells + (h'.1 - h.1) ≤ R.cells) (hslots : slots + (h'.2.1 - h.2.1) ≤ R.slots) (kk : ∀ (H1 : Heap) (locs1 : List Loc) (sl1 : Array Slot), zP G h' H1 → va_S (zA G.1) s.heap H1 locs1 → zLv G sl1 (zm k).2.2.1 ls' → W p l e R s m args below meth c H1 locs1 (cells + (h'.1 - h.1)) (slots + (h'.2.1 - h.2.1)) Q (F0 m pc' sl1 (st'.map (ztv G)))) : W p l e R s m args below meth c H locs cells slots Q (F0 m pc sl (st.map (ztv G))) := by
  obtain ⟨hx, hb, hml, hown, hts, hnm, hK, hX, hfr, hlo⟩ := C
  simp only [zx] at hz
  split at hz
  · rename_i hv
    simp only [Option.some.injEq, Sum.inl.injEq, Prod.mk.injEq] at hz
    obtain ⟨rfl, rfl, rfl, rfl⟩ := hz
    obtain ⟨x, ex⟩ := zvI_ex hv
    have hi := hl.2.2 q (by rw [ex]; exact fun z => by cases z)
    have kk := kk H locs sl hP hS hl
    simp only [Nat.sub_self, Nat.add_zero, List.map_cons] at kk ⊢
    rw [ex] at hi kk
    exact lv_iload_n hx hb hd rfl hi kk
  · cases hz
theorem n_iload {len a b : Nat} {iv : Int} {q : Nat} (C : zCx G p R s m args meth c d k) (hd : decode (zm k).2.1 pc = .ok (.iload q, 2)) (hlk : zokl k (zm k).1.cls (zlk (zm k).1.cls) zNW pc (.iload q) a b iv = true) {pc' : Nat} {ls' : zL} {st' : List Value} {h' : zH} (hz : zx (.iload q, len, a, b, iv) k pc ls st h = some (.inl (pc', ls', st', h'))) (hP : zP G h H) (hS : va_S (zA G.1) s.heap H locs) (hl : zLv G sl (zm k).2.2.1 ls) (hcells : cells + (h'.1 - h.1) ≤ R.cells) (hslots : slots + (h'.2.1 - h.2.1) ≤ R.slots) (kk : ∀ (H1 : Heap) (locs1 : List Loc) (sl1 : Array Slot), zP G h' H1 → va_S (zA G.1) s.heap H1 locs1 → zLv G sl1 (zm k).2.2.1 ls' → W p l e R s m args below meth c H1 locs1 (cells + (h'.1 - h.1)) (slots + (h'.2.1 - h.2.1)) Q (F0 m pc' sl1 (st'.map (ztv G)))) : W p l e R s m args below meth c H locs cells slots Q (F0 m pc sl (st.map (ztv G))) := by
  obtain ⟨hx, hb, hml, hown, hts, hnm, hK, hX, hfr, hlo⟩ := C
  simp only [zx] at hz
  split at hz
  · rename_i hv
    simp only [Option.some.injEq, Sum.inl.injEq, Prod.mk.injEq] at hz
    obtain ⟨rfl, rfl, rfl, rfl⟩ := hz
    obtain ⟨x, ex⟩ := zvI_ex hv
    have hi := hl.2.2 q (by rw [ex]; exact fun z => by cases z)
    have kk := kk H locs sl hP hS hl
    simp only [Nat.sub_self, Nat.add_zero, List.map_cons] at kk ⊢
    rw [ex] at hi kk
    exact lv_iload hx hb hd hi kk
  · cases hz
theorem n_lload_n {len a b : Nat} {iv : Int} {q : Fin 4} (C : zCx G p R s m args meth c d k) (hd : decode (zm k).2.1 pc = .ok (.lload_n q, 1)) (hlk : zokl k (zm k).1.cls (zlk (zm k).1.cls) zNW pc (.lload_n q) a b iv = true) {pc' : Nat} {ls' : zL} {st' : List Value} {h' : zH} (hz : zx (.lload_n q, len, a, b, iv) k pc ls st h = some (.inl (pc', ls', st', h'))) (hP : zP G h H) (hS : va_S (zA G.1) s.heap H locs) (hl : zLv G sl (zm k).2.2.1 ls) (hcells : cells + (h'.1 - h.1) ≤ R.cells) (hslots : slots + (h'.2.1 - h.2.1) ≤ R.slots) (kk : ∀ (H1 : Heap) (locs1 : List Loc) (sl1 : Array Slot), zP G h' H1 → va_S (zA G.1) s.heap H1 locs1 → zLv G sl1 (zm k).2.2.1 ls' → W p l e R s m args below meth c H1 locs1 (cells + (h'.1 - h.1)) (slots + (h'.2.1 - h.2.1)) Q (F0 m pc' sl1 (st'.map (ztv G)))) : W p l e R s m args below meth c H locs cells slots Q (F0 m pc sl (st.map (ztv G))) := by
  obtain ⟨hx, hb, hml, hown, hts, hnm, hK, hX, hfr, hlo⟩ := C
  simp only [zx] at hz
  split at hz
  · rename_i hv
    simp only [Option.some.injEq, Sum.inl.injEq, Prod.mk.injEq] at hz
    obtain ⟨rfl, rfl, rfl, rfl⟩ := hz
    obtain ⟨x, ex⟩ := zvJ_ex hv
    have hi := hl.2.2 q (by rw [ex]; exact fun z => by cases z)
    have kk := kk H locs sl hP hS hl
    simp only [Nat.sub_self, Nat.add_zero, List.map_cons] at kk ⊢
    rw [ex] at hi kk
    exact lv_lload_n hx hb hd rfl hi kk
  · cases hz
theorem n_lload {len a b : Nat} {iv : Int} {q : Nat} (C : zCx G p R s m args meth c d k) (hd : decode (zm k).2.1 pc = .ok (.lload q, 2)) (hlk : zokl k (zm k).1.cls (zlk (zm k).1.cls) zNW pc (.lload q) a b iv = true) {pc' : Nat} {ls' : zL} {st' : List Value} {h' : zH} (hz : zx (.lload q, len, a, b, iv) k pc ls st h = some (.inl (pc', ls', st', h'))) (hP : zP G h H) (hS : va_S (zA G.1) s.heap H locs) (hl : zLv G sl (zm k).2.2.1 ls) (hcells : cells + (h'.1 - h.1) ≤ R.cells) (hslots : slots + (h'.2.1 - h.2.1) ≤ R.slots) (kk : ∀ (H1 : Heap) (locs1 : List Loc) (sl1 : Array Slot), zP G h' H1 → va_S (zA G.1) s.heap H1 locs1 → zLv G sl1 (zm k).2.2.1 ls' → W p l e R s m args below meth c H1 locs1 (cells + (h'.1 - h.1)) (slots + (h'.2.1 - h.2.1)) Q (F0 m pc' sl1 (st'.map (ztv G)))) : W p l e R s m args below meth c H locs cells slots Q (F0 m pc sl (st.map (ztv G))) := by
  obtain ⟨hx, hb, hml, hown, hts, hnm, hK, hX, hfr, hlo⟩ := C
  simp only [zx] at hz
  split at hz
  · rename_i hv
    simp only [Option.some.injEq, Sum.inl.injEq, Prod.mk.injEq] at hz
    obtain ⟨rfl, rfl, rfl, rfl⟩ := hz
    obtain ⟨x, ex⟩ := zvJ_ex hv
    have hi := hl.2.2 q (by rw [ex]; exact fun z => by cases z)
    have kk := kk H locs sl hP hS hl
    simp only [Nat.sub_self, Nat.add_zero, List.map_cons] at kk ⊢
    rw [ex] at hi kk
    exact lv_lload hx hb hd hi kk
  · cases hz
theorem n_aload_n {len a b : Nat} {iv : Int} {q : Fin 4} (C : zCx G p R s m args meth c d k) (hd : decode (zm k).2.1 pc = .ok (.aload_n q, 1)) (hlk : zokl k (zm k).1.cls (zlk (zm k).1.cls) zNW pc (.aload_n q) a b iv = true) {pc' : Nat} {ls' : zL} {st' : List Value} {h' : zH} (hz : zx (.aload_n q, len, a, b, iv) k pc ls st h = some (.inl (pc', ls', st', h'))) (hP : zP G h H) (hS : va_S (zA G.1) s.heap H locs) (hl : zLv G sl (zm k).2.2.1 ls) (hcells : cells + (h'.1 - h.1) ≤ R.cells) (hslots : slots + (h'.2.1 - h.2.1) ≤ R.slots) (kk : ∀ (H1 : Heap) (locs1 : List Loc) (sl1 : Array Slot), zP G h' H1 → va_S (zA G.1) s.heap H1 locs1 → zLv G sl1 (zm k).2.2.1 ls' → W p l e R s m args below meth c H1 locs1 (cells + (h'.1 - h.1)) (slots + (h'.2.1 - h.2.1)) Q (F0 m pc' sl1 (st'.map (ztv G)))) : W p l e R s m args below meth c H locs cells slots Q (F0 m pc sl (st.map (ztv G))) := by
  obtain ⟨hx, hb, hml, hown, hts, hnm, hK, hX, hfr, hlo⟩ := C
  simp only [zx] at hz
  split at hz
  · rename_i hv
    simp only [Option.some.injEq, Sum.inl.injEq, Prod.mk.injEq] at hz
    obtain ⟨rfl, rfl, rfl, rfl⟩ := hz
    obtain ⟨x, ex, hx7⟩ := zvA_ex hv
    obtain ⟨t, et⟩ := zad_form hX hx7
    have hi := hl.2.2 q (by rw [ex]; exact fun z => by cases z)
    have kk := kk H locs sl hP hS hl
    simp only [Nat.sub_self, Nat.add_zero, List.map_cons] at kk ⊢
    rw [ex, ztv_ref, et] at hi kk
    exact lv_aload_n hx hb hd rfl hi kk
  · cases hz
theorem n_aload {len a b : Nat} {iv : Int} {q : Nat} (C : zCx G p R s m args meth c d k) (hd : decode (zm k).2.1 pc = .ok (.aload q, 2)) (hlk : zokl k (zm k).1.cls (zlk (zm k).1.cls) zNW pc (.aload q) a b iv = true) {pc' : Nat} {ls' : zL} {st' : List Value} {h' : zH} (hz : zx (.aload q, len, a, b, iv) k pc ls st h = some (.inl (pc', ls', st', h'))) (hP : zP G h H) (hS : va_S (zA G.1) s.heap H locs) (hl : zLv G sl (zm k).2.2.1 ls) (hcells : cells + (h'.1 - h.1) ≤ R.cells) (hslots : slots + (h'.2.1 - h.2.1) ≤ R.slots) (kk : ∀ (H1 : Heap) (locs1 : List Loc) (sl1 : Array Slot), zP G h' H1 → va_S (zA G.1) s.heap H1 locs1 → zLv G sl1 (zm k).2.2.1 ls' → W p l e R s m args below meth c H1 locs1 (cells + (h'.1 - h.1)) (slots + (h'.2.1 - h.2.1)) Q (F0 m pc' sl1 (st'.map (ztv G)))) : W p l e R s m args below meth c H locs cells slots Q (F0 m pc sl (st.map (ztv G))) := by
  obtain ⟨hx, hb, hml, hown, hts, hnm, hK, hX, hfr, hlo⟩ := C
  simp only [zx] at hz
  split at hz
  · rename_i hv
    simp only [Option.some.injEq, Sum.inl.injEq, Prod.mk.injEq] at hz
    obtain ⟨rfl, rfl, rfl, rfl⟩ := hz
    obtain ⟨x, ex, hx7⟩ := zvA_ex hv
    obtain ⟨t, et⟩ := zad_form hX hx7
    have hi := hl.2.2 q (by rw [ex]; exact fun z => by cases z)
    have kk := kk H locs sl hP hS hl
    simp only [Nat.sub_self, Nat.add_zero, List.map_cons] at kk ⊢
    rw [ex, ztv_ref, et] at hi kk
    exact lv_aload hx hb hd hi kk
  · cases hz
theorem n_istore_n {len a b : Nat} {iv : Int} {q : Fin 4} (C : zCx G p R s m args meth c d k) (hd : decode (zm k).2.1 pc = .ok (.istore_n q, 1)) (hlk : zokl k (zm k).1.cls (zlk (zm k).1.cls) zNW pc (.istore_n q) a b iv = true) {pc' : Nat} {ls' : zL} {st' : List Value} {h' : zH} (hz : zx (.istore_n q, len, a, b, iv) k pc ls st h = some (.inl (pc', ls', st', h'))) (hP : zP G h H) (hS : va_S (zA G.1) s.heap H locs) (hl : zLv G sl (zm k).2.2.1 ls) (hcells : cells + (h'.1 - h.1) ≤ R.cells) (hslots : slots + (h'.2.1 - h.2.1) ≤ R.slots) (kk : ∀ (H1 : Heap) (locs1 : List Loc) (sl1 : Array Slot), zP G h' H1 → va_S (zA G.1) s.heap H1 locs1 → zLv G sl1 (zm k).2.2.1 ls' → W p l e R s m args below meth c H1 locs1 (cells + (h'.1 - h.1)) (slots + (h'.2.1 - h.2.1)) Q (F0 m pc' sl1 (st'.map (ztv G)))) : W p l e R s m args below meth c H locs cells slots Q (F0 m pc sl (st.map (ztv G))) := by
  obtain ⟨hx, hb, hml, hown, hts, hnm, hK, hX, hfr, hlo⟩ := C
  simp only [zx] at hz
  split at hz
  · split at hz
    · rename_i hlt
      simp only [Option.some.injEq, Sum.inl.injEq, Prod.mk.injEq] at hz
      obtain ⟨rfl, rfl, rfl, rfl⟩ := hz
      simp only [Nat.sub_self, Nat.add_zero, List.map_cons, ztv_int, ztv_long] at kk ⊢
      exact lv_istore_n hx hb hd rfl hl.has hlt rfl (fun sl1 h1 => kk H locs sl1 hP hS (zLv_store1 hX hl h1))
    · cases hz
  · cases hz
theorem n_istore {len a b : Nat} {iv : Int} {q : Nat} (C : zCx G p R s m args meth c d k) (hd : decode (zm k).2.1 pc = .ok (.istore q, 2)) (hlk : zokl k (zm k).1.cls (zlk (zm k).1.cls) zNW pc (.istore q) a b iv = true) {pc' : Nat} {ls' : zL} {st' : List Value} {h' : zH} (hz : zx (.istore q, len, a, b, iv) k pc ls st h = some (.inl (pc', ls', st', h'))) (hP : zP G h H) (hS : va_S (zA G.1) s.heap H locs) (hl : zLv G sl (zm k).2.2.1 ls) (hcells : cells + (h'.1 - h.1) ≤ R.cells) (hslots : slots + (h'.2.1 - h.2.1) ≤ R.slots) (kk : ∀ (H1 : Heap) (locs1 : List Loc) (sl1 : Array Slot), zP G h' H1 → va_S (zA G.1) s.heap H1 locs1 → zLv G sl1 (zm k).2.2.1 ls' → W p l e R s m args below meth c H1 locs1 (cells + (h'.1 - h.1)) (slots + (h'.2.1 - h.2.1)) Q (F0 m pc' sl1 (st'.map (ztv G)))) : W p l e R s m args below meth c H locs cells slots Q (F0 m pc sl (st.map (ztv G))) := by
  obtain ⟨hx, hb, hml, hown, hts, hnm, hK, hX, hfr, hlo⟩ := C
  simp only [zx] at hz
  split at hz
  · split at hz
    · rename_i hlt
      simp only [Option.some.injEq, Sum.inl.injEq, Prod.mk.injEq] at hz
      obtain ⟨rfl, rfl, rfl, rfl⟩ := hz
      simp only [Nat.sub_self, Nat.add_zero, List.map_cons, ztv_int, ztv_long] at kk ⊢
      exact lv_istore hx hb hd hl.has hlt rfl (fun sl1 h1 => kk H locs sl1 hP hS (zLv_store1 hX hl h1))
    · cases hz
  · cases hz
theorem n_lstore_n {len a b : Nat} {iv : Int} {q : Fin 4} (C : zCx G p R s m args meth c d k) (hd : decode (zm k).2.1 pc = .ok (.lstore_n q, 1)) (hlk : zokl k (zm k).1.cls (zlk (zm k).1.cls) zNW pc (.lstore_n q) a b iv = true) {pc' : Nat} {ls' : zL} {st' : List Value} {h' : zH} (hz : zx (.lstore_n q, len, a, b, iv) k pc ls st h = some (.inl (pc', ls', st', h'))) (hP : zP G h H) (hS : va_S (zA G.1) s.heap H locs) (hl : zLv G sl (zm k).2.2.1 ls) (hcells : cells + (h'.1 - h.1) ≤ R.cells) (hslots : slots + (h'.2.1 - h.2.1) ≤ R.slots) (kk : ∀ (H1 : Heap) (locs1 : List Loc) (sl1 : Array Slot), zP G h' H1 → va_S (zA G.1) s.heap H1 locs1 → zLv G sl1 (zm k).2.2.1 ls' → W p l e R s m args below meth c H1 locs1 (cells + (h'.1 - h.1)) (slots + (h'.2.1 - h.2.1)) Q (F0 m pc' sl1 (st'.map (ztv G)))) : W p l e R s m args below meth c H locs cells slots Q (F0 m pc sl (st.map (ztv G))) := by
  obtain ⟨hx, hb, hml, hown, hts, hnm, hK, hX, hfr, hlo⟩ := C
  simp only [zx] at hz
  split at hz
  · split at hz
    · rename_i hlt
      simp only [Option.some.injEq, Sum.inl.injEq, Prod.mk.injEq] at hz
      obtain ⟨rfl, rfl, rfl, rfl⟩ := hz
      simp only [Nat.sub_self, Nat.add_zero, List.map_cons, ztv_int, ztv_long] at kk ⊢
      exact lv_lstore_n hx hb hd rfl hl.has hlt rfl (fun sl1 h1 => kk H locs sl1 hP hS (zLv_store2 hX hl h1))
    · cases hz
  · cases hz
theorem n_lstore {len a b : Nat} {iv : Int} {q : Nat} (C : zCx G p R s m args meth c d k) (hd : decode (zm k).2.1 pc = .ok (.lstore q, 2)) (hlk : zokl k (zm k).1.cls (zlk (zm k).1.cls) zNW pc (.lstore q) a b iv = true) {pc' : Nat} {ls' : zL} {st' : List Value} {h' : zH} (hz : zx (.lstore q, len, a, b, iv) k pc ls st h = some (.inl (pc', ls', st', h'))) (hP : zP G h H) (hS : va_S (zA G.1) s.heap H locs) (hl : zLv G sl (zm k).2.2.1 ls) (hcells : cells + (h'.1 - h.1) ≤ R.cells) (hslots : slots + (h'.2.1 - h.2.1) ≤ R.slots) (kk : ∀ (H1 : Heap) (locs1 : List Loc) (sl1 : Array Slot), zP G h' H1 → va_S (zA G.1) s.heap H1 locs1 → zLv G sl1 (zm k).2.2.1 ls' → W p l e R s m args below meth c H1 locs1 (cells + (h'.1 - h.1)) (slots + (h'.2.1 - h.2.1)) Q (F0 m pc' sl1 (st'.map (ztv G)))) : W p l e R s m args below meth c H locs cells slots Q (F0 m pc sl (st.map (ztv G))) := by
  obtain ⟨hx, hb, hml, hown, hts, hnm, hK, hX, hfr, hlo⟩ := C
  simp only [zx] at hz
  split at hz
  · split at hz
    · rename_i hlt
      simp only [Option.some.injEq, Sum.inl.injEq, Prod.mk.injEq] at hz
      obtain ⟨rfl, rfl, rfl, rfl⟩ := hz
      simp only [Nat.sub_self, Nat.add_zero, List.map_cons, ztv_int, ztv_long] at kk ⊢
      exact lv_lstore hx hb hd hl.has hlt rfl (fun sl1 h1 => kk H locs sl1 hP hS (zLv_store2 hX hl h1))
    · cases hz
  · cases hz
theorem n_astore_n {len a b : Nat} {iv : Int} {q : Fin 4} (C : zCx G p R s m args meth c d k) (hd : decode (zm k).2.1 pc = .ok (.astore_n q, 1)) (hlk : zokl k (zm k).1.cls (zlk (zm k).1.cls) zNW pc (.astore_n q) a b iv = true) {pc' : Nat} {ls' : zL} {st' : List Value} {h' : zH} (hz : zx (.astore_n q, len, a, b, iv) k pc ls st h = some (.inl (pc', ls', st', h'))) (hP : zP G h H) (hS : va_S (zA G.1) s.heap H locs) (hl : zLv G sl (zm k).2.2.1 ls) (hcells : cells + (h'.1 - h.1) ≤ R.cells) (hslots : slots + (h'.2.1 - h.2.1) ≤ R.slots) (kk : ∀ (H1 : Heap) (locs1 : List Loc) (sl1 : Array Slot), zP G h' H1 → va_S (zA G.1) s.heap H1 locs1 → zLv G sl1 (zm k).2.2.1 ls' → W p l e R s m args below meth c H1 locs1 (cells + (h'.1 - h.1)) (slots + (h'.2.1 - h.2.1)) Q (F0 m pc' sl1 (st'.map (ztv G)))) : W p l e R s m args below meth c H locs cells slots Q (F0 m pc sl (st.map (ztv G))) := by
  obtain ⟨hx, hb, hml, hown, hts, hnm, hK, hX, hfr, hlo⟩ := C
  simp only [zx] at hz
  split at hz
  · rename_i x r
    split at hz
    · rename_i hlt
      simp only [Option.some.injEq, Sum.inl.injEq, Prod.mk.injEq] at hz
      obtain ⟨rfl, rfl, rfl, rfl⟩ := hz
      obtain ⟨t, et⟩ := zad_form hX hlt.2
      simp only [Nat.sub_self, Nat.add_zero, List.map_cons, ztv_ref] at kk ⊢
      rw [et]
      exact lv_astore_n hx hb hd rfl hl.has hlt.1 rfl (fun sl1 h1 => kk H locs sl1 hP hS (zLv_store1 (v := .ref x) hX hl (by rw [ztv_ref, et]; exact h1)))
    · cases hz
  · cases hz
theorem n_iinc {len a b : Nat} {iv : Int} {q : Nat} {n : Int} (C : zCx G p R s m args meth c d k) (hd : decode (zm k).2.1 pc = .ok (.iinc q n, 3)) (hlk : zokl k (zm k).1.cls (zlk (zm k).1.cls) zNW pc (.iinc q n) a b iv = true) {pc' : Nat} {ls' : zL} {st' : List Value} {h' : zH} (hz : zx (.iinc q n, len, a, b, iv) k pc ls st h = some (.inl (pc', ls', st', h'))) (hP : zP G h H) (hS : va_S (zA G.1) s.heap H locs) (hl : zLv G sl (zm k).2.2.1 ls) (hcells : cells + (h'.1 - h.1) ≤ R.cells) (hslots : slots + (h'.2.1 - h.2.1) ≤ R.slots) (kk : ∀ (H1 : Heap) (locs1 : List Loc) (sl1 : Array Slot), zP G h' H1 → va_S (zA G.1) s.heap H1 locs1 → zLv G sl1 (zm k).2.2.1 ls' → W p l e R s m args below meth c H1 locs1 (cells + (h'.1 - h.1)) (slots + (h'.2.1 - h.2.1)) Q (F0 m pc' sl1 (st'.map (ztv G)))) : W p l e R s m args below meth c H locs cells slots Q (F0 m pc sl (st.map (ztv G))) := by
  obtain ⟨hx, hb, hml, hown, hts, hnm, hK, hX, hfr, hlo⟩ := C
  simp only [zx] at hz
  split at hz
  · rename_i x ex
    split at hz
    · rename_i hlt
      simp only [Option.some.injEq, Sum.inl.injEq, Prod.mk.injEq] at hz
      obtain ⟨rfl, rfl, rfl, rfl⟩ := hz
      have hm := zli_mem (G := G) (nL := (zm k).2.2.1) (ls := ls) (i := q) (by rw [ex]; exact fun z => by cases z) hlt
      rw [ex] at hm
      obtain ⟨w, hw⟩ := List.getElem?_of_mem hm
      simp only [Nat.sub_self, Nat.add_zero] at kk ⊢
      exact lv_iinc hx hb hd hl.has hw rfl hlt rfl (fun sl1 h1 => kk H locs sl1 hP hS (zLv_store1 hX hl h1))
    · cases hz
  · cases hz
theorem n_icmp_eq {len a b : Nat} {iv : Int} {off : Int} (C : zCx G p R s m args meth c d k) (hd : decode (zm k).2.1 pc = .ok (.if_icmp .eq off, 3)) (hlk : zokl k (zm k).1.cls (zlk (zm k).1.cls) zNW pc (.if_icmp .eq off) a b iv = true) {pc' : Nat} {ls' : zL} {st' : List Value} {h' : zH} (hz : zx (.if_icmp .eq off, len, a, b, iv) k pc ls st h = some (.inl (pc', ls', st', h'))) (hP : zP G h H) (hS : va_S (zA G.1) s.heap H locs) (hl : zLv G sl (zm k).2.2.1 ls) (hcells : cells + (h'.1 - h.1) ≤ R.cells) (hslots : slots + (h'.2.1 - h.2.1) ≤ R.slots) (kk : ∀ (H1 : Heap) (locs1 : List Loc) (sl1 : Array Slot), zP G h' H1 → va_S (zA G.1) s.heap H1 locs1 → zLv G sl1 (zm k).2.2.1 ls' → W p l e R s m args below meth c H1 locs1 (cells + (h'.1 - h.1)) (slots + (h'.2.1 - h.2.1)) Q (F0 m pc' sl1 (st'.map (ztv G)))) : W p l e R s m args below meth c H locs cells slots Q (F0 m pc sl (st.map (ztv G))) := by
  obtain ⟨hx, hb, hml, hown, hts, hnm, hK, hX, hfr, hlo⟩ := C
  simp only [zx] at hz
  simp only [zokl, decide_eq_true_eq] at hlk
  split at hz
  · simp only [Option.some.injEq, Sum.inl.injEq, Prod.mk.injEq] at hz
    obtain ⟨rfl, rfl, rfl, rfl⟩ := hz
    have kk := kk H locs sl hP hS hl
    simp only [Nat.sub_self, Nat.add_zero, List.map_cons, ztv_int, zcm] at kk ⊢
    refine lv_icmp_eq (tgt := a) hx hb hd hlk (fun hc => ?_) (fun hc => ?_)
    · rw [decide_eq_true hc, cond_true] at kk
      exact kk
    · rw [decide_eq_false hc, cond_false] at kk
      exact kk
  · cases hz
theorem n_if_eq {len a b : Nat} {iv : Int} {off : Int} (C : zCx G p R s m args meth c d k) (hd : decode (zm k).2.1 pc = .ok (.ifCond .eq off, 3)) (hlk : zokl k (zm k).1.cls (zlk (zm k).1.cls) zNW pc (.ifCond .eq off) a b iv = true) {pc' : Nat} {ls' : zL} {st' : List Value} {h' : zH} (hz : zx (.ifCond .eq off, len, a, b, iv) k pc ls st h = some (.inl (pc', ls', st', h'))) (hP : zP G h H) (hS : va_S (zA G.1) s.heap H locs) (hl : zLv G sl (zm k).2.2.1 ls) (hcells : cells + (h'.1 - h.1) ≤ R.cells) (hslots : slots + (h'.2.1 - h.2.1) ≤ R.slots) (kk : ∀ (H1 : Heap) (locs1 : List Loc) (sl1 : Array Slot), zP G h' H1 → va_S (zA G.1) s.heap H1 locs1 → zLv G sl1 (zm k).2.2.1 ls' → W p l e R s m args below meth c H1 locs1 (cells + (h'.1 - h.1)) (slots + (h'.2.1 - h.2.1)) Q (F0 m pc' sl1 (st'.map (ztv G)))) : W p l e R s m args below meth c H locs cells slots Q (F0 m pc sl (st.map (ztv G))) := by
  obtain ⟨hx, hb, hml, hown, hts, hnm, hK, hX, hfr, hlo⟩ := C
  simp only [zx] at hz
  simp only [zokl, decide_eq_true_eq] at hlk
  split at hz
  · simp only [Option.some.injEq, Sum.inl.injEq, Prod.mk.injEq] at hz
    obtain ⟨rfl, rfl, rfl, rfl⟩ := hz
    have kk := kk H locs sl hP hS hl
    simp only [Nat.sub_self, Nat.add_zero, List.map_cons, ztv_int, zcm] at kk ⊢
    refine lv_if_eq (tgt := a) hx hb hd hlk (fun hc => ?_) (fun hc => ?_)
    · rw [decide_eq_true hc, cond_true] at kk
      exact kk
    · rw [decide_eq_false hc, cond_false] at kk
      exact kk
  · cases hz
theorem n_icmp_ne {len a b : Nat} {iv : Int} {off : Int} (C : zCx G p R s m args meth c d k) (hd : decode (zm k).2.1 pc = .ok (.if_icmp .ne off, 3)) (hlk : zokl k (zm k).1.cls (zlk (zm k).1.cls) zNW pc (.if_icmp .ne off) a b iv = true) {pc' : Nat} {ls' : zL} {st' : List Value} {h' : zH} (hz : zx (.if_icmp .ne off, len, a, b, iv) k pc ls st h = some (.inl (pc', ls', st', h'))) (hP : zP G h H) (hS : va_S (zA G.1) s.heap H locs) (hl : zLv G sl (zm k).2.2.1 ls) (hcells : cells + (h'.1 - h.1) ≤ R.cells) (hslots : slots + (h'.2.1 - h.2.1) ≤ R.slots) (kk : ∀ (H1 : Heap) (locs1 : List Loc) (sl1 : Array Slot), zP G h' H1 → va_S (zA G.1) s.heap H1 locs1 → zLv G sl1 (zm k).2.2.1 ls' → W p l e R s m args below meth c H1 locs1 (cells + (h'.1 - h.1)) (slots + (h'.2.1 - h.2.1)) Q (F0 m pc' sl1 (st'.map (ztv G)))) : W p l e R s m args below meth c H locs cells slots Q (F0 m pc sl (st.map (ztv G))) := by
  obtain ⟨hx, hb, hml, hown, hts, hnm, hK, hX, hfr, hlo⟩ := C
  simp only [zx] at hz
  simp only [zokl, decide_eq_true_eq] at hlk
  split at hz
  · simp only [Option.some.injEq, Sum.inl.injEq, Prod.mk.injEq] at hz
    obtain ⟨rfl, rfl, rfl, rfl⟩ := hz
    have kk := kk H locs sl hP hS hl
    simp only [Nat.sub_self, Nat.add_zero, List.map_cons, ztv_int, zcm] at kk ⊢
    refine lv_icmp_ne (tgt := a) hx hb hd hlk (fun hc => ?_) (fun hc => ?_)
    · rw [decide_eq_true hc, cond_true] at kk
      exact kk
    · rw [decide_eq_false (not_not_intro hc), cond_false] at kk
      exact kk
  · cases hz
theorem n_if_ne {len a b : Nat} {iv : Int} {off : Int} (C : zCx G p R s m args meth c d k) (hd : decode (zm k).2.1 pc = .ok (.ifCond .ne off, 3)) (hlk : zokl k (zm k).1.cls (zlk (zm k).1.cls) zNW pc (.ifCond .ne off) a b iv = true) {pc' : Nat} {ls' : zL} {st' : List Value} {h' : zH} (hz : zx (.ifCond .ne off, len, a, b, iv) k pc ls st h = some (.inl (pc', ls', st', h'))) (hP : zP G h H) (hS : va_S (zA G.1) s.heap H locs) (hl : zLv G sl (zm k).2.2.1 ls) (hcells : cells + (h'.1 - h.1) ≤ R.cells) (hslots : slots + (h'.2.1 - h.2.1) ≤ R.slots) (kk : ∀ (H1 : Heap) (locs1 : List Loc) (sl1 : Array Slot), zP G h' H1 → va_S (zA G.1) s.heap H1 locs1 → zLv G sl1 (zm k).2.2.1 ls' → W p l e R s m args below meth c H1 locs1 (cells + (h'.1 - h.1)) (slots + (h'.2.1 - h.2.1)) Q (F0 m pc' sl1 (st'.map (ztv G)))) : W p l e R s m args below meth c H locs cells slots Q (F0 m pc sl (st.map (ztv G))) := by
  obtain ⟨hx, hb, hml, hown, hts, hnm, hK, hX, hfr, hlo⟩ := C
  simp only [zx] at hz
  simp only [zokl, decide_eq_true_eq] at hlk
  split at hz
  · simp only [Option.some.injEq, Sum.inl.injEq, Prod.mk.injEq] at hz
    obtain ⟨rfl, rfl, rfl, rfl⟩ := hz
    have kk := kk H locs sl hP hS hl
    simp only [Nat.sub_self, Nat.add_zero, List.map_cons, ztv_int, zcm] at kk ⊢
    refine lv_if_ne (tgt := a) hx hb hd hlk (fun hc => ?_) (fun hc => ?_)
    · rw [decide_eq_true hc, cond_true] at kk
      exact kk
    · rw [decide_eq_false (not_not_intro hc), cond_false] at kk
      exact kk
  · cases hz
theorem n_icmp_lt {len a b : Nat} {iv : Int} {off : Int} (C : zCx G p R s m args meth c d k) (hd : decode (zm k).2.1 pc = .ok (.if_icmp .lt off, 3)) (hlk : zokl k (zm k).1.cls (zlk (zm k).1.cls) zNW pc (.if_icmp .lt off) a b iv = true) {pc' : Nat} {ls' : zL} {st' : List Value} {h' : zH} (hz : zx (.if_icmp .lt off, len, a, b, iv) k pc ls st h = some (.inl (pc', ls', st', h'))) (hP : zP G h H) (hS : va_S (zA G.1) s.heap H locs) (hl : zLv G sl (zm k).2.2.1 ls) (hcells : cells + (h'.1 - h.1) ≤ R.cells) (hslots : slots + (h'.2.1 - h.2.1) ≤ R.slots) (kk : ∀ (H1 : Heap) (locs1 : List Loc) (sl1 : Array Slot), zP G h' H1 → va_S (zA G.1) s.heap H1 locs1 → zLv G sl1 (zm k).2.2.1 ls' → W p l e R s m args below meth c H1 locs1 (cells + (h'.1 - h.1)) (slots + (h'.2.1 - h.2.1)) Q (F0 m pc' sl1 (st'.map (ztv G)))) : W p l e R s m args below meth c H locs cells slots Q (F0 m pc sl (st.map (ztv G))) := by
  obtain ⟨hx, hb, hml, hown, hts, hnm, hK, hX, hfr, hlo⟩ := C
  simp only [zx] at hz
  simp only [zokl, decide_eq_true_eq] at hlk
  split at hz
  · simp only [Option.some.injEq, Sum.inl.injEq, Prod.mk.injEq] at hz
    obtain ⟨rfl, rfl, rfl, rfl⟩ := hz
    have kk := kk H locs sl hP hS hl
    simp only [Nat.sub_self, Nat.add_zero, List.map_cons, ztv_int, zcm] at kk ⊢
    refine lv_icmp_lt (tgt := a) hx hb hd hlk (fun hc => ?_) (fun hc => ?_)
    · rw [decide_eq_true hc, cond_true] at kk
      exact kk
    · rw [decide_eq_false hc, cond_false] at kk
      exact kk
  · cases hz
theorem n_if_lt {len a b : Nat} {iv : Int} {off : Int} (C : zCx G p R s m args meth c d k) (hd : decode (zm k).2.1 pc = .ok (.ifCond .lt off, 3)) (hlk : zokl k (zm k).1.cls (zlk (zm k).1.cls) zNW pc (.ifCond .lt off) a b iv = true) {pc' : Nat} {ls' : zL} {st' : List Value} {h' : zH} (hz : zx (.ifCond .lt off, len, a, b, iv) k pc ls st h = some (.inl (pc', ls', st', h'))) (hP : zP G h H) (hS : va_S (zA G.1) s.heap H locs) (hl : zLv G sl (zm k).2.2.1 ls) (hcells : cells + (h'.1 - h.1) ≤ R.cells) (hslots : slots + (h'.2.1 - h.2.1) ≤ R.slots) (kk : ∀ (H1 : Heap) (locs1 : List Loc) (sl1 : Array Slot), zP G h' H1 → va_S (zA G.1) s.heap H1 locs1 → zLv G sl1 (zm k).2.2.1 ls' → W p l e R s m args below meth c H1 locs1 (cells + (h'.1 - h.1)) (slots + (h'.2.1 - h.2.1)) Q (F0 m pc' sl1 (st'.map (ztv G)))) : W p l e R s m args below meth c H locs cells slots Q (F0 m pc sl (st.map (ztv G))) := by
  obtain ⟨hx, hb, hml, hown, hts, hnm, hK, hX, hfr, hlo⟩ := C
  simp only [zx] at hz
  simp only [zokl, decide_eq_true_eq] at hlk
  split at hz
  · simp only [Option.some.injEq, Sum.inl.injEq, Prod.mk.injEq] at hz
    obtain ⟨rfl, rfl, rfl, rfl⟩ := hz
    have kk := kk H locs sl hP hS hl
    simp only [Nat.sub_self, Nat.add_zero, List.map_cons, ztv_int, zcm] at kk ⊢
    refine lv_if_lt (tgt := a) hx hb hd hlk (fun hc => ?_) (fun hc => ?_)
    · rw [decide_eq_true hc, cond_true] at kk
      exact kk
    · rw [decide_eq_false hc, cond_false] at kk
      exact kk
  · cases hz
theorem n_icmp_ge {len a b : Nat} {iv : Int} {off : Int} (C : zCx G p R s m args meth c d k) (hd : decode (zm k).2.1 pc = .ok (.if_icmp .ge off, 3)) (hlk : zokl k (zm k).1.cls (zlk (zm k).1.cls) zNW pc (.if_icmp .ge off) a b iv = true) {pc' : Nat} {ls' : zL} {st' : List Value} {h' : zH} (hz : zx (.if_icmp .ge off, len, a, b, iv) k pc ls st h = some (.inl (pc', ls', st', h'))) (hP : zP G h H) (hS : va_S (zA G.1) s.heap H locs) (hl : zLv G sl (zm k).2.2.1 ls) (hcells : cells + (h'.1 - h.1) ≤ R.cells) (hslots : slots + (h'.2.1 - h.2.1) ≤ R.slots) (kk : ∀ (H1 : Heap) (locs1 : List Loc) (sl1 : Array Slot), zP G h' H1 → va_S (zA G.1) s.heap H1 locs1 → zLv G sl1 (zm k).2.2.1 ls' → W p l e R s m args below meth c H1 locs1 (cells + (h'.1 - h.1)) (slots + (h'.2.1 - h.2.1)) Q (F0 m pc' sl1 (st'.map (ztv G)))) : W p l e R s m args below meth c H locs cells slots Q (F0 m pc sl (st.map (ztv G))) := by
  obtain ⟨hx, hb, hml, hown, hts, hnm, hK, hX, hfr, hlo⟩ := C
  simp only [zx] at hz
  simp only [zokl, decide_eq_true_eq] at hlk
  split at hz
  · simp only [Option.some.injEq, Sum.inl.injEq, Prod.mk.injEq] at hz
    obtain ⟨rfl, rfl, rfl, rfl⟩ := hz
    have kk := kk H locs sl hP hS hl
    simp only [Nat.sub_self, Nat.add_zero, List.map_cons, ztv_int, zcm] at kk ⊢
    refine lv_icmp_ge (tgt := a) hx hb hd hlk (fun hc => ?_) (fun hc => ?_)
    · rw [decide_eq_true hc, cond_true] at kk
      exact kk
    · rw [decide_eq_false hc, cond_false] at kk
      exact kk
  · cases hz
theorem n_if_ge {len a b : Nat} {iv : Int} {off : Int} (C : zCx G p R s m args meth c d k) (hd : decode (zm k).2.1 pc = .ok (.ifCond .ge off, 3)) (hlk : zokl k (zm k).1.cls (zlk (zm k).1.cls) zNW pc (.ifCond .ge off) a b iv = true) {pc' : Nat} {ls' : zL} {st' : List Value} {h' : zH} (hz : zx (.ifCond .ge off, len, a, b, iv) k pc ls st h = some (.inl (pc', ls', st', h'))) (hP : zP G h H) (hS : va_S (zA G.1) s.heap H locs) (hl : zLv G sl (zm k).2.2.1 ls) (hcells : cells + (h'.1 - h.1) ≤ R.cells) (hslots : slots + (h'.2.1 - h.2.1) ≤ R.slots) (kk : ∀ (H1 : Heap) (locs1 : List Loc) (sl1 : Array Slot), zP G h' H1 → va_S (zA G.1) s.heap H1 locs1 → zLv G sl1 (zm k).2.2.1 ls' → W p l e R s m args below meth c H1 locs1 (cells + (h'.1 - h.1)) (slots + (h'.2.1 - h.2.1)) Q (F0 m pc' sl1 (st'.map (ztv G)))) : W p l e R s m args below meth c H locs cells slots Q (F0 m pc sl (st.map (ztv G))) := by
  obtain ⟨hx, hb, hml, hown, hts, hnm, hK, hX, hfr, hlo⟩ := C
  simp only [zx] at hz
  simp only [zokl, decide_eq_true_eq] at hlk
  split at hz
  · simp only [Option.some.injEq, Sum.inl.injEq, Prod.mk.injEq] at hz
    obtain ⟨rfl, rfl, rfl, rfl⟩ := hz
    have kk := kk H locs sl hP hS hl
    simp only [Nat.sub_self, Nat.add_zero, List.map_cons, ztv_int, zcm] at kk ⊢
    refine lv_if_ge (tgt := a) hx hb hd hlk (fun hc => ?_) (fun hc => ?_)
    · rw [decide_eq_true hc, cond_true] at kk
      exact kk
    · rw [decide_eq_false hc, cond_false] at kk
      exact kk
  · cases hz
theorem n_icmp_gt {len a b : Nat} {iv : Int} {off : Int} (C : zCx G p R s m args meth c d k) (hd : decode (zm k).2.1 pc = .ok (.if_icmp .gt off, 3)) (hlk : zokl k (zm k).1.cls (zlk (zm k).1.cls) zNW pc (.if_icmp .gt off) a b iv = true) {pc' : Nat} {ls' : zL} {st' : List Value} {h' : zH} (hz : zx (.if_icmp .gt off, len, a, b, iv) k pc ls st h = some (.inl (pc', ls', st', h'))) (hP : zP G h H) (hS : va_S (zA G.1) s.heap H locs) (hl : zLv G sl (zm k).2.2.1 ls) (hcells : cells + (h'.1 - h.1) ≤ R.cells) (hslots : slots + (h'.2.1 - h.2.1) ≤ R.slots) (kk : ∀ (H1 : Heap) (locs1 : List Loc) (sl1 : Array Slot), zP G h' H1 → va_S (zA G.1) s.heap H1 locs1 → zLv G sl1 (zm k).2.2.1 ls' → W p l e R s m args below meth c H1 locs1 (cells + (h'.1 - h.1)) (slots + (h'.2.1 - h.2.1)) Q (F0 m pc' sl1 (st'.map (ztv G)))) : W p l e R s m args below meth c H locs cells slots Q (F0 m pc sl (st.map (ztv G))) := by
  obtain ⟨hx, hb, hml, hown, hts, hnm, hK, hX, hfr, hlo⟩ := C
  simp only [zx] at hz
  simp only [zokl, decide_eq_true_eq] at hlk
  split at hz
  · simp only [Option.some.injEq, Sum.inl.injEq, Prod.mk.injEq] at hz
    obtain ⟨rfl, rfl, rfl, rfl⟩ := hz
    have kk := kk H locs sl hP hS hl
    simp only [Nat.sub_self, Nat.add_zero, List.map_cons, ztv_int, zcm] at kk ⊢
    refine lv_icmp_gt (tgt := a) hx hb hd hlk (fun hc => ?_) (fun hc => ?_)
    · rw [decide_eq_true hc, cond_true] at kk
      exact kk
    · rw [decide_eq_false hc, cond_false] at kk
      exact kk
  · cases hz
theorem n_if_gt {len a b : Nat} {iv : Int} {off : Int} (C : zCx G p R s m args meth c d k) (hd : decode (zm k).2.1 pc = .ok (.ifCond .gt off, 3)) (hlk : zokl k (zm k).1.cls (zlk (zm k).1.cls) zNW pc (.ifCond .gt off) a b iv = true) {pc' : Nat} {ls' : zL} {st' : List Value} {h' : zH} (hz : zx (.ifCond .gt off, len, a, b, iv) k pc ls st h = some (.inl (pc', ls', st', h'))) (hP : zP G h H) (hS : va_S (zA G.1) s.heap H locs) (hl : zLv G sl (zm k).2.2.1 ls) (hcells : cells + (h'.1 - h.1) ≤ R.cells) (hslots : slots + (h'.2.1 - h.2.1) ≤ R.slots) (kk : ∀ (H1 : Heap) (locs1 : List Loc) (sl1 : Array Slot), zP G h' H1 → va_S (zA G.1) s.heap H1 locs1 → zLv G sl1 (zm k).2.2.1 ls' → W p l e R s m args below meth c H1 locs1 (cells + (h'.1 - h.1)) (slots + (h'.2.1 - h.2.1)) Q (F0 m pc' sl1 (st'.map (ztv G)))) : W p l e R s m args below meth c H locs cells slots Q (F0 m pc sl (st.map (ztv G))) := by
  obtain ⟨hx, hb, hml, hown, hts, hnm, hK, hX, hfr, hlo⟩ := C
  simp only [zx] at hz
  simp only [zokl, decide_eq_true_eq] at hlk
  split at hz
  · simp only [Option.some.injEq, Sum.inl.injEq, Prod.mk.injEq] at hz
    obtain ⟨rfl, rfl, rfl, rfl⟩ := hz
    have kk := kk H locs sl hP hS hl
    simp only [Nat.sub_self, Nat.add_zero, List.map_cons, ztv_int, zcm] at kk ⊢
    refine lv_if_gt (tgt := a) hx hb hd hlk (fun hc => ?_) (fun hc => ?_)
    · rw [decide_eq_true hc, cond_true] at kk
      exact kk
    · rw [decide_eq_false hc, cond_false] at kk
      exact kk
  · cases hz
theorem n_icmp_le {len a b : Nat} {iv : Int} {off : Int} (C : zCx G p R s m args meth c d k) (hd : decode (zm k).2.1 pc = .ok (.if_icmp .le off, 3)) (hlk : zokl k (zm k).1.cls (zlk (zm k).1.cls) zNW pc (.if_icmp .le off) a b iv = true) {pc' : Nat} {ls' : zL} {st' : List Value} {h' : zH} (hz : zx (.if_icmp .le off, len, a, b, iv) k pc ls st h = some (.inl (pc', ls', st', h'))) (hP : zP G h H) (hS : va_S (zA G.1) s.heap H locs) (hl : zLv G sl (zm k).2.2.1 ls) (hcells : cells + (h'.1 - h.1) ≤ R.cells) (hslots : slots + (h'.2.1 - h.2.1) ≤ R.slots) (kk : ∀ (H1 : Heap) (locs1 : List Loc) (sl1 : Array Slot), zP G h' H1 → va_S (zA G.1) s.heap H1 locs1 → zLv G sl1 (zm k).2.2.1 ls' → W p l e R s m args below meth c H1 locs1 (cells + (h'.1 - h.1)) (slots + (h'.2.1 - h.2.1)) Q (F0 m pc' sl1 (st'.map (ztv G)))) : W p l e R s m args below meth c H locs cells slots Q (F0 m pc sl (st.map (ztv G))) := by
  obtain ⟨hx, hb, hml, hown, hts, hnm, hK, hX, hfr, hlo⟩ := C
  simp only [zx] at hz
  simp only [zokl, decide_eq_true_eq] at hlk
  split at hz
  · simp only [Option.some.injEq, Sum.inl.injEq, Prod.mk.injEq] at hz
    obtain ⟨rfl, rfl, rfl, rfl⟩ := hz
    have kk := kk H locs sl hP hS hl
    simp only [Nat.sub_self, Nat.add_zero, List.map_cons, ztv_int, zcm] at kk ⊢
    refine lv_icmp_le (tgt := a) hx hb hd hlk (fun hc => ?_) (fun hc => ?_)
    · rw [decide_eq_true hc, cond_true] at kk
      exact kk
    · rw [decide_eq_false hc, cond_false] at kk
      exact kk
  · cases hz
theorem n_if_le {len a b : Nat} {iv : Int} {off : Int} (C : zCx G p R s m args meth c d k) (hd : decode (zm k).2.1 pc = .ok (.ifCond .le off, 3)) (hlk : zokl k (zm k).1.cls (zlk (zm k).1.cls) zNW pc (.ifCond .le off) a b iv = true) {pc' : Nat} {ls' : zL} {st' : List Value} {h' : zH} (hz : zx (.ifCond .le off, len, a, b, iv) k pc ls st h = some (.inl (pc', ls', st', h'))) (hP : zP G h H) (hS : va_S (zA G.1) s.heap H locs) (hl : zLv G sl (zm k).2.2.1 ls) (hcells : cells + (h'.1 - h.1) ≤ R.cells) (hslots : slots + (h'.2.1 - h.2.1) ≤ R.slots) (kk : ∀ (H1 : Heap) (locs1 : List Loc) (sl1 : Array Slot), zP G h' H1 → va_S (zA G.1) s.heap H1 locs1 → zLv G sl1 (zm k).2.2.1 ls' → W p l e R s m args below meth c H1 locs1 (cells + (h'.1 - h.1)) (slots + (h'.2.1 - h.2.1)) Q (F0 m pc' sl1 (st'.map (ztv G)))) : W p l e R s m args below meth c H locs cells slots Q (F0 m pc sl (st.map (ztv G))) := by
  obtain ⟨hx, hb, hml, hown, hts, hnm, hK, hX, hfr, hlo⟩ := C
  simp only [zx] at hz
  simp only [zokl, decide_eq_true_eq] at hlk
  split at hz
  · simp only [Option.some.injEq, Sum.inl.injEq, Prod.mk.injEq] at hz
    obtain ⟨rfl, rfl, rfl, rfl⟩ := hz
    have kk := kk H locs sl hP hS hl
    simp only [Nat.sub_self, Nat.add_zero, List.map_cons, ztv_int, zcm] at kk ⊢
    refine lv_if_le (tgt := a) hx hb hd hlk (fun hc => ?_) (fun hc => ?_)
    · rw [decide_eq_true hc, cond_true] at kk
      exact kk
    · rw [decide_eq_false hc, cond_false] at kk
      exact kk
  · cases hz
theorem n_goto {len a b : Nat} {iv : Int} {off : Int} (C : zCx G p R s m args meth c d k) (hd : decode (zm k).2.1 pc = .ok (.goto off, 3)) (hlk : zokl k (zm k).1.cls (zlk (zm k).1.cls) zNW pc (.goto off) a b iv = true) {pc' : Nat} {ls' : zL} {st' : List Value} {h' : zH} (hz : zx (.goto off, len, a, b, iv) k pc ls st h = some (.inl (pc', ls', st', h'))) (hP : zP G h H) (hS : va_S (zA G.1) s.heap H locs) (hl : zLv G sl (zm k).2.2.1 ls) (hcells : cells + (h'.1 - h.1) ≤ R.cells) (hslots : slots + (h'.2.1 - h.2.1) ≤ R.slots) (kk : ∀ (H1 : Heap) (locs1 : List Loc) (sl1 : Array Slot), zP G h' H1 → va_S (zA G.1) s.heap H1 locs1 → zLv G sl1 (zm k).2.2.1 ls' → W p l e R s m args below meth c H1 locs1 (cells + (h'.1 - h.1)) (slots + (h'.2.1 - h.2.1)) Q (F0 m pc' sl1 (st'.map (ztv G)))) : W p l e R s m args below meth c H locs cells slots Q (F0 m pc sl (st.map (ztv G))) := by
  obtain ⟨hx, hb, hml, hown, hts, hnm, hK, hX, hfr, hlo⟩ := C
  simp only [zx] at hz
  simp only [zokl, decide_eq_true_eq] at hlk
  simp only [Option.some.injEq, Sum.inl.injEq, Prod.mk.injEq] at hz
  obtain ⟨rfl, rfl, rfl, rfl⟩ := hz
  have kk := kk H locs sl hP hS hl
  simp only [Nat.sub_self, Nat.add_zero] at kk ⊢
  exact lv_goto hx hb hd hlk kk
theorem n_tableswitch {len a b : Nat} {iv : Int} {dflt lo hi : Int} {offs : Array Int} (C : zCx G p R s m args meth c d k) (hd : decode (zm k).2.1 pc = .ok (.tableswitch dflt lo hi offs, len)) (hlk : zokl k (zm k).1.cls (zlk (zm k).1.cls) zNW pc (.tableswitch dflt lo hi offs) a b iv = true) {pc' : Nat} {ls' : zL} {st' : List Value} {h' : zH} (hz : zx (.tableswitch dflt lo hi offs, len, a, b, iv) k pc ls st h = some (.inl (pc', ls', st', h'))) (hP : zP G h H) (hS : va_S (zA G.1) s.heap H locs) (hl : zLv G sl (zm k).2.2.1 ls) (hcells : cells + (h'.1 - h.1) ≤ R.cells) (hslots : slots + (h'.2.1 - h.2.1) ≤ R.slots) (kk : ∀ (H1 : Heap) (locs1 : List Loc) (sl1 : Array Slot), zP G h' H1 → va_S (zA G.1) s.heap H1 locs1 → zLv G sl1 (zm k).2.2.1 ls' → W p l e R s m args below meth c H1 locs1 (cells + (h'.1 - h.1)) (slots + (h'.2.1 - h.2.1)) Q (F0 m pc' sl1 (st'.map (ztv G)))) : W p l e R s m args below meth c H locs cells slots Q (F0 m pc sl (st.map (ztv G))) := by
  obtain ⟨hx, hb, hml, hown, hts, hnm, hK, hX, hfr, hlo⟩ := C
  simp only [zx] at hz
  simp only [zokl, Bool.and_eq_true, decide_eq_true_eq] at hlk
  split at hz
  · split at hz
    · rename_i hc
      simp only [Option.some.injEq, Sum.inl.injEq, Prod.mk.injEq] at hz
      obtain ⟨rfl, rfl, rfl, rfl⟩ := hz
      have kk := kk H locs sl hP hS hl
      simp only [Nat.sub_self, Nat.add_zero, List.map_cons, ztv_int] at kk ⊢
      exact lv_tableOut hx hb hd hc (Int.toNat_of_nonneg hlk.1).symm kk
    · rename_i hc
      split at hz
      · rename_i off ho
        simp only [Option.some.injEq, Sum.inl.injEq, Prod.mk.injEq] at hz
        obtain ⟨rfl, rfl, rfl, rfl⟩ := hz
        have kk := kk H locs sl hP hS hl
        simp only [Nat.sub_self, Nat.add_zero, List.map_cons, ztv_int] at kk ⊢
        have hm : off ∈ offs.toList := by rw [← Array.getElem?_toList] at ho; exact List.mem_of_getElem? ho
        have h0 := List.all_eq_true.mp hlk.2 off hm
        exact lv_tableIn hx hb hd (fun q => hc (Or.inl q)) (fun q => hc (Or.inr q)) ho (Int.toNat_of_nonneg (of_decide_eq_true h0)).symm kk
      · cases hz
  · cases hz
theorem n_lookupswitch {len a b : Nat} {iv : Int} {dflt : Int} {ps : Array (Int × Int)} (C : zCx G p R s m args meth c d k) (hd : decode (zm k).2.1 pc = .ok (.lookupswitch dflt ps, len)) (hlk : zokl k (zm k).1.cls (zlk (zm k).1.cls) zNW pc (.lookupswitch dflt ps) a b iv = true) {pc' : Nat} {ls' : zL} {st' : List Value} {h' : zH} (hz : zx (.lookupswitch dflt ps, len, a, b, iv) k pc ls st h = some (.inl (pc', ls', st', h'))) (hP : zP G h H) (hS : va_S (zA G.1) s.heap H locs) (hl : zLv G sl (zm k).2.2.1 ls) (hcells : cells + (h'.1 - h.1) ≤ R.cells) (hslots : slots + (h'.2.1 - h.2.1) ≤ R.slots) (kk : ∀ (H1 : Heap) (locs1 : List Loc) (sl1 : Array Slot), zP G h' H1 → va_S (zA G.1) s.heap H1 locs1 → zLv G sl1 (zm k).2.2.1 ls' → W p l e R s m args below meth c H1 locs1 (cells + (h'.1 - h.1)) (slots + (h'.2.1 - h.2.1)) Q (F0 m pc' sl1 (st'.map (ztv G)))) : W p l e R s m args below meth c H locs cells slots Q (F0 m pc sl (st.map (ztv G))) := by
  obtain ⟨hx, hb, hml, hown, hts, hnm, hK, hX, hfr, hlo⟩ := C
  simp only [zx] at hz
  simp only [zokl, Bool.and_eq_true, decide_eq_true_eq] at hlk
  split at hz
  · simp only [Option.some.injEq, Sum.inl.injEq, Prod.mk.injEq] at hz
    obtain ⟨rfl, rfl, rfl, rfl⟩ := hz
    have kk := kk H locs sl hP hS hl
    simp only [Nat.sub_self, Nat.add_zero, List.map_cons, ztv_int] at kk ⊢
    exact lv_lookup hx hb hd hlk.2 rfl (Int.toNat_of_nonneg (z_off hlk.1.1 hlk.1.2 _)).symm kk
  · cases hz
theorem n_getfield {len a b : Nat} {iv : Int} {q : Nat} (C : zCx G p R s m args meth c d k) (hd : decode (zm k).2.1 pc = .ok (.getfield q, 3)) (hlk : zokl k (zm k).1.cls (zlk (zm k).1.cls) zNW pc (.getfield q) a b iv = true) {pc' : Nat} {ls' : zL} {st' : List Value} {h' : zH} (hz : zx (.getfield q, len, a, b, iv) k pc ls st h = some (.inl (pc', ls', st', h'))) (hP : zP G h H) (hS : va_S (zA G.1) s.heap H locs) (hl : zLv G sl (zm k).2.2.1 ls) (hcells : cells + (h'.1 - h.1) ≤ R.cells) (hslots : slots + (h'.2.1 - h.2.1) ≤ R.slots) (kk : ∀ (H1 : Heap) (locs1 : List Loc) (sl1 : Array Slot), zP G h' H1 → va_S (zA G.1) s.heap H1 locs1 → zLv G sl1 (zm k).2.2.1 ls' → W p l e R s m args below meth c H1 locs1 (cells + (h'.1 - h.1)) (slots + (h'.2.1 - h.2.1)) Q (F0 m pc' sl1 (st'.map (ztv G)))) : W p l e R s m args below meth c H locs cells slots Q (F0 m pc sl (st.map (ztv G))) := by
  obtain ⟨hx, hb, hml, hown, hts, hnm, hK, hX, hfr, hlo⟩ := C
  simp only [zx] at hz
  simp only [zokl] at hlk
  split at hz
  · rename_i w r
    by_cases h9 : a = 9
    · rw [if_pos h9] at hz hlk
      split at hz
      · rename_i h5
        subst h5
        simp only [Option.some.injEq, Sum.inl.injEq, Prod.mk.injEq] at hz
        obtain ⟨rfl, rfl, rfl, rfl⟩ := hz
        have kk := kk H locs sl hP hS hl
        simp only [Nat.sub_self, Nat.add_zero, List.map_cons, ztv_ref] at kk ⊢
        exact y_gets (b := b) hx hb hown hX hS (hts _ (zlk_w (of_decide_eq_true hlk))) hd kk
      · cases hz
    · rw [if_neg h9] at hz hlk
      split at hz
      · rename_i hk
        simp only [Option.some.injEq, Sum.inl.injEq, Prod.mk.injEq] at hz
        obtain ⟨rfl, rfl, rfl, rfl⟩ := hz
        have kk := kk H locs sl hP hS hl
        simp only [Nat.sub_self, Nat.add_zero, List.map_cons, ztv_ref] at kk ⊢
        simp only [Bool.and_eq_true, decide_eq_true_eq] at hlk
        exact y_get hx hb hts hown hK hP hlk.1.1 hlk.1.2 hk (hts _ (zlk_w hlk.2)) hd kk
      · cases hz
  · cases hz
theorem n_putfield {len a b : Nat} {iv : Int} {q : Nat} (C : zCx G p R s m args meth c d k) (hd : decode (zm k).2.1 pc = .ok (.putfield q, 3)) (hlk : zokl k (zm k).1.cls (zlk (zm k).1.cls) zNW pc (.putfield q) a b iv = true) {pc' : Nat} {ls' : zL} {st' : List Value} {h' : zH} (hz : zx (.putfield q, len, a, b, iv) k pc ls st h = some (.inl (pc', ls', st', h'))) (hP : zP G h H) (hS : va_S (zA G.1) s.heap H locs) (hl : zLv G sl (zm k).2.2.1 ls) (hcells : cells + (h'.1 - h.1) ≤ R.cells) (hslots : slots + (h'.2.1 - h.2.1) ≤ R.slots) (kk : ∀ (H1 : Heap) (locs1 : List Loc) (sl1 : Array Slot), zP G h' H1 → va_S (zA G.1) s.heap H1 locs1 → zLv G sl1 (zm k).2.2.1 ls' → W p l e R s m args below meth c H1 locs1 (cells + (h'.1 - h.1)) (slots + (h'.2.1 - h.2.1)) Q (F0 m pc' sl1 (st'.map (ztv G)))) : W p l e R s m args below meth c H locs cells slots Q (F0 m pc sl (st.map (ztv G))) := by
  obtain ⟨hx, hb, hml, hown, hts, hnm, hK, hX, hfr, hlo⟩ := C
  simp only [zx] at hz
  simp only [zokl, Bool.and_eq_true, Bool.or_eq_true, decide_eq_true_eq, Bool.not_eq_true'] at hlk
  split at hz
  · rename_i v w r
    split at hz
    · rename_i hk
      simp only [Option.some.injEq, Sum.inl.injEq, Prod.mk.injEq] at hz
      obtain ⟨rfl, rfl, rfl, rfl⟩ := hz
      simp only [zu, Nat.sub_self, Nat.add_zero, List.map_cons, ztv_ref] at kk ⊢
      exact y_put hx hb hts hown hK hP hS hlk.1.1.1 hlk.1.1.2 hk (hts _ (zlk_w hlk.1.2)) (hlk.2.imp (fun z => z) (fun z => ⟨z.1, hnm z.2⟩)) hd (fun H1 locs1 g1 g2 => kk H1 locs1 sl g1 g2 hl)
    · cases hz
  · cases hz
theorem n_getstatic {len a b : Nat} {iv : Int} {q : Nat} (C : zCx G p R s m args meth c d k) (hd : decode (zm k).2.1 pc = .ok (.getstatic q, 3)) (hlk : zokl k (zm k).1.cls (zlk (zm k).1.cls) zNW pc (.getstatic q) a b iv = true) {pc' : Nat} {ls' : zL} {st' : List Value} {h' : zH} (hz : zx (.getstatic q, len, a, b, iv) k pc ls st h = some (.inl (pc', ls', st', h'))) (hP : zP G h H) (hS : va_S (zA G.1) s.heap H locs) (hl : zLv G sl (zm k).2.2.1 ls) (hcells : cells + (h'.1 - h.1) ≤ R.cells) (hslots : slots + (h'.2.1 - h.2.1) ≤ R.slots) (kk : ∀ (H1 : Heap) (locs1 : List Loc) (sl1 : Array Slot), zP G h' H1 → va_S (zA G.1) s.heap H1 locs1 → zLv G sl1 (zm k).2.2.1 ls' → W p l e R s m args below meth c H1 locs1 (cells + (h'.1 - h.1)) (slots + (h'.2.1 - h.2.1)) Q (F0 m pc' sl1 (st'.map (ztv G)))) : W p l e R s m args below meth c H locs cells slots Q (F0 m pc sl (st.map (ztv G))) := by
  obtain ⟨hx, hb, hml, hown, hts, hnm, hK, hX, hfr, hlo⟩ := C
  simp only [zx] at hz
  simp only [zokl] at hlk
  have hlink : (Jvm.Cond.fieldLink (zm k).1.cls q (zsn a).1 (zsn a).2.1 (zsn a).2.2).before args s = true ∨ (Jvm.Cond.fieldLinkNest (zm k).1.cls q (zsn a).1 (zsn a).2.1 (zsn a).2.2 "ProphetFines").before args s = true := by
    by_cases hb0 : b = 0
    · rw [if_pos hb0] at hlk
      exact Or.inl (hts _ (zlk_w (of_decide_eq_true hlk)))
    · rw [if_neg hb0] at hlk
      exact Or.inr (va_Nw.use rfl (hK.2.1 _ (of_decide_eq_true hlk)))
  split at hz
  · rename_i h8
    simp only [Option.some.injEq, Sum.inl.injEq, Prod.mk.injEq] at hz
    obtain ⟨rfl, rfl, rfl, rfl⟩ := hz
    have kk := kk H locs sl hP hS hl
    simp only [Nat.sub_self, Nat.add_zero, List.map_cons] at kk ⊢
    exact y_stat (a := a) hx hb hown hX hS (Or.inr (Or.inr h8)) hlink hd (by rw [if_pos h8]; exact kk)
  · rename_i h8
    split at hz
    · rename_i h7
      simp only [Option.some.injEq, Sum.inl.injEq, Prod.mk.injEq] at hz
      obtain ⟨rfl, rfl, rfl, rfl⟩ := hz
      have kk := kk H locs sl hP hS hl
      simp only [Nat.sub_self, Nat.add_zero, List.map_cons] at kk ⊢
      exact y_stat (a := a) hx hb hown hX hS (h7.imp (fun z => z) Or.inl) hlink hd (by rw [if_neg h8]; exact kk)
    · cases hz
theorem n_iaload {len a b : Nat} {iv : Int} (C : zCx G p R s m args meth c d k) (hd : decode (zm k).2.1 pc = .ok (.iaload, 1)) (hlk : zokl k (zm k).1.cls (zlk (zm k).1.cls) zNW pc (.iaload) a b iv = true) {pc' : Nat} {ls' : zL} {st' : List Value} {h' : zH} (hz : zx (.iaload, len, a, b, iv) k pc ls st h = some (.inl (pc', ls', st', h'))) (hP : zP G h H) (hS : va_S (zA G.1) s.heap H locs) (hl : zLv G sl (zm k).2.2.1 ls) (hcells : cells + (h'.1 - h.1) ≤ R.cells) (hslots : slots + (h'.2.1 - h.2.1) ≤ R.slots) (kk : ∀ (H1 : Heap) (locs1 : List Loc) (sl1 : Array Slot), zP G h' H1 → va_S (zA G.1) s.heap H1 locs1 → zLv G sl1 (zm k).2.2.1 ls' → W p l e R s m args below meth c H1 locs1 (cells + (h'.1 - h.1)) (slots + (h'.2.1 - h.2.1)) Q (F0 m pc' sl1 (st'.map (ztv G)))) : W p l e R s m args below meth c H locs cells slots Q (F0 m pc sl (st.map (ztv G))) := by
  obtain ⟨hx, hb, hml, hown, hts, hnm, hK, hX, hfr, hlo⟩ := C
  simp only [zx] at hz
  split at hz
  · split at hz
    · rename_i hk
      simp only [Option.some.injEq, Sum.inl.injEq, Prod.mk.injEq] at hz
      obtain ⟨rfl, rfl, rfl, rfl⟩ := hz
      have kk := kk H locs sl hP hS hl
      simp only [Nat.sub_self, Nat.add_zero, List.map_cons, ztv_int, ztv_long, ztv_ref] at kk ⊢
      exact y_iald hx hb hK hX hP hS hk hd kk
    · cases hz
  · cases hz
theorem n_laload {len a b : Nat} {iv : Int} (C : zCx G p R s m args meth c d k) (hd : decode (zm k).2.1 pc = .ok (.laload, 1)) (hlk : zokl k (zm k).1.cls (zlk (zm k).1.cls) zNW pc (.laload) a b iv = true) {pc' : Nat} {ls' : zL} {st' : List Value} {h' : zH} (hz : zx (.laload, len, a, b, iv) k pc ls st h = some (.inl (pc', ls', st', h'))) (hP : zP G h H) (hS : va_S (zA G.1) s.heap H locs) (hl : zLv G sl (zm k).2.2.1 ls) (hcells : cells + (h'.1 - h.1) ≤ R.cells) (hslots : slots + (h'.2.1 - h.2.1) ≤ R.slots) (kk : ∀ (H1 : Heap) (locs1 : List Loc) (sl1 : Array Slot), zP G h' H1 → va_S (zA G.1) s.heap H1 locs1 → zLv G sl1 (zm k).2.2.1 ls' → W p l e R s m args below meth c H1 locs1 (cells + (h'.1 - h.1)) (slots + (h'.2.1 - h.2.1)) Q (F0 m pc' sl1 (st'.map (ztv G)))) : W p l e R s m args below meth c H locs cells slots Q (F0 m pc sl (st.map (ztv G))) := by
  obtain ⟨hx, hb, hml, hown, hts, hnm, hK, hX, hfr, hlo⟩ := C
  simp only [zx] at hz
  split at hz
  · split at hz
    · rename_i hk
      simp only [Option.some.injEq, Sum.inl.injEq, Prod.mk.injEq] at hz
      obtain ⟨rfl, rfl, rfl, rfl⟩ := hz
      have kk := kk H locs sl hP hS hl
      simp only [Nat.sub_self, Nat.add_zero, List.map_cons, ztv_int, ztv_long, ztv_ref] at kk ⊢
      exact y_lald hx hb hK hX hP hS hk hd kk
    · cases hz
  · cases hz
theorem n_baload {len a b : Nat} {iv : Int} (C : zCx G p R s m args meth c d k) (hd : decode (zm k).2.1 pc = .ok (.baload, 1)) (hlk : zokl k (zm k).1.cls (zlk (zm k).1.cls) zNW pc (.baload) a b iv = true) {pc' : Nat} {ls' : zL} {st' : List Value} {h' : zH} (hz : zx (.baload, len, a, b, iv) k pc ls st h = some (.inl (pc', ls', st', h'))) (hP : zP G h H) (hS : va_S (zA G.1) s.heap H locs) (hl : zLv G sl (zm k).2.2.1 ls) (hcells : cells + (h'.1 - h.1) ≤ R.cells) (hslots : slots + (h'.2.1 - h.2.1) ≤ R.slots) (kk : ∀ (H1 : Heap) (locs1 : List Loc) (sl1 : Array Slot), zP G h' H1 → va_S (zA G.1) s.heap H1 locs1 → zLv G sl1 (zm k).2.2.1 ls' → W p l e R s m args below meth c H1 locs1 (cells + (h'.1 - h.1)) (slots + (h'.2.1 - h.2.1)) Q (F0 m pc' sl1 (st'.map (ztv G)))) : W p l e R s m args below meth c H locs cells slots Q (F0 m pc sl (st.map (ztv G))) := by
  obtain ⟨hx, hb, hml, hown, hts, hnm, hK, hX, hfr, hlo⟩ := C
  simp only [zx] at hz
  split at hz
  · split at hz
    · rename_i hk
      simp only [Option.some.injEq, Sum.inl.injEq, Prod.mk.injEq] at hz
      obtain ⟨rfl, rfl, rfl, rfl⟩ := hz
      have kk := kk H locs sl hP hS hl
      simp only [Nat.sub_self, Nat.add_zero, List.map_cons, ztv_int, ztv_long, ztv_ref] at kk ⊢
      exact y_bald hx hb hX hP hS hk hd kk
    · cases hz
  · cases hz
theorem n_aaload {len a b : Nat} {iv : Int} (C : zCx G p R s m args meth c d k) (hd : decode (zm k).2.1 pc = .ok (.aaload, 1)) (hlk : zokl k (zm k).1.cls (zlk (zm k).1.cls) zNW pc (.aaload) a b iv = true) {pc' : Nat} {ls' : zL} {st' : List Value} {h' : zH} (hz : zx (.aaload, len, a, b, iv) k pc ls st h = some (.inl (pc', ls', st', h'))) (hP : zP G h H) (hS : va_S (zA G.1) s.heap H locs) (hl : zLv G sl (zm k).2.2.1 ls) (hcells : cells + (h'.1 - h.1) ≤ R.cells) (hslots : slots + (h'.2.1 - h.2.1) ≤ R.slots) (kk : ∀ (H1 : Heap) (locs1 : List Loc) (sl1 : Array Slot), zP G h' H1 → va_S (zA G.1) s.heap H1 locs1 → zLv G sl1 (zm k).2.2.1 ls' → W p l e R s m args below meth c H1 locs1 (cells + (h'.1 - h.1)) (slots + (h'.2.1 - h.2.1)) Q (F0 m pc' sl1 (st'.map (ztv G)))) : W p l e R s m args below meth c H locs cells slots Q (F0 m pc sl (st.map (ztv G))) := by
  obtain ⟨hx, hb, hml, hown, hts, hnm, hK, hX, hfr, hlo⟩ := C
  simp only [zx] at hz
  split at hz
  · split at hz
    · rename_i hk
      simp only [Option.some.injEq, Sum.inl.injEq, Prod.mk.injEq] at hz
      obtain ⟨rfl, rfl, rfl, rfl⟩ := hz
      have kk := kk H locs sl hP hS hl
      simp only [Nat.sub_self, Nat.add_zero, List.map_cons, ztv_int, ztv_long, ztv_ref] at kk ⊢
      exact y_aald hx hb hK hP hk hd kk
    · cases hz
  · cases hz
theorem n_arraylength {len a b : Nat} {iv : Int} (C : zCx G p R s m args meth c d k) (hd : decode (zm k).2.1 pc = .ok (.arraylength, 1)) (hlk : zokl k (zm k).1.cls (zlk (zm k).1.cls) zNW pc (.arraylength) a b iv = true) {pc' : Nat} {ls' : zL} {st' : List Value} {h' : zH} (hz : zx (.arraylength, len, a, b, iv) k pc ls st h = some (.inl (pc', ls', st', h'))) (hP : zP G h H) (hS : va_S (zA G.1) s.heap H locs) (hl : zLv G sl (zm k).2.2.1 ls) (hcells : cells + (h'.1 - h.1) ≤ R.cells) (hslots : slots + (h'.2.1 - h.2.1) ≤ R.slots) (kk : ∀ (H1 : Heap) (locs1 : List Loc) (sl1 : Array Slot), zP G h' H1 → va_S (zA G.1) s.heap H1 locs1 → zLv G sl1 (zm k).2.2.1 ls' → W p l e R s m args below meth c H1 locs1 (cells + (h'.1 - h.1)) (slots + (h'.2.1 - h.2.1)) Q (F0 m pc' sl1 (st'.map (ztv G)))) : W p l e R s m args below meth c H locs cells slots Q (F0 m pc sl (st.map (ztv G))) := by
  obtain ⟨hx, hb, hml, hown, hts, hnm, hK, hX, hfr, hlo⟩ := C
  simp only [zx] at hz
  split at hz
  · split at hz
    · rename_i hk
      simp only [Option.some.injEq, Sum.inl.injEq, Prod.mk.injEq] at hz
      obtain ⟨rfl, rfl, rfl, rfl⟩ := hz
      have kk := kk H locs sl hP hS hl
      simp only [Nat.sub_self, Nat.add_zero, List.map_cons, ztv_int, ztv_long, ztv_ref] at kk ⊢
      exact y_alen hx hb hK hX hP hS hk hd kk
    · cases hz
  · cases hz
theorem n_iastore {len a b : Nat} {iv : Int} (C : zCx G p R s m args meth c d k) (hd : decode (zm k).2.1 pc = .ok (.iastore, 1)) (hlk : zokl k (zm k).1.cls (zlk (zm k).1.cls) zNW pc (.iastore) a b iv = true) {pc' : Nat} {ls' : zL} {st' : List Value} {h' : zH} (hz : zx (.iastore, len, a, b, iv) k pc ls st h = some (.inl (pc', ls', st', h'))) (hP : zP G h H) (hS : va_S (zA G.1) s.heap H locs) (hl : zLv G sl (zm k).2.2.1 ls) (hcells : cells + (h'.1 - h.1) ≤ R.cells) (hslots : slots + (h'.2.1 - h.2.1) ≤ R.slots) (kk : ∀ (H1 : Heap) (locs1 : List Loc) (sl1 : Array Slot), zP G h' H1 → va_S (zA G.1) s.heap H1 locs1 → zLv G sl1 (zm k).2.2.1 ls' → W p l e R s m args below meth c H1 locs1 (cells + (h'.1 - h.1)) (slots + (h'.2.1 - h.2.1)) Q (F0 m pc' sl1 (st'.map (ztv G)))) : W p l e R s m args below meth c H locs cells slots Q (F0 m pc sl (st.map (ztv G))) := by
  obtain ⟨hx, hb, hml, hown, hts, hnm, hK, hX, hfr, hlo⟩ := C
  simp only [zx] at hz
  split at hz
  · split at hz
    · rename_i hk
      simp only [Option.some.injEq, Sum.inl.injEq, Prod.mk.injEq] at hz
      obtain ⟨rfl, rfl, rfl, rfl⟩ := hz
      simp only [zu, Nat.sub_self, Nat.add_zero, List.map_cons, ztv_int, ztv_long, ztv_ref] at kk ⊢
      exact y_iast hx hb hK hP hS hk hd (fun H1 locs1 g1 g2 => kk H1 locs1 sl g1 g2 hl)
    · cases hz
  · cases hz
theorem n_lastore {len a b : Nat} {iv : Int} (C : zCx G p R s m args meth c d k) (hd : decode (zm k).2.1 pc = .ok (.lastore, 1)) (hlk : zokl k (zm k).1.cls (zlk (zm k).1.cls) zNW pc (.lastore) a b iv = true) {pc' : Nat} {ls' : zL} {st' : List Value} {h' : zH} (hz : zx (.lastore, len, a, b, iv) k pc ls st h = some (.inl (pc', ls', st', h'))) (hP : zP G h H) (hS : va_S (zA G.1) s.heap H locs) (hl : zLv G sl (zm k).2.2.1 ls) (hcells : cells + (h'.1 - h.1) ≤ R.cells) (hslots : slots + (h'.2.1 - h.2.1) ≤ R.slots) (kk : ∀ (H1 : Heap) (locs1 : List Loc) (sl1 : Array Slot), zP G h' H1 → va_S (zA G.1) s.heap H1 locs1 → zLv G sl1 (zm k).2.2.1 ls' → W p l e R s m args below meth c H1 locs1 (cells + (h'.1 - h.1)) (slots + (h'.2.1 - h.2.1)) Q (F0 m pc' sl1 (st'.map (ztv G)))) : W p l e R s m args below meth c H locs cells slots Q (F0 m pc sl (st.map (ztv G))) := by
  obtain ⟨hx, hb, hml, hown, hts, hnm, hK, hX, hfr, hlo⟩ := C
  simp only [zx] at hz
  split at hz
  · split at hz
    · rename_i hk
      simp only [Option.some.injEq, Sum.inl.injEq, Prod.mk.injEq] at hz
      obtain ⟨rfl, rfl, rfl, rfl⟩ := hz
      simp only [zu, Nat.sub_self, Nat.add_zero, List.map_cons, ztv_int, ztv_long, ztv_ref] at kk ⊢
      exact y_last hx hb hK hP hS hk hd (fun H1 locs1 g1 g2 => kk H1 locs1 sl g1 g2 hl)
    · cases hz
  · cases hz
theorem n_aastore {len a b : Nat} {iv : Int} (C : zCx G p R s m args meth c d k) (hd : decode (zm k).2.1 pc = .ok (.aastore, 1)) (hlk : zokl k (zm k).1.cls (zlk (zm k).1.cls) zNW pc (.aastore) a b iv = true) {pc' : Nat} {ls' : zL} {st' : List Value} {h' : zH} (hz : zx (.aastore, len, a, b, iv) k pc ls st h = some (.inl (pc', ls', st', h'))) (hP : zP G h H) (hS : va_S (zA G.1) s.heap H locs) (hl : zLv G sl (zm k).2.2.1 ls) (hcells : cells + (h'.1 - h.1) ≤ R.cells) (hslots : slots + (h'.2.1 - h.2.1) ≤ R.slots) (kk : ∀ (H1 : Heap) (locs1 : List Loc) (sl1 : Array Slot), zP G h' H1 → va_S (zA G.1) s.heap H1 locs1 → zLv G sl1 (zm k).2.2.1 ls' → W p l e R s m args below meth c H1 locs1 (cells + (h'.1 - h.1)) (slots + (h'.2.1 - h.2.1)) Q (F0 m pc' sl1 (st'.map (ztv G)))) : W p l e R s m args below meth c H locs cells slots Q (F0 m pc sl (st.map (ztv G))) := by
  obtain ⟨hx, hb, hml, hown, hts, hnm, hK, hX, hfr, hlo⟩ := C
  simp only [zx] at hz
  split at hz
  · split at hz
    · rename_i ec
      split at hz
      · rename_i hk
        simp only [Option.some.injEq, Sum.inl.injEq, Prod.mk.injEq] at hz
        obtain ⟨rfl, rfl, rfl, rfl⟩ := hz
        simp only [zu, Nat.sub_self, Nat.add_zero, List.map_cons, ztv_int, ztv_ref] at kk ⊢
        exact y_aast hx hb hK hP hS ec hk hd (fun H1 locs1 g1 g2 => kk H1 locs1 sl g1 g2 hl)
      · cases hz
    · cases hz
  · cases hz
theorem n_newI {len a b : Nat} {iv : Int} (C : zCx G p R s m args meth c d k) (hd : decode (zm k).2.1 pc = .ok (.newarray .int, 2)) (hlk : zokl k (zm k).1.cls (zlk (zm k).1.cls) zNW pc (.newarray .int) a b iv = true) {pc' : Nat} {ls' : zL} {st' : List Value} {h' : zH} (hz : zx (.newarray .int, len, a, b, iv) k pc ls st h = some (.inl (pc', ls', st', h'))) (hP : zP G h H) (hS : va_S (zA G.1) s.heap H locs) (hl : zLv G sl (zm k).2.2.1 ls) (hcells : cells + (h'.1 - h.1) ≤ R.cells) (hslots : slots + (h'.2.1 - h.2.1) ≤ R.slots) (kk : ∀ (H1 : Heap) (locs1 : List Loc) (sl1 : Array Slot), zP G h' H1 → va_S (zA G.1) s.heap H1 locs1 → zLv G sl1 (zm k).2.2.1 ls' → W p l e R s m args below meth c H1 locs1 (cells + (h'.1 - h.1)) (slots + (h'.2.1 - h.2.1)) Q (F0 m pc' sl1 (st'.map (ztv G)))) : W p l e R s m args below meth c H locs cells slots Q (F0 m pc sl (st.map (ztv G))) := by
  obtain ⟨hx, hb, hml, hown, hts, hnm, hK, hX, hfr, hlo⟩ := C
  simp only [zx] at hz
  split at hz
  · split at hz
    · rename_i hk
      simp only [Option.some.injEq, Sum.inl.injEq, Prod.mk.injEq] at hz
      obtain ⟨rfl, rfl, rfl, rfl⟩ := hz
      simp only [zp, Nat.add_sub_cancel_left, List.map_cons, ztv_int, ztv_ref] at kk hcells hslots ⊢
      exact y_newI hx hb hts hK hP hS hk.1 hk.2 hcells hslots hd (fun H1 g1 g2 => kk H1 locs sl g1 g2 hl)
    · cases hz
  · cases hz
theorem n_newL {len a b : Nat} {iv : Int} (C : zCx G p R s m args meth c d k) (hd : decode (zm k).2.1 pc = .ok (.newarray .long, 2)) (hlk : zokl k (zm k).1.cls (zlk (zm k).1.cls) zNW pc (.newarray .long) a b iv = true) {pc' : Nat} {ls' : zL} {st' : List Value} {h' : zH} (hz : zx (.newarray .long, len, a, b, iv) k pc ls st h = some (.inl (pc', ls', st', h'))) (hP : zP G h H) (hS : va_S (zA G.1) s.heap H locs) (hl : zLv G sl (zm k).2.2.1 ls) (hcells : cells + (h'.1 - h.1) ≤ R.cells) (hslots : slots + (h'.2.1 - h.2.1) ≤ R.slots) (kk : ∀ (H1 : Heap) (locs1 : List Loc) (sl1 : Array Slot), zP G h' H1 → va_S (zA G.1) s.heap H1 locs1 → zLv G sl1 (zm k).2.2.1 ls' → W p l e R s m args below meth c H1 locs1 (cells + (h'.1 - h.1)) (slots + (h'.2.1 - h.2.1)) Q (F0 m pc' sl1 (st'.map (ztv G)))) : W p l e R s m args below meth c H locs cells slots Q (F0 m pc sl (st.map (ztv G))) := by
  obtain ⟨hx, hb, hml, hown, hts, hnm, hK, hX, hfr, hlo⟩ := C
  simp only [zx] at hz
  split at hz
  · split at hz
    · rename_i hk
      simp only [Option.some.injEq, Sum.inl.injEq, Prod.mk.injEq] at hz
      obtain ⟨rfl, rfl, rfl, rfl⟩ := hz
      simp only [zp, Nat.add_sub_cancel_left, List.map_cons, ztv_int, ztv_ref] at kk hcells hslots ⊢
      exact y_newL hx hb hts hK hP hS hk.1 hk.2 hcells hslots hd (fun H1 g1 g2 => kk H1 locs sl g1 g2 hl)
    · cases hz
  · cases hz
theorem n_anewarray {len a b : Nat} {iv : Int} {q : Nat} (C : zCx G p R s m args meth c d k) (hd : decode (zm k).2.1 pc = .ok (.anewarray q, 3)) (hlk : zokl k (zm k).1.cls (zlk (zm k).1.cls) zNW pc (.anewarray q) a b iv = true) {pc' : Nat} {ls' : zL} {st' : List Value} {h' : zH} (hz : zx (.anewarray q, len, a, b, iv) k pc ls st h = some (.inl (pc', ls', st', h'))) (hP : zP G h H) (hS : va_S (zA G.1) s.heap H locs) (hl : zLv G sl (zm k).2.2.1 ls) (hcells : cells + (h'.1 - h.1) ≤ R.cells) (hslots : slots + (h'.2.1 - h.2.1) ≤ R.slots) (kk : ∀ (H1 : Heap) (locs1 : List Loc) (sl1 : Array Slot), zP G h' H1 → va_S (zA G.1) s.heap H1 locs1 → zLv G sl1 (zm k).2.2.1 ls' → W p l e R s m args below meth c H1 locs1 (cells + (h'.1 - h.1)) (slots + (h'.2.1 - h.2.1)) Q (F0 m pc' sl1 (st'.map (ztv G)))) : W p l e R s m args below meth c H locs cells slots Q (F0 m pc sl (st.map (ztv G))) := by
  obtain ⟨hx, hb, hml, hown, hts, hnm, hK, hX, hfr, hlo⟩ := C
  simp only [zx] at hz
  simp only [zokl] at hlk
  split at hz
  · split at hz
    · rename_i hk
      simp only [Option.some.injEq, Sum.inl.injEq, Prod.mk.injEq] at hz
      obtain ⟨rfl, rfl, rfl, rfl⟩ := hz
      simp only [zp, Nat.add_sub_cancel_left, List.map_cons, ztv_int, ztv_ref] at kk hcells hslots ⊢
      exact y_anew hx hb hown hK hP hS (hts _ (zlk_w (of_decide_eq_true hlk))) hk.1 hk.2 hcells hslots hd (fun H1 g1 g2 => kk H1 locs sl g1 g2 hl)
    · cases hz
  · cases hz
theorem n_multianewarray {len a b : Nat} {iv : Int} {q n : Nat} (C : zCx G p R s m args meth c d k) (hd : decode (zm k).2.1 pc = .ok (.multianewarray q n, 4)) (hlk : zokl k (zm k).1.cls (zlk (zm k).1.cls) zNW pc (.multianewarray q n) a b iv = true) {pc' : Nat} {ls' : zL} {st' : List Value} {h' : zH} (hz : zx (.multianewarray q n, len, a, b, iv) k pc ls st h = some (.inl (pc', ls', st', h'))) (hP : zP G h H) (hS : va_S (zA G.1) s.heap H locs) (hl : zLv G sl (zm k).2.2.1 ls) (hcells : cells + (h'.1 - h.1) ≤ R.cells) (hslots : slots + (h'.2.1 - h.2.1) ≤ R.slots) (kk : ∀ (H1 : Heap) (locs1 : List Loc) (sl1 : Array Slot), zP G h' H1 → va_S (zA G.1) s.heap H1 locs1 → zLv G sl1 (zm k).2.2.1 ls' → W p l e R s m args below meth c H1 locs1 (cells + (h'.1 - h.1)) (slots + (h'.2.1 - h.2.1)) Q (F0 m pc' sl1 (st'.map (ztv G)))) : W p l e R s m args below meth c H locs cells slots Q (F0 m pc sl (st.map (ztv G))) := by
  obtain ⟨hx, hb, hml, hown, hts, hnm, hK, hX, hfr, hlo⟩ := C
  simp only [zx] at hz
  simp only [zokl, Bool.and_eq_true, decide_eq_true_eq] at hlk
  obtain ⟨rfl, hlk⟩ := hlk
  split at hz
  · split at hz
    · rename_i hk
      simp only [Option.some.injEq, Sum.inl.injEq, Prod.mk.injEq] at hz
      obtain ⟨rfl, rfl, rfl, rfl⟩ := hz
      simp only [zpm, Nat.add_sub_cancel_left, List.map_cons, ztv_int, ztv_ref] at kk hcells hslots ⊢
      exact y_multi hx hb hts hown hK hP hS (hts _ (zlk_w hlk)) hk.1 hk.2.1 hk.2.2.1 hk.2.2.2 hcells hslots hd (fun H1 g1 g2 => kk H1 locs sl g1 g2 hl)
    · cases hz
  · cases hz
theorem n_new {len a b : Nat} {iv : Int} {q : Nat} (C : zCx G p R s m args meth c d k) (hd : decode (zm k).2.1 pc = .ok (.new q, 3)) (hlk : zokl k (zm k).1.cls (zlk (zm k).1.cls) zNW pc (.new q) a b iv = true) {pc' : Nat} {ls' : zL} {st' : List Value} {h' : zH} (hz : zx (.new q, len, a, b, iv) k pc ls st h = some (.inl (pc', ls', st', h'))) (hP : zP G h H) (hS : va_S (zA G.1) s.heap H locs) (hl : zLv G sl (zm k).2.2.1 ls) (hcells : cells + (h'.1 - h.1) ≤ R.cells) (hslots : slots + (h'.2.1 - h.2.1) ≤ R.slots) (kk : ∀ (H1 : Heap) (locs1 : List Loc) (sl1 : Array Slot), zP G h' H1 → va_S (zA G.1) s.heap H1 locs1 → zLv G sl1 (zm k).2.2.1 ls' → W p l e R s m args below meth c H1 locs1 (cells + (h'.1 - h.1)) (slots + (h'.2.1 - h.2.1)) Q (F0 m pc' sl1 (st'.map (ztv G)))) : W p l e R s m args below meth c H locs cells slots Q (F0 m pc sl (st.map (ztv G))) := by
  obtain ⟨hx, hb, hml, hown, hts, hnm, hK, hX, hfr, hlo⟩ := C
  simp only [zx] at hz
  simp only [zokl, Bool.and_eq_true, decide_eq_true_eq] at hlk
  simp only [Option.some.injEq, Sum.inl.injEq, Prod.mk.injEq] at hz
  obtain ⟨rfl, rfl, rfl, rfl⟩ := hz
  simp only [zp, Nat.add_sub_cancel_left, List.map_cons, ztv_ref] at kk hcells hslots ⊢
  exact y_new hx hb hts hown hK hP hS hlk.1 (hts _ (zlk_w hlk.2)) hcells hslots hd (fun H1 g1 g2 => kk H1 locs sl g1 g2 hl)
theorem n_copy {len a b : Nat} {iv : Int} {q : Nat} (C : zCx G p R s m args meth c d k) (hd : decode (zm k).2.1 pc = .ok (.invokestatic q, 3)) (hlk : zokl k (zm k).1.cls (zlk (zm k).1.cls) zNW pc (.invokestatic q) a b iv = true) {pc' : Nat} {ls' : zL} {st' : List Value} {h' : zH} (hz : zx (.invokestatic q, len, a, b, iv) k pc ls st h = some (.inl (pc', ls', st', h'))) (hP : zP G h H) (hS : va_S (zA G.1) s.heap H locs) (hl : zLv G sl (zm k).2.2.1 ls) (hcells : cells + (h'.1 - h.1) ≤ R.cells) (hslots : slots + (h'.2.1 - h.2.1) ≤ R.slots) (kk : ∀ (H1 : Heap) (locs1 : List Loc) (sl1 : Array Slot), zP G h' H1 → va_S (zA G.1) s.heap H1 locs1 → zLv G sl1 (zm k).2.2.1 ls' → W p l e R s m args below meth c H1 locs1 (cells + (h'.1 - h.1)) (slots + (h'.2.1 - h.2.1)) Q (F0 m pc' sl1 (st'.map (ztv G)))) : W p l e R s m args below meth c H locs cells slots Q (F0 m pc sl (st.map (ztv G))) := by
  obtain ⟨hx, hb, hml, hown, hts, hnm, hK, hX, hfr, hlo⟩ := C
  simp only [zx] at hz
  simp only [zokl] at hlk
  by_cases h1 : a = 1001
  · rw [if_pos h1] at hz hlk
    split at hz
    · split at hz
      · rename_i ea eb
        split at hz
        · rename_i hk
          simp only [Option.some.injEq, Sum.inl.injEq, Prod.mk.injEq] at hz
          obtain ⟨rfl, rfl, rfl, rfl⟩ := hz
          simp only [zu, Nat.sub_self, Nat.add_zero, List.map_cons, ztv_int, ztv_ref] at kk ⊢
          simp only [Bool.and_eq_true, Bool.not_eq_true', decide_eq_false_iff_not, Nat.ble_eq] at hk
          obtain ⟨⟨⟨⟨⟨⟨⟨k1, k2⟩, k3⟩, k4⟩, k5⟩, k6⟩, k7⟩, k8⟩ := hk
          exact y_copy hx hb (hml.trans hl.1.symm) hts hown hK hP hS (hts _ (zlk_w (of_decide_eq_true hlk))) ea eb k1 k2 k3 k4 k5 k6 k7 (by omega) (by omega) (by rw [zcs_tv hX]; exact k8) hd (fun H1 locs1 g1 g2 => kk H1 locs1 sl g1 g2 hl)
        · cases hz
      · cases hz
    · cases hz
  · rw [if_neg h1] at hz hlk
    by_cases h2 : a = 218
    · rw [if_pos h2] at hz
      subst h2
      rw [if_neg (by omega)] at hlk
      simp only [Bool.and_eq_true] at hlk
      split at hz
      · split at hz
        · rename_i hc
          simp only [Option.some.injEq, Sum.inl.injEq, Prod.mk.injEq] at hz
          obtain ⟨rfl, rfl, rfl, rfl⟩ := hz
          have kk := kk H locs sl hP hS hl
          simp only [Nat.sub_self, Nat.add_zero, List.map_cons, ztv_long] at kk hcells hslots ⊢
          have hlink : (Jvm.Cond.methodLink (zm k).1.cls q (zm 218).1).before args s = true := by
            by_cases hb0 : b = 0
            · rw [if_pos hb0] at hlk
              exact hts _ (zlk_w (of_decide_eq_true hlk.2))
            · rw [if_neg hb0] at hlk
              exact absurd (of_decide_eq_true hlk.2) (zNW_no218 _ _)
          exact y_abs hx hb (hml.trans hl.1.symm) hts hown hlink (by omega) (by omega) (by rw [zcs_tv hX]; exact hc) hcells hslots hd kk
        · cases hz
      · cases hz
    · rw [if_neg h2] at hz
      by_cases h3 : a = 219
      · rw [if_pos h3] at hz
        subst h3
        rw [if_neg (by omega)] at hlk
        simp only [Bool.and_eq_true] at hlk
        split at hz
        · split at hz
          · rename_i hc
            simp only [Option.some.injEq, Sum.inl.injEq, Prod.mk.injEq] at hz
            obtain ⟨rfl, rfl, rfl, rfl⟩ := hz
            have kk := kk H locs sl hP hS hl
            simp only [Nat.sub_self, Nat.add_zero, List.map_cons, ztv_long] at kk hcells hslots ⊢
            have hlink : (Jvm.Cond.methodLink (zm k).1.cls q (zm 219).1).before args s = true := by
              by_cases hb0 : b = 0
              · rw [if_pos hb0] at hlk
                exact hts _ (zlk_w (of_decide_eq_true hlk.2))
              · rw [if_neg hb0] at hlk
                exact absurd (of_decide_eq_true hlk.2) (zNW_no219 _ _)
            exact y_max hx hb (hml.trans hl.1.symm) hts hown hlink (by omega) (by omega) (by rw [zcs_tv hX]; exact hc) hcells hslots hd kk
          · cases hz
        · cases hz
      · rw [if_neg h3] at hz
        split at hz
        · unfold zcl at hz
          split at hz
          · cases hz
          · cases hz
        · cases hz
theorem n_objinit {len a b : Nat} {iv : Int} {q : Nat} (C : zCx G p R s m args meth c d k) (hd : decode (zm k).2.1 pc = .ok (.invokespecial q, 3)) (hlk : zokl k (zm k).1.cls (zlk (zm k).1.cls) zNW pc (.invokespecial q) a b iv = true) {pc' : Nat} {ls' : zL} {st' : List Value} {h' : zH} (hz : zx (.invokespecial q, len, a, b, iv) k pc ls st h = some (.inl (pc', ls', st', h'))) (hP : zP G h H) (hS : va_S (zA G.1) s.heap H locs) (hl : zLv G sl (zm k).2.2.1 ls) (hcells : cells + (h'.1 - h.1) ≤ R.cells) (hslots : slots + (h'.2.1 - h.2.1) ≤ R.slots) (kk : ∀ (H1 : Heap) (locs1 : List Loc) (sl1 : Array Slot), zP G h' H1 → va_S (zA G.1) s.heap H1 locs1 → zLv G sl1 (zm k).2.2.1 ls' → W p l e R s m args below meth c H1 locs1 (cells + (h'.1 - h.1)) (slots + (h'.2.1 - h.2.1)) Q (F0 m pc' sl1 (st'.map (ztv G)))) : W p l e R s m args below meth c H locs cells slots Q (F0 m pc sl (st.map (ztv G))) := by
  obtain ⟨hx, hb, hml, hown, hts, hnm, hK, hX, hfr, hlo⟩ := C
  simp only [zx] at hz
  simp only [zokl] at hlk
  by_cases h1 : a = 1000
  · rw [if_pos h1] at hz hlk
    split at hz
    · rename_i w r
      split at hz
      · rename_i hk
        simp only [Option.some.injEq, Sum.inl.injEq, Prod.mk.injEq] at hz
        obtain ⟨rfl, rfl, rfl, rfl⟩ := hz
        have kk := kk H locs sl hP hS hl
        simp only [Nat.sub_self, Nat.add_zero, List.map_cons, ztv_ref] at kk ⊢
        obtain ⟨t, et⟩ := zad_form hX hk.2
        rw [et]
        exact y_objinit hx hb (hml.trans hl.1.symm) hts hown (hts _ (zlk_w (of_decide_eq_true hlk))) (by omega) (by omega) (by rw [zcs_tv hX]; exact hk.1) hd kk
      · cases hz
    · cases hz
  · rw [if_neg h1] at hz
    split at hz
    · split at hz
      · split at hz
        · cases hz
        · unfold zcl at hz
          split at hz
          · cases hz
          · cases hz
      · cases hz
    · cases hz
theorem z_next {o : zO} (C : zCx G p R s m args meth c d k) (hf : zf k pc = some o) {pc' : Nat} {ls' : zL} {st' : List Value} {h' : zH} (hz : zx o k pc ls st h = some (.inl (pc', ls', st', h'))) (hP : zP G h H) (hS : va_S (zA G.1) s.heap H locs) (hl : zLv G sl (zm k).2.2.1 ls) (hcells : cells + (h'.1 - h.1) ≤ R.cells) (hslots : slots + (h'.2.1 - h.2.1) ≤ R.slots) (kk : ∀ (H1 : Heap) (locs1 : List Loc) (sl1 : Array Slot), zP G h' H1 → va_S (zA G.1) s.heap H1 locs1 → zLv G sl1 (zm k).2.2.1 ls' → W p l e R s m args below meth c H1 locs1 (cells + (h'.1 - h.1)) (slots + (h'.2.1 - h.2.1)) Q (F0 m pc' sl1 (st'.map (ztv G)))) : W p l e R s m args below meth c H locs cells slots Q (F0 m pc sl (st.map (ztv G))) := by
  have hok := zf_ok hf
  obtain ⟨i, len, a, b, iv⟩ := o
  simp only [zok, Bool.and_eq_true, Bool.or_eq_true, decide_eq_true_eq] at hok
  obtain ⟨⟨hd, hlen⟩, hlk⟩ := hok
  cases i with
  | iadd =>
    have hlen : len = 1 := by simpa [zln] using hlen
    subst hlen
    exact n_iadd C hd hlk hz hP hS hl hcells hslots kk
  | isub =>
    have hlen : len = 1 := by simpa [zln] using hlen
    subst hlen
    exact n_isub C hd hlk hz hP hS hl hcells hslots kk
  | imul =>
    have hlen : len = 1 := by simpa [zln] using hlen
    subst hlen
    exact n_imul C hd hlk hz hP hS hl hcells hslots kk
  | iand =>
    have hlen : len = 1 := by simpa [zln] using hlen
    subst hlen
    exact n_iand C hd hlk hz hP hS hl hcells hslots kk
  | ior =>
    have hlen : len = 1 := by simpa [zln] using hlen
    subst hlen
    exact n_ior C hd hlk hz hP hS hl hcells hslots kk
  | ixor =>
    have hlen : len = 1 := by simpa [zln] using hlen
    subst hlen
    exact n_ixor C hd hlk hz hP hS hl hcells hslots kk
  | ishl =>
    have hlen : len = 1 := by simpa [zln] using hlen
    subst hlen
    exact n_ishl C hd hlk hz hP hS hl hcells hslots kk
  | ishr =>
    have hlen : len = 1 := by simpa [zln] using hlen
    subst hlen
    exact n_ishr C hd hlk hz hP hS hl hcells hslots kk
  | iushr =>
    have hlen : len = 1 := by simpa [zln] using hlen
    subst hlen
    exact n_iushr C hd hlk hz hP hS hl hcells hslots kk
  | ineg =>
    have hlen : len = 1 := by simpa [zln] using hlen
    subst hlen
    exact n_ineg C hd hlk hz hP hS hl hcells hslots kk
  | i2b =>
    have hlen : len = 1 := by simpa [zln] using hlen
    subst hlen
    exact n_i2b C hd hlk hz hP hS hl hcells hslots kk
  | i2s =>
    have hlen : len = 1 := by simpa [zln] using hlen
    subst hlen
    exact n_i2s C hd hlk hz hP hS hl hcells hslots kk
  | i2c =>
    have hlen : len = 1 := by simpa [zln] using hlen
    subst hlen
    exact n_i2c C hd hlk hz hP hS hl hcells hslots kk
  | ladd =>
    have hlen : len = 1 := by simpa [zln] using hlen
    subst hlen
    exact n_ladd C hd hlk hz hP hS hl hcells hslots kk
  | lsub =>
    have hlen : len = 1 := by simpa [zln] using hlen
    subst hlen
    exact n_lsub C hd hlk hz hP hS hl hcells hslots kk
  | lmul =>
    have hlen : len = 1 := by simpa [zln] using hlen
    subst hlen
    exact n_lmul C hd hlk hz hP hS hl hcells hslots kk
  | land =>
    have hlen : len = 1 := by simpa [zln] using hlen
    subst hlen
    exact n_land C hd hlk hz hP hS hl hcells hslots kk
  | lor =>
    have hlen : len = 1 := by simpa [zln] using hlen
    subst hlen
    exact n_lor C hd hlk hz hP hS hl hcells hslots kk
  | lxor =>
    have hlen : len = 1 := by simpa [zln] using hlen
    subst hlen
    exact n_lxor C hd hlk hz hP hS hl hcells hslots kk
  | lshl =>
    have hlen : len = 1 := by simpa [zln] using hlen
    subst hlen
    exact n_lshl C hd hlk hz hP hS hl hcells hslots kk
  | lushr =>
    have hlen : len = 1 := by simpa [zln] using hlen
    subst hlen
    exact n_lushr C hd hlk hz hP hS hl hcells hslots kk
  | lneg =>
    have hlen : len = 1 := by simpa [zln] using hlen
    subst hlen
    exact n_lneg C hd hlk hz hP hS hl hcells hslots kk
  | i2l =>
    have hlen : len = 1 := by simpa [zln] using hlen
    subst hlen
    exact n_i2l C hd hlk hz hP hS hl hcells hslots kk
  | l2i =>
    have hlen : len = 1 := by simpa [zln] using hlen
    subst hlen
    exact n_l2i C hd hlk hz hP hS hl hcells hslots kk
  | lcmp =>
    have hlen : len = 1 := by simpa [zln] using hlen
    subst hlen
    exact n_lcmp C hd hlk hz hP hS hl hcells hslots kk
  | idiv =>
    have hlen : len = 1 := by simpa [zln] using hlen
    subst hlen
    exact n_idiv C hd hlk hz hP hS hl hcells hslots kk
  | irem =>
    have hlen : len = 1 := by simpa [zln] using hlen
    subst hlen
    exact n_irem C hd hlk hz hP hS hl hcells hslots kk
  | ldiv =>
    have hlen : len = 1 := by simpa [zln] using hlen
    subst hlen
    exact n_ldiv C hd hlk hz hP hS hl hcells hslots kk
  | lrem =>
    have hlen : len = 1 := by simpa [zln] using hlen
    subst hlen
    exact n_lrem C hd hlk hz hP hS hl hcells hslots kk
  | iconst q =>
    have hlen : len = 1 := by simpa [zln] using hlen
    subst hlen
    exact n_iconst C hd hlk hz hP hS hl hcells hslots kk
  | bipush q =>
    have hlen : len = 2 := by simpa [zln] using hlen
    subst hlen
    exact n_bipush C hd hlk hz hP hS hl hcells hslots kk
  | sipush q =>
    have hlen : len = 3 := by simpa [zln] using hlen
    subst hlen
    exact n_sipush C hd hlk hz hP hS hl hcells hslots kk
  | lconst q =>
    have hlen : len = 1 := by simpa [zln] using hlen
    subst hlen
    exact n_lconst C hd hlk hz hP hS hl hcells hslots kk
  | ldc q =>
    have hlen : len = 2 := by simpa [zln] using hlen
    subst hlen
    exact n_ldc C hd hlk hz hP hS hl hcells hslots kk
  | ldc_w q =>
    have hlen : len = 3 := by simpa [zln] using hlen
    subst hlen
    exact n_ldc_w C hd hlk hz hP hS hl hcells hslots kk
  | ldc2_w q =>
    have hlen : len = 3 := by simpa [zln] using hlen
    subst hlen
    exact n_ldc2_w C hd hlk hz hP hS hl hcells hslots kk
  | dup =>
    have hlen : len = 1 := by simpa [zln] using hlen
    subst hlen
    exact n_dup C hd hlk hz hP hS hl hcells hslots kk
  | pop =>
    have hlen : len = 1 := by simpa [zln] using hlen
    subst hlen
    exact n_pop C hd hlk hz hP hS hl hcells hslots kk
  | dup2 =>
    have hlen : len = 1 := by simpa [zln] using hlen
    subst hlen
    exact n_dup2 C hd hlk hz hP hS hl hcells hslots kk
  | iload_n q =>
    have hlen : len = 1 := by simpa [zln] using hlen
    subst hlen
    exact n_iload_n C hd hlk hz hP hS hl hcells hslots kk
  | iload q =>
    have hlen : len = 2 := by simpa [zln] using hlen
    subst hlen
    exact n_iload C hd hlk hz hP hS hl hcells hslots kk
  | lload_n q =>
    have hlen : len = 1 := by simpa [zln] using hlen
    subst hlen
    exact n_lload_n C hd hlk hz hP hS hl hcells hslots kk
  | lload q =>
    have hlen : len = 2 := by simpa [zln] using hlen
    subst hlen
    exact n_lload C hd hlk hz hP hS hl hcells hslots kk
  | aload_n q =>
    have hlen : len = 1 := by simpa [zln] using hlen
    subst hlen
    exact n_aload_n C hd hlk hz hP hS hl hcells hslots kk
  | aload q =>
    have hlen : len = 2 := by simpa [zln] using hlen
    subst hlen
    exact n_aload C hd hlk hz hP hS hl hcells hslots kk
  | istore_n q =>
    have hlen : len = 1 := by simpa [zln] using hlen
    subst hlen
    exact n_istore_n C hd hlk hz hP hS hl hcells hslots kk
  | istore q =>
    have hlen : len = 2 := by simpa [zln] using hlen
    subst hlen
    exact n_istore C hd hlk hz hP hS hl hcells hslots kk
  | lstore_n q =>
    have hlen : len = 1 := by simpa [zln] using hlen
    subst hlen
    exact n_lstore_n C hd hlk hz hP hS hl hcells hslots kk
  | lstore q =>
    have hlen : len = 2 := by simpa [zln] using hlen
    subst hlen
    exact n_lstore C hd hlk hz hP hS hl hcells hslots kk
  | astore_n q =>
    have hlen : len = 1 := by simpa [zln] using hlen
    subst hlen
    exact n_astore_n C hd hlk hz hP hS hl hcells hslots kk
  | iinc q n =>
    have hlen : len = 3 := by simpa [zln] using hlen
    subst hlen
    exact n_iinc C hd hlk hz hP hS hl hcells hslots kk
  | goto off =>
    have hlen : len = 3 := by simpa [zln] using hlen
    subst hlen
    exact n_goto C hd hlk hz hP hS hl hcells hslots kk
  | tableswitch dflt lo hi offs => exact n_tableswitch C hd hlk hz hP hS hl hcells hslots kk
  | lookupswitch dflt ps => exact n_lookupswitch C hd hlk hz hP hS hl hcells hslots kk
  | getfield q =>
    have hlen : len = 3 := by simpa [zln] using hlen
    subst hlen
    exact n_getfield C hd hlk hz hP hS hl hcells hslots kk
  | putfield q =>
    have hlen : len = 3 := by simpa [zln] using hlen
    subst hlen
    exact n_putfield C hd hlk hz hP hS hl hcells hslots kk
  | getstatic q =>
    have hlen : len = 3 := by simpa [zln] using hlen
    subst hlen
    exact n_getstatic C hd hlk hz hP hS hl hcells hslots kk
  | iaload =>
    have hlen : len = 1 := by simpa [zln] using hlen
    subst hlen
    exact n_iaload C hd hlk hz hP hS hl hcells hslots kk
  | laload =>
    have hlen : len = 1 := by simpa [zln] using hlen
    subst hlen
    exact n_laload C hd hlk hz hP hS hl hcells hslots kk
  | baload =>
    have hlen : len = 1 := by simpa [zln] using hlen
    subst hlen
    exact n_baload C hd hlk hz hP hS hl hcells hslots kk
  | aaload =>
    have hlen : len = 1 := by simpa [zln] using hlen
    subst hlen
    exact n_aaload C hd hlk hz hP hS hl hcells hslots kk
  | arraylength =>
    have hlen : len = 1 := by simpa [zln] using hlen
    subst hlen
    exact n_arraylength C hd hlk hz hP hS hl hcells hslots kk
  | iastore =>
    have hlen : len = 1 := by simpa [zln] using hlen
    subst hlen
    exact n_iastore C hd hlk hz hP hS hl hcells hslots kk
  | lastore =>
    have hlen : len = 1 := by simpa [zln] using hlen
    subst hlen
    exact n_lastore C hd hlk hz hP hS hl hcells hslots kk
  | aastore =>
    have hlen : len = 1 := by simpa [zln] using hlen
    subst hlen
    exact n_aastore C hd hlk hz hP hS hl hcells hslots kk
  | anewarray q =>
    have hlen : len = 3 := by simpa [zln] using hlen
    subst hlen
    exact n_anewarray C hd hlk hz hP hS hl hcells hslots kk
  | multianewarray q n =>
    have hlen : len = 4 := by simpa [zln] using hlen
    subst hlen
    exact n_multianewarray C hd hlk hz hP hS hl hcells hslots kk
  | new q =>
    have hlen : len = 3 := by simpa [zln] using hlen
    subst hlen
    exact n_new C hd hlk hz hP hS hl hcells hslots kk
  | invokestatic q =>
    have hlen : len = 3 := by simpa [zln] using hlen
    subst hlen
    exact n_copy C hd hlk hz hP hS hl hcells hslots kk
  | invokespecial q =>
    have hlen : len = 3 := by simpa [zln] using hlen
    subst hlen
    exact n_objinit C hd hlk hz hP hS hl hcells hslots kk
  | if_icmp cnd off =>
    have hlen : len = 3 := by simpa [zln] using hlen
    subst hlen
    cases cnd with
    | eq => exact n_icmp_eq C hd hlk hz hP hS hl hcells hslots kk
    | ne => exact n_icmp_ne C hd hlk hz hP hS hl hcells hslots kk
    | lt => exact n_icmp_lt C hd hlk hz hP hS hl hcells hslots kk
    | ge => exact n_icmp_ge C hd hlk hz hP hS hl hcells hslots kk
    | gt => exact n_icmp_gt C hd hlk hz hP hS hl hcells hslots kk
    | le => exact n_icmp_le C hd hlk hz hP hS hl hcells hslots kk
  | ifCond cnd off =>
    have hlen : len = 3 := by simpa [zln] using hlen
    subst hlen
    cases cnd with
    | eq => exact n_if_eq C hd hlk hz hP hS hl hcells hslots kk
    | ne => exact n_if_ne C hd hlk hz hP hS hl hcells hslots kk
    | lt => exact n_if_lt C hd hlk hz hP hS hl hcells hslots kk
    | ge => exact n_if_ge C hd hlk hz hP hS hl hcells hslots kk
    | gt => exact n_if_gt C hd hlk hz hP hS hl hcells hslots kk
    | le => exact n_if_le C hd hlk hz hP hS hl hcells hslots kk
  | newarray ty =>
    have hlen : len = 2 := by simpa [zln] using hlen
    subst hlen
    cases ty with
    | int => exact n_newI C hd hlk hz hP hS hl hcells hslots kk
    | long => exact n_newL C hd hlk hz hP hS hl hcells hslots kk
    | _ => simp only [zx] at hz; cases hz
  | invokevirtual q =>
    exfalso
    simp only [zx] at hz
    split at hz
    · split at hz
      · split at hz
        · unfold zcl at hz
          split at hz <;> cases hz
        · cases hz
      · cases hz
    · cases hz
  | ireturn =>
    exfalso
    simp only [zx] at hz
    split at hz
    · split at hz <;> cases hz
    · cases hz
  | lreturn =>
    exfalso
    simp only [zx] at hz
    split at hz
    · split at hz <;> cases hz
    · cases hz
  | areturn =>
    exfalso
    simp only [zx] at hz
    split at hz
    · split at hz <;> cases hz
    · cases hz
  | return_ =>
    exfalso
    simp only [zx] at hz
    split at hz
    · split at hz <;> cases hz
    · cases hz
  | _ => simp only [zx] at hz; cases hz
end ZS
