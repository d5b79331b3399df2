/-! SOUND, 6: calls, ends, whole runs -/
theorem zx_grow {o : zO} {k pc : Nat} {ls ls' : zL} {st st' : List Value} {h h' : zH} {pc' : Nat} (hz : zx o k pc ls st h = some (.inl (pc', ls', st', h'))) : h.1 ≤ h'.1 ∧ h.2.1 ≤ h'.2.1 := by
  obtain ⟨i, len, a, b, iv⟩ := o
  have e0 : h = h' → h.1 ≤ h'.1 ∧ h.2.1 ≤ h'.2.1 := fun q => by rw [q]; exact ⟨Nat.le_refl _, Nat.le_refl _⟩
  cases i <;> simp only [zx, zb, zbl, zbs, zun, zcl, reduceCtorEq] at hz <;> (try (repeat' split at hz)) <;> simp only [Option.some.injEq, Sum.inl.injEq, Prod.mk.injEq, reduceCtorEq] at hz <;> first | exact e0 hz.2.2.2 | (obtain ⟨-, -, -, rfl⟩ := hz; first | exact ⟨Nat.le_refl _, Nat.le_refl _⟩ | exact ⟨Nat.le_add_right _ _, Nat.le_add_right _ _⟩)
theorem zrun_grow : ∀ (n : Nat) {d k pc : Nat} {ls : zL} {st : List Value} {h : zH} {v : Option Value} {h' : zH}, zrun n d k pc ls st h = some (v, h') → h.1 ≤ h'.1 ∧ h.2.1 ≤ h'.2.1 := by
  intro n
  induction n with
  | zero => intro d k pc ls st h v h' e; cases e
  | succ n ih =>
    intro d k pc ls st h v h' e
    rw [zrun] at e
    cases hf : zf k pc with
    | none => rw [hf] at e; cases e
    | some o =>
      rw [hf] at e
      dsimp only at e
      cases hx : zx o k pc ls st h with
      | none => rw [hx] at e; cases e
      | some w =>
        rw [hx] at e
        rcases w with ⟨pc', ls', st', h1⟩ | q | v1
        · have g1 := zx_grow hx
          have g2 := ih e
          exact ⟨Nat.le_trans g1.1 g2.1, Nat.le_trans g1.2 g2.2⟩
        · cases d with
          | zero => cases e
          | succ d =>
            dsimp only at e
            cases hc : zrun n d q.1 0 (ze q.2.1 0) [] h with
            | none => rw [hc] at e; cases e
            | some w =>
              rw [hc] at e
              have g1 := ih hc
              have g2 := ih e
              exact ⟨Nat.le_trans g1.1 g2.1, Nat.le_trans g1.2 g2.2⟩
        · cases e
          exact ⟨Nat.le_refl _, Nat.le_refl _⟩
def zri (v : Option Value) : Instr := match v with
  | none => .return_
  | some (.int _) => .ireturn
  | some (.long _) => .lreturn
  | _ => .areturn
def zrk (k : Nat) (v : Option Value) : Prop := match v with
  | none => (zm k).2.2.2.1 = none
  | some (.int x) => zro k x = true
  | some (.long _) => (zm k).2.2.2.1 = some .long
  | some (.ref a) => (zm k).2.2.2.1 = some (.object "ProphetFines$Republic") ∧ 8 ≤ a
  | _ => False
theorem zx_ret {i : Instr} {len a b : Nat} {iv : Int} {k pc : Nat} {ls : zL} {st : List Value} {h : zH} {v : Option Value} (hz : zx (i, len, a, b, iv) k pc ls st h = some (.inr (.inr v))) : i = zri v ∧ st = v.toList ∧ zrk k v ∧ zln i = 1 := by
  cases i with
  | ireturn =>
    simp only [zx] at hz
    split at hz
    · split at hz
      · rename_i hk
        cases hz
        exact ⟨rfl, rfl, hk, rfl⟩
      · cases hz
    · cases hz
  | lreturn =>
    simp only [zx] at hz
    split at hz
    · split at hz
      · rename_i hk
        cases hz
        exact ⟨rfl, rfl, hk, rfl⟩
      · cases hz
    · cases hz
  | areturn =>
    simp only [zx] at hz
    split at hz
    · split at hz
      · rename_i hk
        cases hz
        exact ⟨rfl, rfl, hk, rfl⟩
      · cases hz
    · cases hz
  | return_ =>
    simp only [zx] at hz
    split at hz
    · split at hz
      · rename_i hk
        cases hz
        exact ⟨rfl, rfl, hk, rfl⟩
      · cases hz
    · cases hz
  | newarray ty =>
    exfalso
    cases ty <;> simp only [zx, reduceCtorEq] at hz <;> (try (repeat' split at hz)) <;> simp only [Option.some.injEq, Sum.inr.injEq, reduceCtorEq] at hz
  | _ =>
    exfalso
    simp only [zx, zb, zbl, zbs, zun, zcl, reduceCtorEq] at hz <;> (try (repeat' split at hz)) <;> simp only [Option.some.injEq, Sum.inr.injEq, reduceCtorEq] at hz
/-- the entry's variables -/
theorem ze_args {G : zE} {U : State} {H : Heap} (hX : zX G U H) : ∀ (as : List Value) (p i : Nat), ze as p i ≠ .null → (i, ztv G (ze as p i)) ∈ lv_args p (as.map (ztv G))
  | [], p, i, h => absurd rfl h
  | v :: vs, p, i, h => by
    unfold ze at h ⊢
    by_cases e : i = p
    · rw [if_pos e, e]
      exact List.mem_cons_self
    · rw [if_neg e] at h ⊢
      have hp : (if (ztv G v).category = 2 then p + 2 else p + 1) = p + v.category := by
        rw [ztv_cat hX]
        rcases lv_cat v with q | q <;> rw [q] <;> rfl
      refine List.mem_cons_of_mem _ ?_
      rw [hp]
      exact ze_args hX vs (p + v.category) i h
theorem lg_len (vs : List Value) : (lg_sl vs).length = (vs.map fun v => v.category).sum := by
  induction vs with
  | nil => rfl
  | cons v vs ih =>
    have e : lg_sl (v :: vs) = (if v.category = 2 then [.val v, .second] else [.val v]) ++ lg_sl vs := rfl
    rw [e, List.length_append, ih, List.map_cons, List.sum_cons]
    rcases lv_cat v with q | q
    · rw [if_neg (by omega), q]; rfl
    · rw [if_pos q, q]; rfl
theorem zLv_entry {G : zE} {U : State} {H : Heap} (hX : zX G U H) {as : List Value} {n : Nat} (h : zcs as ≤ n) : zLv G ((lg_sl (as.map (ztv G)) ++ List.replicate (n - (lg_sl (as.map (ztv G))).length) Slot.unset).toArray) n (ze as 0) := by
  have h1 := lv_entry (as.map (ztv G)) (n := n) (by rw [lg_len, zcs_tv hX]; exact h)
  exact ⟨h1.1, h1.2.1, fun i hi => h1.2.2 _ (ze_args hX as 0 i hi)⟩
def zws (a : Nat) : List Jvm.Cond := .code (zm a).1 (zm a).2.1 (zm a).2.2.1 (zm a).2.2.2.1 :: zWd
def zrm (d mc ms : Nat) : Room := { frames := d + 1, cells := mc, slots := ms, locals := 64 * (d + 1) }
def zBx (G : zE) (h : zH) (U : State) : Prop := zP G h U.heap ∧ zK G U ∧ zX G U U.heap
def zQc (G : zE) (v : Option Value) (h' : zH) : Array Value → State → Outcome → State → Prop := fun _ st oc t => oc = .returned (v.map (ztv G)) ∧ zP G h' t.heap ∧ va_F (zA G.1) st t
/-- from a frame on: the run, and what its caller wants of its end -/
def zRun (l : Launch) (G : zE) (n : Nat) : Prop := ∀ {d k pc : Nat} {ls : zL} {st : List Value} {h : zH} {v : Option Value} {h' : zH}, zrun n d k pc ls st h = some (v, h') →
  ∀ {p : Program} {e : Env} {R : Room} {s : State} {m : MethodId} {args : Array Value} {below : List Frame} {meth : Method} {c : Code} {H : Heap} {locs : List Loc} {sl : Array Slot} {c0 s0 : Nat} {Q : State → Prop},
  zCx G p R s m args meth c d k → zP G h H → va_S (zA G.1) s.heap H locs → zLv G sl (zm k).2.2.1 ls → c0 ≤ h.1 → s0 ≤ h.2.1 → h'.1 - c0 ≤ R.cells → h'.2.1 - s0 ≤ R.slots →
  (∀ (pc2 : Nat) (H2 : Heap) (locs2 : List Loc) (sl2 : Array Slot), zP G h' H2 → va_S (zA G.1) s.heap H2 locs2 → decode (zm k).2.1 pc2 = .ok (zri v, 1) → zrk k v → W p l e R s m args below meth c H2 locs2 (h'.1 - c0) (h'.2.1 - s0) Q (F0 m pc2 sl2 (v.toList.map (ztv G)))) →
  W p l e R s m args below meth c H locs (h.1 - c0) (h.2.1 - s0) Q (F0 m pc sl (st.map (ztv G)))
theorem z_met {l : Launch} {G : zE} {n : Nat} (IH : zRun l G n) {d a : Nat} {as : List Value} {h : zH} {v : Option Value} {h' : zH} (ha : a < 226) (hpl : plainName (zm a).1.cls = true) (hw : zcs as ≤ (zm a).2.2.1) (hr : zrun n d a 0 (ze as 0) [] h = some (v, h')) :
    Met l (zm a).1 (zws a) (zrm d (h'.1 - h.1) (h'.2.1 - h.2.1)) (va_Pc (as.map (ztv G)) (zBx G h)) (zQc G v h') (h'.1 - h.1) (h'.2.1 - h.2.1) (zA G.1) := by
  refine Met.ofW (cc := (zm a).2.1) (maxL := (zm a).2.2.1) (ret := (zm a).2.2.2.1) hpl rfl ?_
  intro p e s m args below meth c s₁ B hml hv
  obtain ⟨rfl, hP, hK, hX⟩ := hv
  have hts := atoms_spec (ws := zws a) B.pre
  have hlocks := B.notSynchronized
  have hrt := B.returns
  have C : zCx G p (headSpec (zws a) (zrm d (h'.1 - h.1) (h'.2.1 - h.2.1))).room s m (as.map (ztv G)).toArray meth c d a :=
    ⟨B.exec, B.bytes, hml, findClass_of_methodNamed B.named, fun w hw => hts w (List.mem_cons_of_mem _ hw), fun hq => (name_of_methodNamed B.named B.method).1.trans hq, hK, hX, Nat.le_refl _, Nat.le_refl _⟩
  have hS : va_S (zA G.1) s.heap s.heap [] := va_S.rf
  rw [lg_entry_eq]
  have hend := zrun_grow n hr
  have main := @IH d a 0 (ze as 0) [] h v h' hr p e (headSpec (zws a) (zrm d (h'.1 - h.1) (h'.2.1 - h.2.1))).room s m (as.map (ztv G)).toArray below meth c s.heap [] _ h.1 h.2.1 (MQ below (zQc G v h') (as.map (ztv G)).toArray s (h'.1 - h.1) (h'.2.1 - h.2.1) (zA G.1)) C hP hS (zLv_entry hX hw) (Nat.le_refl _) (Nat.le_refl _) (Nat.le_refl _) (Nat.le_refl _) ?_
  · rw [Nat.sub_self, Nat.sub_self] at main
    exact main
  · intro pc2 H2 locs2 sl2 hP2 hS2 hd2 hk2
    have hq : ∀ t : State, t.heap = H2 → s.WarmedH t.vm → zQc G v h' (as.map (ztv G)).toArray s (.returned (v.map (ztv G))) t := fun t ht _ => ⟨rfl, by rw [ht]; exact hP2, hS2.F ht⟩
    have hf : ∀ q ∈ locs2, zA G.1 q.base := hS2.2.2
    rcases v with _ | v
    · exact W.vret B.exec B.bytes (hrt.trans hk2) hq hf hd2
    · cases v with
      | int x =>
        have hk3 : zro a x = true := hk2
        unfold zro at hk3
        split at hk3
        · rename_i hty
          exact W.iret B.exec B.bytes (hrt.trans hty) hq hf hd2
        · rename_i hty
          refine W.zret B.exec B.bytes (hrt.trans hty) ?_ hq hf hd2
          simp only [Bool.or_eq_true, decide_eq_true_eq] at hk3
          rcases hk3 with rfl | rfl <;> decide
        · rename_i hty
          exact W.zret B.exec B.bytes (hrt.trans hty) (of_decide_eq_true hk3) hq hf hd2
        · cases hk3
      | long x => exact W.lret B.exec B.bytes (hrt.trans hk2) hq hf hd2
      | ref x =>
        have hk3 : (zm a).2.2.2.1 = some (.object "ProphetFines$Republic") ∧ 8 ≤ x := hk2
        have e9 : ztv G (.ref x) = .ref (G.1 + (x - 8)) := by
          have h8 := hk3.2
          rw [ztv_ref]
          exact zad_new G (Nat.not_lt.mpr h8)
        refine W.aret B.exec B.bytes (hrt.trans hk3.1) (Or.inl ⟨_, rfl⟩) (Or.inr ⟨_, e9⟩) hq hf hd2
      | _ => exact hk2.elim
