/-! the script's cell isn't looked at by the constructors: what runs with junk there runs with anything there -/
def zjk : zC := .inr (99, [])
def zJ (c : zC) (h : zH) : zH := (h.1, h.2.1, fun q => if q = 0 then c else h.2.2 q)
def zJs (c : zC) (r : zS) : zS := match r with
  | .inl q => .inl (q.1, q.2.1, q.2.2.1, zJ c q.2.2.2)
  | .inr q => .inr q
theorem zJ_at (c : zC) (h : zH) {a : Nat} (ha : a ≠ 0) : (zJ c h).2.2 a = h.2.2 a := if_neg ha
theorem zJ_1 (c : zC) (h : zH) : (zJ c h).1 = h.1 := rfl
theorem znew_J (c : zC) (h : zH) (a : Nat) : znew (zJ c h) a = znew h a := rfl
theorem znew_0 {h : zH} {a : Nat} (ha : znew h a = true) : a ≠ 0 := by
  simp only [znew, Bool.and_eq_true, Nat.ble_eq] at ha
  omega
theorem zu_J (c : zC) (h : zH) {a : Nat} (x : zC) (ha : a ≠ 0) : zu (zJ c h) a x = zJ c (zu h a x) := by
  refine Prod.ext rfl (Prod.ext rfl (funext fun q => ?_))
  show (if q = a then x else if q = 0 then c else h.2.2 q) = if q = 0 then c else if q = a then x else h.2.2 q
  by_cases h1 : q = a
  · rw [if_pos h1, if_neg (by omega), if_pos h1]
  · rw [if_neg h1, if_neg h1]
theorem zp_J (c : zC) (h : zH) (x : zC) (n : Nat) : zp (zJ c h) x n = zJ c (zp h x n) := by
  refine Prod.ext rfl (Prod.ext rfl (funext fun q => ?_))
  show (if q = 8 + h.1 then x else if q = 0 then c else h.2.2 q) = if q = 0 then c else if q = 8 + h.1 then x else h.2.2 q
  by_cases h1 : q = 8 + h.1
  · rw [if_pos h1, if_neg (by omega), if_pos h1]
  · rw [if_neg h1, if_neg h1]
theorem zpm_J (c : zC) (h : zH) (n k : Nat) : zpm (zJ c h) n k = zJ c (zpm h n k) := by
  refine Prod.ext rfl (Prod.ext rfl (funext fun q => ?_))
  show (if q = 8 + h.1 then _ else if 8 + h.1 < q ∧ q < 8 + h.1 + 1 + n then _ else if q = 0 then c else h.2.2 q) = if q = 0 then c else if q = 8 + h.1 then _ else if 8 + h.1 < q ∧ q < 8 + h.1 + 1 + n then _ else h.2.2 q
  by_cases h1 : q = 8 + h.1
  · rw [if_pos h1, if_neg (by omega), if_pos h1]
    rfl
  · rw [if_neg h1, if_neg h1]
    by_cases h2 : 8 + h.1 < q ∧ q < 8 + h.1 + 1 + n
    · rw [if_pos h2, if_neg (by omega), if_pos h2]
    · rw [if_neg h2, if_neg h2]
theorem zkI_0 {t : Nat} {i : Int32} : zkI zjk t i = false := rfl
theorem zx_J {o : zO} {k pc : Nat} {ls : zL} {st : List Value} {h : zH} {r : zS} (c : zC) (h0 : h.2.2 0 = zjk) (hz : zx o k pc ls st h = some r) : zx o k pc ls st (zJ c h) = some (zJs c r) := by
  obtain ⟨i, len, a, b, iv⟩ := o
  cases i with
  | getfield q =>
    simp only [zx] at hz ⊢
    split at hz
    · split at hz
      · rename_i h9
        split at hz
        · rename_i h5
          cases hz
          simp only [h9, h5, if_true, zJs]
        · cases hz
      · rename_i h9
        split at hz
        · rename_i hk
          cases hz
          have ha : _ ≠ 0 := znew_0 (Bool.and_eq_true_iff.mp hk).1
          simp only [h9, if_false, znew_J, zJ_at c h ha, hk, if_true, zJs]
        · cases hz
    · cases hz
  | putfield q =>
    simp only [zx] at hz ⊢
    split at hz
    · split at hz
      · rename_i hk
        cases hz
        have ha : _ ≠ 0 := znew_0 (Bool.and_eq_true_iff.mp (Bool.and_eq_true_iff.mp hk).1).1
        simp only [znew_J, zJ_at c h ha, hk, if_true, zJs, zu_J c h _ ha]
      · cases hz
    · cases hz
  | iaload =>
    simp only [zx] at hz ⊢
    split at hz
    · rename_i i1 a1 r1
      split at hz
      · rename_i hk
        cases hz
        have ha : a1 ≠ 0 := fun e => by
          rw [e, h0] at hk
          simp only [zkI_0, Bool.and_false] at hk
          cases hk
        simp only [znew_J, zJ_at c h ha, hk, if_true, zJs]
      · cases hz
    · cases hz
  | laload =>
    simp only [zx] at hz ⊢
    split at hz
    · rename_i i1 a1 r1
      split at hz
      · rename_i hk
        cases hz
        have ha : a1 ≠ 0 := fun e => by
          rw [e, h0] at hk
          simp only [zkJ, zjk, Bool.and_false] at hk
          cases hk
        simp only [znew_J, zJ_at c h ha, hk, if_true, zJs]
      · cases hz
    · cases hz
  | baload =>
    simp only [zx] at hz ⊢
    split at hz
    · rename_i i1 a1 r1
      split at hz
      · rename_i hk
        cases hz
        have ha : a1 ≠ 0 := fun e => by
          rw [e, h0] at hk
          simp only [zkI_0, Bool.and_false] at hk
          cases hk
        simp only [zJ_at c h ha, hk, if_true, zJs]
      · cases hz
    · cases hz
  | aaload =>
    simp only [zx] at hz ⊢
    split at hz
    · split at hz
      · rename_i hk
        cases hz
        have ha : _ ≠ 0 := znew_0 (Bool.and_eq_true_iff.mp hk).1
        simp only [znew_J, zJ_at c h ha, hk, if_true, zJs]
      · cases hz
    · cases hz
  | iastore =>
    simp only [zx] at hz ⊢
    split at hz
    · split at hz
      · rename_i hk
        cases hz
        have ha : _ ≠ 0 := znew_0 (Bool.and_eq_true_iff.mp hk).1
        simp only [znew_J, zJ_at c h ha, hk, if_true, zJs, zu_J c h _ ha]
      · cases hz
    · cases hz
  | lastore =>
    simp only [zx] at hz ⊢
    split at hz
    · split at hz
      · rename_i hk
        cases hz
        have ha : _ ≠ 0 := znew_0 (Bool.and_eq_true_iff.mp hk).1
        simp only [znew_J, zJ_at c h ha, hk, if_true, zJs, zu_J c h _ ha]
      · cases hz
    · cases hz
  | aastore =>
    simp only [zx] at hz ⊢
    split at hz
    · split at hz
      · rename_i ec
        split at hz
        · rename_i hk
          cases hz
          have ha : _ ≠ 0 := znew_0 (Bool.and_eq_true_iff.mp (Bool.and_eq_true_iff.mp (Bool.and_eq_true_iff.mp hk).1).1).1
          have hv : _ ≠ 0 := znew_0 (Bool.and_eq_true_iff.mp (Bool.and_eq_true_iff.mp hk).1).2
          simp only [znew_J, zJ_at c h ha, zJ_at c h hv, ec, hk, if_true, zJs, zu_J c h _ ha]
        · cases hz
      · cases hz
    · cases hz
  | arraylength =>
    simp only [zx] at hz ⊢
    split at hz
    · rename_i a1 r1
      split at hz
      · rename_i hk
        cases hz
        have ha : a1 ≠ 0 := fun e => by
          rw [e, h0] at hk
          simp only [zisArr, zjk, Bool.and_false, Bool.false_or] at hk
          cases hk
        simp only [znew_J, zJ_at c h ha, hk, if_true, zJs]
      · cases hz
    · cases hz
  | newarray ty =>
    cases ty <;> simp only [zx, reduceCtorEq] at hz ⊢
    all_goals
      split at hz
      · split at hz
        · rename_i hk
          cases hz
          simp only [hk, not_false_eq_true, and_self, if_true, zJs, zJ_1, zp_J]
        · cases hz
      · cases hz
  | anewarray q =>
    simp only [zx] at hz ⊢
    split at hz
    · split at hz
      · rename_i hk
        cases hz
        simp only [hk, not_false_eq_true, and_self, if_true, zJs, zJ_1, zp_J]
      · cases hz
    · cases hz
  | multianewarray q n =>
    simp only [zx] at hz ⊢
    split at hz
    · split at hz
      · rename_i hk
        cases hz
        simp only [hk, not_false_eq_true, and_self, if_true, zJs, zJ_1, zpm_J]
      · cases hz
    · cases hz
  | new q =>
    simp only [zx] at hz ⊢
    cases hz
    simp only [zJs, zJ_1, zp_J]
  | invokestatic q =>
    simp only [zx] at hz ⊢
    by_cases c1 : a = 1001
    · rw [if_pos c1] at hz ⊢
      split at hz
      · split at hz
        · rename_i ea eb
          split at hz
          · rename_i hk
            cases hz
            have hk2 := hk
            simp only [Bool.and_eq_true] at hk2
            have ha : _ ≠ 0 := znew_0 hk2.1.1.1.1.1.1.1
            have hb : _ ≠ 0 := znew_0 hk2.1.1.1.1.1.1.2
            simp only [znew_J, zJ_at c h ha, zJ_at c h hb, ea, eb, hk, if_true, zJs, zu_J c h _ hb]
          · cases hz
        · cases hz
      · cases hz
    · rw [if_neg c1] at hz ⊢
      by_cases c2 : a = 218
      · rw [if_pos c2] at hz ⊢
        split at hz
        · split at hz
          · rename_i hk
            cases hz
            simp only [hk, if_true, zJs]
          · cases hz
        · cases hz
      · rw [if_neg c2] at hz ⊢
        by_cases c3 : a = 219
        · rw [if_pos c3] at hz ⊢
          split at hz
          · split at hz
            · rename_i hk
              cases hz
              simp only [hk, if_true, zJs]
            · cases hz
          · cases hz
        · rw [if_neg c3] at hz ⊢
          rw [hz]
          split at hz
          · unfold zcl at hz
            split at hz
            · cases hz; rfl
            · cases hz
          · cases hz
  | invokevirtual q =>
    simp only [zx] at hz ⊢
    by_cases c1 : a < 226
    · rw [if_pos c1] at hz ⊢
      split at hz
      · split at hz
        · rename_i v r0 hdr hrc
          have hrc2 : zrc (zJ c h) v (zm a).2.2.2.2.2 = true := by
            cases v with
            | ref b0 =>
              simp only [zrc] at hrc ⊢
              split at hrc
              · rename_i h9
                rw [if_pos h9]
                exact hrc
              · rename_i h9
                rw [if_neg h9]
                have hb : b0 ≠ 0 := znew_0 (Bool.and_eq_true_iff.mp hrc).1
                rw [znew_J, zJ_at c h hb]
                exact hrc
            | _ => exact hrc
          rw [if_pos hrc2, hz]
          unfold zcl at hz
          split at hz
          · cases hz; rfl
          · cases hz
        · cases hz
      · cases hz
    · rw [if_neg c1] at hz
      cases hz
  | invokespecial q =>
    simp only [zx] at hz ⊢
    by_cases c1 : a = 1000
    · rw [if_pos c1] at hz ⊢
      split at hz
      · split at hz
        · rename_i hk
          cases hz
          simp only [hk, ne_eq, not_false_eq_true, and_self, if_true, zJs]
        · cases hz
      · cases hz
    · rw [if_neg c1] at hz ⊢
      rw [hz]
      split at hz
      · split at hz
        · split at hz
          · cases hz
          · unfold zcl at hz
            split at hz
            · cases hz; rfl
            · cases hz
        · cases hz
      · cases hz
  | getstatic q =>
    simp only [zx] at hz ⊢
    split at hz
    · rename_i h8
      cases hz
      rw [if_pos h8]
      rfl
    · rename_i h8
      split at hz
      · rename_i h7
        cases hz
        rw [if_neg h8, if_pos h7]
        rfl
      · cases hz
  | tableswitch dflt lo hi offs =>
    simp only [zx] at hz ⊢
    split at hz
    · split at hz
      · rename_i hk
        cases hz
        simp only [hk, if_true, zJs]
      · rename_i hk
        split at hz
        · rename_i ho
          cases hz
          simp only [hk, if_false, ho, zJs]
        · cases hz
    · cases hz
  | _ =>
    simp only [zx, zb, zbl, zbs, zun, reduceCtorEq] at hz ⊢
    all_goals first
      | (cases hz; rfl)
      | (split at hz
         · first
           | (cases hz; rfl)
           | (split at hz
              · rename_i hk
                first
                | (cases hz; done)
                | (cases hz
                   simp only [hk, not_false_eq_true, ne_eq, and_self, if_true, if_false, zJs])
              · rename_i hk
                first
                | (cases hz; done)
                | (cases hz
                   simp only [hk, not_false_eq_true, ne_eq, and_self, if_true, if_false, zJs]))
           | (rename_i hk
              cases hz
              simp only [hk, if_true, zJs])
         · first
           | (cases hz; done)
           | (rename_i hk
              cases hz
              simp only [hk, if_false, zJs]))
theorem zx_J0 {o : zO} {k pc pc' : Nat} {ls ls' : zL} {st st' : List Value} {h h' : zH} (h0 : h.2.2 0 = zjk) (hz : zx o k pc ls st h = some (.inl (pc', ls', st', h'))) : h'.2.2 0 = zjk := by
  have h1 := zx_J zjk h0 hz
  have e : zJ zjk h = h := by
    refine Prod.ext rfl (Prod.ext rfl (funext fun q => ?_))
    show (if q = 0 then zjk else h.2.2 q) = h.2.2 q
    by_cases hq : q = 0
    · rw [if_pos hq, hq, h0]
    · rw [if_neg hq]
  rw [e, hz] at h1
  simp only [zJs, Option.some.injEq, Sum.inl.injEq, Prod.mk.injEq] at h1
  have h2 := h1.2.2.2
  have h3 : h'.2.2 0 = (zJ zjk h').2.2 0 := by rw [← h2]
  rw [h3]
  show (if (0 : Nat) = 0 then zjk else h'.2.2 0) = zjk
  exact if_pos rfl
theorem zrun_J (c : zC) : ∀ (n : Nat) {d k pc : Nat} {ls : zL} {st : List Value} {h : zH} {v : Option Value} {h' : zH}, h.2.2 0 = zjk → zrun n d k pc ls st h = some (v, h') → zrun n d k pc ls st (zJ c h) = some (v, zJ c h') ∧ h'.2.2 0 = zjk := by
  intro n
  induction n with
  | zero => intro d k pc ls st h v h' _ e; cases e
  | succ n ih =>
    intro d k pc ls st h v h' h0 e
    rw [zrun] at e ⊢
    cases hf : zf k pc with
    | none => rw [hf] at e; cases e
    | some o =>
      rw [hf] at e
      dsimp only at e ⊢
      cases hx : zx o k pc ls st h with
      | none => rw [hx] at e; cases e
      | some w =>
        rw [hx] at e
        rw [zx_J c h0 hx]
        rcases w with ⟨pc', ls', st', h1⟩ | q | v1
        · exact ih (zx_J0 h0 hx) e
        · cases d with
          | zero => cases e
          | succ d =>
            dsimp only [zJs] at e ⊢
            cases hc : zrun n d q.1 0 (ze q.2.1 0) [] h with
            | none => rw [hc] at e; cases e
            | some w =>
              obtain ⟨v2, h2⟩ := w
              rw [hc] at e
              obtain ⟨k1, k2⟩ := ih h0 hc
              rw [k1]
              exact ih k2 e
        · cases e
          exact ⟨rfl, h0⟩
