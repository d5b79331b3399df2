/-! THE VIEW: the heap behind both constructors, out of numbers alone: s.1 a j is the int at place j of the cell a, s.2 a j the long; what refers to what never changes -/
abbrev zG : Type := (Nat → Nat → Int32) × (Nat → Nat → Int64)
def zfs (s : zG) (a ci : Nat) : List Value := (List.range (zkt.getD ci []).length).map (fun b => if (zkt.getD ci []).getD b 2 = 0 then .int (s.1 a b) else .ref (zrf a b))
def zgF (c : zC) : Nat → Option Nat := match c with
  | .inl (_, _, .inr (.inr f)) => f
  | _ => fun _ => none
noncomputable def zrr (a : Nat) : Nat → Option Nat := zgF (zhX.2.2 a)
noncomputable def zcell (L : Nat) (s : zG) (a : Nat) : zC := if a = 0 then .inl (0, L, .inl (s.1 0)) else match (zwa a).1 with
  | 10 => .inl (0, (zwa a).2, .inl (s.1 a))
  | 11 => .inl (1, (zwa a).2, .inr (.inl (s.2 a)))
  | 12 => .inl (2, (zwa a).2, .inr (.inr (zrr a)))
  | 13 => .inl (3, (zwa a).2, .inr (.inr (zrr a)))
  | 99 => zhX.2.2 a
  | ci => .inr (ci, zfs s a ci)
noncomputable def zv (L : Nat) (s : zG) : zH := (300, 5604, zcell L s)
def zU (f : Nat → Nat → Int32) (a b : Nat) (x : Int32) : Nat → Nat → Int32 := fun p q => if p = a ∧ q = b then x else f p q
def zUl (f : Nat → Nat → Int64) (a b : Nat) (x : Int64) : Nat → Nat → Int64 := fun p q => if p = a ∧ q = b then x else f p q
/-- lengths: of ints, of longs, of references; 0 where it is none -/
def zan (a : Nat) : Nat := match zwa a with
  | (10, n) => n
  | _ => 0
def zaj (a : Nat) : Nat := match zwa a with
  | (11, n) => n
  | _ => 0
def zar (a : Nat) : Nat := match zwa a with
  | (12, n) => n
  | (13, n) => n
  | _ => 0
/-- is it an object of that number with such a field: 1 a number, 2 a reference -/
def zgk (a ci b : Nat) : Nat := if (zwa a).1 = ci ∧ ci < 9 then (if (zkt.getD ci []).getD b 2 = 0 then 1 else if (zkt.getD ci []).getD b 2 = 1 then 2 else 0) else 0
theorem zin_lt {i : Int32} {n : Nat} (h : zin i n = true) : i.toNatClampNeg < n ∧ ¬ i < 0 := by
  simp only [zin, Bool.not_eq_true', Bool.or_eq_false_iff, decide_eq_false_iff_not] at h
  exact ⟨by omega, h.1⟩
theorem zin_nI {j n : Nat} (h : j < n) (hn : n < 2 ^ 31) : zin (nI j) n = true := by
  have h1 := nI_pos (n := j) (by omega)
  have h2 := nI_clamp (n := j) (by omega)
  simp [zin, h1, h2, h]
theorem znew_of {a : Nat} {L : Nat} {s : zG} (h : (zwa a).1 ≠ 99) : znew (zv L s) a = true ∧ ¬ a < 8 := by
  have h8 : ¬ a < 8 := fun q => h (by simp [zwa, q])
  refine ⟨?_, h8⟩
  have h2 : a - 8 < zw.length := by
    rcases Nat.lt_or_ge (a - 8) zw.length with q | q
    · exact q
    · exfalso
      apply h
      simp only [zwa, if_neg h8]
      rw [List.getD_eq_getElem?_getD, List.getElem?_eq_none q]
      rfl
  have h3 : zw.length = 300 := by decide +kernel
  simp only [znew, zv, Bool.and_eq_true, Nat.ble_eq, Nat.blt_eq]
  omega
theorem zan_of {a n : Nat} (h : 0 < zan a) (e : zan a = n) (L : Nat) (s : zG) : zcell L s a = .inl (0, n, .inl (s.1 a)) ∧ znew (zv L s) a = true ∧ ¬ a < 8 ∧ zwa a = (10, n) := by
  have hw : zwa a = (10, n) := by
    unfold zan at h e
    split at h
    · rename_i m hm
      rw [hm] at e
      have e2 : m = n := e
      rw [hm, e2]
    · cases h
  have h8 := znew_of (a := a) (L := L) (s := s) (by rw [hw]; show (10 : Nat) ≠ 99; decide)
  exact ⟨by simp [zcell, show a ≠ 0 from fun q => h8.2 (by omega), hw], h8.1, h8.2, hw⟩
theorem zaj_of {a n : Nat} (h : 0 < zaj a) (e : zaj a = n) (L : Nat) (s : zG) : zcell L s a = .inl (1, n, .inr (.inl (s.2 a))) ∧ znew (zv L s) a = true ∧ ¬ a < 8 ∧ zwa a = (11, n) := by
  have hw : zwa a = (11, n) := by
    unfold zaj at h e
    split at h
    · rename_i m hm
      rw [hm] at e
      have e2 : m = n := e
      rw [hm, e2]
    · cases h
  have h8 := znew_of (a := a) (L := L) (s := s) (by rw [hw]; show (11 : Nat) ≠ 99; decide)
  exact ⟨by simp [zcell, show a ≠ 0 from fun q => h8.2 (by omega), hw], h8.1, h8.2, hw⟩
theorem zU_row (f : Nat → Nat → Int32) (a b : Nat) (x : Int32) : zU f a b x a = upd (f a) b x := by
  funext q
  simp [zU, upd]
theorem zU_other (f : Nat → Nat → Int32) {a p : Nat} (b : Nat) (x : Int32) (h : p ≠ a) : zU f a b x p = f p := by
  funext q
  simp [zU, h]
theorem zUl_row (f : Nat → Nat → Int64) (a b : Nat) (x : Int64) : zUl f a b x a = vp_updL (f a) b x := by
  funext q
  simp [zUl, vp_updL]
theorem zUl_other (f : Nat → Nat → Int64) {a p : Nat} (b : Nat) (x : Int64) (h : p ≠ a) : zUl f a b x p = f p := by
  funext q
  simp [zUl, h]
theorem zcell_other {L : Nat} {s t : zG} {a : Nat} (h1 : s.1 a = t.1 a) (h2 : s.2 a = t.2 a) : zcell L s a = zcell L t a := by
  unfold zcell
  by_cases h0 : a = 0
  · subst h0
    rw [if_pos rfl, if_pos rfl, h1]
  · rw [if_neg h0, if_neg h0, h1, h2]
    unfold zfs
    rw [h1]
theorem zu_view {L a : Nat} {s t : zG} {c : zC} (h1 : zcell L t a = c) (h2 : ∀ p, p ≠ a → zcell L s p = zcell L t p) : zu (zv L s) a c = zv L t := by
  refine Prod.ext rfl (Prod.ext rfl (funext fun p => ?_))
  show (if p = a then c else zcell L s p) = zcell L t p
  by_cases hp : p = a
  · rw [if_pos hp, hp, h1]
  · rw [if_neg hp, h2 p hp]
theorem zsh_at {a : Nat} (h : (zwa a).1 ≠ 99) : zsh (zhX.2.2 a) a = true := by
  obtain ⟨h1, h8⟩ := znew_of (a := a) (L := 0) (s := (fun _ _ => 0, fun _ _ => 0)) h
  simp only [znew, zv, Bool.and_eq_true, Nat.ble_eq, Nat.blt_eq] at h1
  have := List.all_eq_true.mp zhX_sh (a - 8) (List.mem_range.mpr (by omega))
  rw [show 8 + (a - 8) = a by omega] at this
  exact this
theorem zar_of {a n : Nat} (h : 0 < zar a) (e : zar a = n) (L : Nat) (s : zG) : (∃ u, (u = 2 ∨ u = 3) ∧ zcell L s a = .inl (u, n, .inr (.inr (zrr a)))) ∧ znew (zv L s) a = true ∧ ∀ i, i < n → zrr a i = some (zra a i) := by
  have hw : zwa a = (12, n) ∨ zwa a = (13, n) := by
    unfold zar at h e
    split at h
    · rename_i m hm
      rw [hm] at e
      have e2 : m = n := e
      left
      rw [hm, e2]
    · rename_i m hm
      rw [hm] at e
      have e2 : m = n := e
      right
      rw [hm, e2]
    · cases h
  have h99 : (zwa a).1 ≠ 99 := by
    rcases hw with q | q <;> rw [q] <;> simp
  have h8 := znew_of (a := a) (L := L) (s := s) h99
  have h0 : a ≠ 0 := fun q => h8.2 (by omega)
  have hs := zsh_at h99
  refine ⟨?_, h8.1, fun i hi => ?_⟩
  · rcases hw with q | q
    · exact ⟨2, Or.inl rfl, by simp [zcell, h0, q]⟩
    · exact ⟨3, Or.inr rfl, by simp [zcell, h0, q]⟩
  · unfold zsh at hs
    unfold zrr
    split at hs
    · rcases hw with q | q <;> rw [q] at hs <;> simp at hs
    · rcases hw with q | q <;> rw [q] at hs <;> simp at hs
    · rename_i m f ec
      simp only [Bool.and_eq_true] at hs
      rw [ec]
      have hm : m = (zwa a).2 := Nat.eq_of_beq_eq_true hs.1.2
      have hm2 : (zwa a).2 = n := by rcases hw with q | q <;> rw [q]
      exact of_decide_eq_true (List.all_eq_true.mp hs.2 i (List.mem_range.mpr (by omega)))
    · rename_i m f ec
      simp only [Bool.and_eq_true] at hs
      rw [ec]
      have hm : m = (zwa a).2 := Nat.eq_of_beq_eq_true hs.1.2
      have hm2 : (zwa a).2 = n := by rcases hw with q | q <;> rw [q]
      exact of_decide_eq_true (List.all_eq_true.mp hs.2 i (List.mem_range.mpr (by omega)))
    · rename_i ci fs ec
      simp only [Bool.and_eq_true, Nat.blt_eq] at hs
      have hc : (zwa a).1 = ci := Nat.eq_of_beq_eq_true hs.1.1.1
      rcases hw with q | q <;> rw [q] at hc <;> have hc2 := hs.1.1.2 <;> omega
    · cases hs
theorem zocI_of {c : zC} {u : Nat} {g : Nat → Int32} (h : zocI c u g = true) : ∃ f, c = .inl (u, 6, .inl f) ∧ ∀ j, j < 6 → f j = g j := by
  unfold zocI at h
  split at h
  · rename_i v n f
    simp only [Bool.and_eq_true] at h
    refine ⟨f, by rw [Nat.eq_of_beq_eq_true h.1.1, Nat.eq_of_beq_eq_true h.1.2], fun j hj => of_decide_eq_true (List.all_eq_true.mp h.2 j (List.mem_range.mpr hj))⟩
  · cases h
theorem zocJ_of {c : zC} {g : Nat → Int64} (h : zocJ c g = true) : ∃ f, c = .inl (1, 6, .inr (.inl f)) ∧ ∀ j, j < 6 → f j = g j := by
  unfold zocJ at h
  split at h
  · rename_i v n f
    simp only [Bool.and_eq_true] at h
    refine ⟨f, by rw [Nat.eq_of_beq_eq_true h.1.1, Nat.eq_of_beq_eq_true h.1.2], fun j hj => of_decide_eq_true (List.all_eq_true.mp h.2 j (List.mem_range.mpr hj))⟩
  · cases h
theorem zcell_old {a : Nat} (h : a < 8) (h0 : a ≠ 0) (L : Nat) (s : zG) : zcell L s a = zhX.2.2 a := by
  unfold zcell
  rw [if_neg h0]
  have : (zwa a).1 = 99 := by simp [zwa, h]
  rw [this]
  rfl
def zcpy (f : Nat → Nat → Int32) (a b sp dp n : Nat) : Nat → Nat → Int32 := fun p q => if p = b then va_cpy (f a) (f b) sp dp n q else f p q
section ZV
variable {d k pc : Nat} {ls : zL} {r : List Value} {L : Nat} {s : zG} {Q : Option Value → zH → Prop} {x y z v w : Nat} {iv : Int}
theorem v_iald {a : Nat} {i : Int32} (hf : zf k pc = some (.iaload, x, y, z, iv)) (hi : zin i (zan a) = true) : zR d k pc ls (.int i :: .ref a :: r) (zv L s) Q = zR d k (pc + 1) ls (.int (s.1 a i.toNatClampNeg) :: r) (zv L s) Q := by
  obtain ⟨h1, h2, h3, -⟩ := zan_of (Nat.lt_of_le_of_lt (Nat.zero_le _) (zin_lt hi).1) rfl L s
  refine zR_next hf ?_
  have e : (zv L s).2.2 a = .inl (0, zan a, .inl (s.1 a)) := h1
  simp only [zx]
  rw [e]
  simp [zkI, zgI, h2, hi]
theorem v_lald {a : Nat} {i : Int32} (hf : zf k pc = some (.laload, x, y, z, iv)) (hi : zin i (zaj a) = true) : zR d k pc ls (.int i :: .ref a :: r) (zv L s) Q = zR d k (pc + 1) ls (.long (s.2 a i.toNatClampNeg) :: r) (zv L s) Q := by
  obtain ⟨h1, h2, h3, -⟩ := zaj_of (Nat.lt_of_le_of_lt (Nat.zero_le _) (zin_lt hi).1) rfl L s
  refine zR_next hf ?_
  have e : (zv L s).2.2 a = .inl (1, zaj a, .inr (.inl (s.2 a))) := h1
  simp only [zx]
  rw [e]
  simp [zkJ, zgJ, h2, hi]
theorem v_iast {a : Nat} {i q : Int32} (hf : zf k pc = some (.iastore, x, y, z, iv)) (hi : zin i (zan a) = true) : zR d k pc ls (.int q :: .int i :: .ref a :: r) (zv L s) Q = zR d k (pc + 1) ls r (zv L (zU s.1 a i.toNatClampNeg q, s.2)) Q := by
  obtain ⟨h1, h2, h3, h4⟩ := zan_of (Nat.lt_of_le_of_lt (Nat.zero_le _) (zin_lt hi).1) rfl L s
  obtain ⟨g1, -⟩ := zan_of (Nat.lt_of_le_of_lt (Nat.zero_le _) (zin_lt hi).1) rfl L (zU s.1 a i.toNatClampNeg q, s.2)
  have e : (zv L s).2.2 a = .inl (0, zan a, .inl (s.1 a)) := h1
  refine zR_next hf ?_
  simp only [zx]
  rw [e]
  simp only [zkI, zsI, h2, hi, Nat.beq_refl, Bool.and_self, if_true]
  rw [zu_view (L := L) (a := a) (s := s) (t := (zU s.1 a i.toNatClampNeg q, s.2)) (c := .inl (0, zan a, .inl (upd (s.1 a) i.toNatClampNeg q))) (by rw [g1]; dsimp only; rw [zU_row]) (fun p hp => zcell_other (zU_other _ _ _ hp).symm rfl)]
theorem v_last {a : Nat} {i : Int32} {q : Int64} (hf : zf k pc = some (.lastore, x, y, z, iv)) (hi : zin i (zaj a) = true) : zR d k pc ls (.long q :: .int i :: .ref a :: r) (zv L s) Q = zR d k (pc + 1) ls r (zv L (s.1, zUl s.2 a i.toNatClampNeg q)) Q := by
  obtain ⟨h1, h2, h3, h4⟩ := zaj_of (Nat.lt_of_le_of_lt (Nat.zero_le _) (zin_lt hi).1) rfl L s
  obtain ⟨g1, -⟩ := zaj_of (Nat.lt_of_le_of_lt (Nat.zero_le _) (zin_lt hi).1) rfl L (s.1, zUl s.2 a i.toNatClampNeg q)
  have e : (zv L s).2.2 a = .inl (1, zaj a, .inr (.inl (s.2 a))) := h1
  refine zR_next hf ?_
  simp only [zx]
  rw [e]
  simp only [zkJ, zsJ, h2, hi, Nat.beq_refl, Bool.and_self, if_true]
  rw [zu_view (L := L) (a := a) (s := s) (t := (s.1, zUl s.2 a i.toNatClampNeg q)) (c := .inl (1, zaj a, .inr (.inl (vp_updL (s.2 a) i.toNatClampNeg q)))) (by rw [g1]; dsimp only; rw [zUl_row]) (fun p hp => zcell_other rfl (zUl_other _ _ _ hp).symm)]
theorem zgk_of {a ci b : Nat} (h : zgk a ci b ≠ 0) : (zwa a).1 = ci ∧ ci < 9 ∧ b < (zkt.getD ci []).length ∧ ((zkt.getD ci []).getD b 2 = 0 ∧ zgk a ci b = 1 ∨ (zkt.getD ci []).getD b 2 = 1 ∧ zgk a ci b = 2) := by
  unfold zgk at h ⊢
  by_cases h1 : (zwa a).1 = ci ∧ ci < 9
  · rw [if_pos h1] at h ⊢
    have hb : (zkt.getD ci []).getD b 2 ≠ 2 → b < (zkt.getD ci []).length := fun q => by
      rcases Nat.lt_or_ge b (zkt.getD ci []).length with w | w
      · exact w
      · exact absurd (by rw [List.getD_eq_getElem?_getD, List.getElem?_eq_none w]; rfl) q
    by_cases h2 : (zkt.getD ci []).getD b 2 = 0
    · rw [if_pos h2]
      exact ⟨h1.1, h1.2, hb (by rw [h2]; decide), Or.inl ⟨h2, rfl⟩⟩
    · rw [if_neg h2] at h ⊢
      by_cases h3 : (zkt.getD ci []).getD b 2 = 1
      · rw [if_pos h3]
        exact ⟨h1.1, h1.2, hb (by rw [h3]; decide), Or.inr ⟨h3, rfl⟩⟩
      · rw [if_neg h3] at h
        exact absurd rfl h
  · rw [if_neg h1] at h
    exact absurd rfl h
theorem zcell_obj {a ci : Nat} (h : (zwa a).1 = ci) (hc : ci < 9) (L : Nat) (s : zG) : zcell L s a = .inr (ci, zfs s a ci) ∧ znew (zv L s) a = true ∧ ¬ a < 8 := by
  have h8 := znew_of (a := a) (L := L) (s := s) (by rw [h]; omega)
  refine ⟨?_, h8⟩
  unfold zcell
  rw [if_neg (fun q => h8.2 (by omega))]
  subst h
  split <;> first | rfl | omega
theorem zfs_len (s : zG) (a ci : Nat) : (zfs s a ci).length = (zkt.getD ci []).length := by simp [zfs]
theorem zfs_get (s : zG) {a ci b : Nat} (hb : b < (zkt.getD ci []).length) : (zfs s a ci)[b]? = some (if (zkt.getD ci []).getD b 2 = 0 then .int (s.1 a b) else .ref (zrf a b)) := by
  simp only [zfs, List.getElem?_map, List.getElem?_range hb, Option.map_some]
theorem v_getI {a ci b : Nat} (hf : zf k pc = some (.getfield v, x, ci, b, iv)) (hk : zgk a ci b = 1) : zR d k pc ls (.ref a :: r) (zv L s) Q = zR d k (pc + 3) ls (.int (s.1 a b) :: r) (zv L s) Q := by
  obtain ⟨h1, h2, h3, h4⟩ := zgk_of (by rw [hk]; decide)
  have h5 : (zkt.getD ci []).getD b 2 = 0 := by
    rcases h4 with q | q
    · exact q.1
    · rw [hk] at q; cases q.2
  obtain ⟨g1, g2, g3⟩ := zcell_obj h1 h2 L s
  refine zR_next hf ?_
  have e : (zv L s).2.2 a = .inr (ci, zfs s a ci) := g1
  simp only [zx]
  rw [if_neg (by omega), e]
  have hb : Nat.blt b (zfs s a ci).length = true := by rw [zfs_len, Nat.blt_eq]; exact h3
  simp only [zkO, zgO, g2, hb, Nat.beq_refl, Bool.and_self, if_true, List.getD_eq_getElem?_getD, zfs_get s h3, Option.getD_some]
  rw [← List.getD_eq_getElem?_getD, ← List.getD_eq_getElem?_getD, if_pos h5]
theorem v_getA {a ci b e : Nat} (hf : zf k pc = some (.getfield v, x, ci, b, iv)) (hk : zgk a ci b = 2) (he : zrf a b = e) : zR d k pc ls (.ref a :: r) (zv L s) Q = zR d k (pc + 3) ls (.ref e :: r) (zv L s) Q := by
  subst he
  obtain ⟨h1, h2, h3, h4⟩ := zgk_of (by rw [hk]; decide)
  have h5 : ¬ (zkt.getD ci []).getD b 2 = 0 := by
    rcases h4 with q | q
    · rw [hk] at q; cases q.2
    · rw [q.1]; decide
  obtain ⟨g1, g2, g3⟩ := zcell_obj h1 h2 L s
  refine zR_next hf ?_
  have e : (zv L s).2.2 a = .inr (ci, zfs s a ci) := g1
  simp only [zx]
  rw [if_neg (by omega), e]
  have hb : Nat.blt b (zfs s a ci).length = true := by rw [zfs_len, Nat.blt_eq]; exact h3
  simp only [zkO, zgO, g2, hb, Nat.beq_refl, Bool.and_self, if_true, List.getD_eq_getElem?_getD, zfs_get s h3, Option.getD_some]
  rw [← List.getD_eq_getElem?_getD, ← List.getD_eq_getElem?_getD, if_neg h5]
theorem v_putI {a ci b : Nat} {q : Int32} (hf : zf k pc = some (.putfield v, x, ci, b, iv)) (hk : zgk a ci b = 1) : zR d k pc ls (.int q :: .ref a :: r) (zv L s) Q = zR d k (pc + 3) ls r (zv L (zU s.1 a b q, s.2)) Q := by
  obtain ⟨h1, h2, h3, h4⟩ := zgk_of (by rw [hk]; decide)
  have h5 : (zkt.getD ci []).getD b 2 = 0 := by
    rcases h4 with q | q
    · exact q.1
    · rw [hk] at q; cases q.2
  obtain ⟨g1, g2, g3⟩ := zcell_obj h1 h2 L s
  obtain ⟨e1, -, -⟩ := zcell_obj h1 h2 L (zU s.1 a b q, s.2)
  refine zR_next hf ?_
  have e : (zv L s).2.2 a = .inr (ci, zfs s a ci) := g1
  simp only [zx]
  rw [e]
  have hb : Nat.blt b (zfs s a ci).length = true := by rw [zfs_len, Nat.blt_eq]; exact h3
  simp only [zkO, zsO, zfits, g2, hb, h5, Nat.beq_refl, Bool.and_self, if_true]
  rw [zu_view (L := L) (a := a) (s := s) (t := (zU s.1 a b q, s.2)) ?_ (fun p hp => zcell_other (zU_other _ _ _ hp).symm rfl)]
  rw [e1]
  congr 2
  apply List.ext_getElem?
  intro j
  by_cases hj : j < (zkt.getD ci []).length
  · rw [List.getElem?_set, zfs_get _ hj]
    by_cases hbj : b = j
    · subst hbj
      rw [if_pos rfl, if_pos h5, if_pos (by rw [zfs_len]; exact h3)]
      simp [zU]
    · rw [if_neg hbj, zfs_get _ hj]
      simp [zU, Ne.symm hbj]
  · rw [List.getElem?_eq_none (by rw [zfs_len]; omega), List.getElem?_eq_none (by rw [List.length_set, zfs_len]; omega)]
theorem v_aald {a : Nat} {i : Int32} (hf : zf k pc = some (.aaload, x, y, z, iv)) (hi : zin i (zar a) = true) : zR d k pc ls (.int i :: .ref a :: r) (zv L s) Q = zR d k (pc + 1) ls (.ref (zra a i.toNatClampNeg) :: r) (zv L s) Q := by
  obtain ⟨⟨u, hu, h1⟩, h2, h3⟩ := zar_of (Nat.lt_of_le_of_lt (Nat.zero_le _) (zin_lt hi).1) rfl L s
  have e : (zv L s).2.2 a = .inl (u, zar a, .inr (.inr (zrr a))) := h1
  have h4 := h3 _ (zin_lt hi).1
  have h8 : Nat.ble 8 (zra a i.toNatClampNeg) = true := by
    rw [Nat.ble_eq]
    unfold zra
    cases Nat.beq a 10 <;> cases Nat.beq a 42 <;> simp only [cond_true, cond_false] <;> omega
  refine zR_next hf ?_
  simp only [zx]
  rw [e]
  rcases hu with rfl | rfl <;> simp [zkA, zgA, h2, hi, h4, h8]
theorem v_ild0 {i : Int32} (hf : zf k pc = some (.iaload, x, y, z, iv)) (hi : zin i L = true) : zR d k pc ls (.int i :: .ref 0 :: r) (zv L s) Q = zR d k (pc + 1) ls (.int (s.1 0 i.toNatClampNeg) :: r) (zv L s) Q := by
  have e : (zv L s).2.2 0 = .inl (0, L, .inl (s.1 0)) := rfl
  refine zR_next hf ?_
  simp only [zx]
  rw [e]
  simp [zkI, zgI, hi]
theorem v_ildo {a : Nat} {g : Nat → Int32} {i : Int32} (ha : a ≤ 4) (h0 : a ≠ 0) (hg : zocI (zhX.2.2 a) 0 g = true) (hf : zf k pc = some (.iaload, x, y, z, iv)) (hi : zin i 6 = true) : zR d k pc ls (.int i :: .ref a :: r) (zv L s) Q = zR d k (pc + 1) ls (.int (g i.toNatClampNeg) :: r) (zv L s) Q := by
  obtain ⟨f, h1, h2⟩ := zocI_of hg
  have e : (zv L s).2.2 a = .inl (0, 6, .inl f) := (zcell_old (by omega) h0 L s).trans h1
  have ha2 : Nat.ble a 4 = true := by rw [Nat.ble_eq]; exact ha
  refine zR_next hf ?_
  simp only [zx]
  rw [e]
  simp [zkI, zgI, hi, ha2, h2 _ (zin_lt hi).1]
theorem v_ild1 {i : Int32} (hf : zf k pc = some (.iaload, x, y, z, iv)) (hi : zin i 6 = true) : zR d k pc ls (.int i :: .ref 1 :: r) (zv L s) Q = zR d k (pc + 1) ls (.int (zo1 i.toNatClampNeg) :: r) (zv L s) Q := v_ildo (by decide) (by decide) (by have := zold_ok; simp only [Bool.and_eq_true] at this; exact this.1.1.1.1) hf hi
theorem v_ild3 {i : Int32} (hf : zf k pc = some (.iaload, x, y, z, iv)) (hi : zin i 6 = true) : zR d k pc ls (.int i :: .ref 3 :: r) (zv L s) Q = zR d k (pc + 1) ls (.int (zo3 i.toNatClampNeg) :: r) (zv L s) Q := v_ildo (by decide) (by decide) (by have := zold_ok; simp only [Bool.and_eq_true] at this; exact this.1.1.2) hf hi
theorem v_ild4 {i : Int32} (hf : zf k pc = some (.iaload, x, y, z, iv)) (hi : zin i 6 = true) : zR d k pc ls (.int i :: .ref 4 :: r) (zv L s) Q = zR d k (pc + 1) ls (.int (zo4 i.toNatClampNeg) :: r) (zv L s) Q := v_ildo (by decide) (by decide) (by have := zold_ok; simp only [Bool.and_eq_true] at this; exact this.1.2) hf hi
theorem v_lld2 {i : Int32} (hf : zf k pc = some (.laload, x, y, z, iv)) (hi : zin i 6 = true) : zR d k pc ls (.int i :: .ref 2 :: r) (zv L s) Q = zR d k (pc + 1) ls (.long (zo2 i.toNatClampNeg) :: r) (zv L s) Q := by
  obtain ⟨f, h1, h2⟩ := zocJ_of (g := zo2) (c := zhX.2.2 2) (by have := zold_ok; simp only [Bool.and_eq_true] at this; exact this.1.1.1.2)
  have e : (zv L s).2.2 2 = .inl (1, 6, .inr (.inl f)) := (zcell_old (by decide) (by decide) L s).trans h1
  refine zR_next hf ?_
  simp only [zx]
  rw [e]
  simp [zkJ, zgJ, hi, h2 _ (zin_lt hi).1]
theorem v_bld6 {i : Int32} (hf : zf k pc = some (.baload, x, y, z, iv)) (hi : zin i 6 = true) : zR d k pc ls (.int i :: .ref 6 :: r) (zv L s) Q = zR d k (pc + 1) ls (.int (zo6 i.toNatClampNeg) :: r) (zv L s) Q := by
  obtain ⟨f, h1, h2⟩ := zocI_of (g := zo6) (u := 4) (c := zhX.2.2 6) (by have := zold_ok; simp only [Bool.and_eq_true] at this; exact this.2)
  have e : (zv L s).2.2 6 = .inl (4, 6, .inl f) := (zcell_old (by decide) (by decide) L s).trans h1
  refine zR_next hf ?_
  simp only [zx]
  rw [e]
  simp [zkI, zgI, hi, h2 _ (zin_lt hi).1]
theorem v_len6 (hf : zf k pc = some (.arraylength, x, y, z, iv)) : zR d k pc ls (.ref 6 :: r) (zv L s) Q = zR d k (pc + 1) ls (.int 6 :: r) (zv L s) Q := by
  obtain ⟨f, h1, h2⟩ := zocI_of (g := zo6) (u := 4) (c := zhX.2.2 6) (by have := zold_ok; simp only [Bool.and_eq_true] at this; exact this.2)
  have e : (zv L s).2.2 6 = .inl (4, 6, .inl f) := (zcell_old (by decide) (by decide) L s).trans h1
  refine zR_next hf ?_
  simp only [zx]
  rw [e]
  simp [zlen]
theorem v_len0 (hf : zf k pc = some (.arraylength, x, y, z, iv)) : zR d k pc ls (.ref 0 :: r) (zv L s) Q = zR d k (pc + 1) ls (.int (nI L) :: r) (zv L s) Q := by
  have e : (zv L s).2.2 0 = .inl (0, L, .inl (s.1 0)) := rfl
  refine zR_next hf ?_
  simp only [zx]
  rw [e]
  simp [zlen, zisArr, nI]
theorem v_gets {b : Nat} (hf : zf k pc = some (.getfield v, x, 9, b, iv)) : zR d k pc ls (.ref 5 :: r) (zv L s) Q = zR d k (pc + 3) ls ((if b = 0 then .int 0 else .ref 6) :: r) (zv L s) Q := zR_next hf (by simp [zx])
theorem v_len {a n : Nat} (hf : zf k pc = some (.arraylength, x, y, z, iv)) (h0 : 0 < n) (ha : zan a = n) : zR d k pc ls (.ref a :: r) (zv L s) Q = zR d k (pc + 1) ls (.int (nI n) :: r) (zv L s) Q := by
  obtain ⟨h1, h2, h3, -⟩ := zan_of (by omega) ha L s
  have e : (zv L s).2.2 a = .inl (0, n, .inl (s.1 a)) := h1
  refine zR_next hf ?_
  simp only [zx]
  rw [e]
  simp [zlen, zisArr, nI, h2]
theorem v_copy {a b : Nat} {sp dp n : Int32} (hf : zf k pc = some (.invokestatic v, x, 1001, z, iv)) (h1 : ¬ sp < 0) (h2 : ¬ dp < 0) (h3 : ¬ n < 0) (h4 : sp.toNatClampNeg + n.toNatClampNeg ≤ zan a) (h5 : dp.toNatClampNeg + n.toNatClampNeg ≤ zan b) (ha : 0 < zan a) (hb : 0 < zan b) (hc : zcs r ≤ 8) : zR d k pc ls (.int n :: .int dp :: .ref b :: .int sp :: .ref a :: r) (zv L s) Q = zR d k (pc + 3) ls r (zv L (zcpy s.1 a b sp.toNatClampNeg dp.toNatClampNeg n.toNatClampNeg, s.2)) Q := by
  obtain ⟨a1, a2, a3, -⟩ := zan_of ha rfl L s
  obtain ⟨b1, b2, b3, -⟩ := zan_of hb rfl L s
  obtain ⟨g1, -⟩ := zan_of hb rfl L (zcpy s.1 a b sp.toNatClampNeg dp.toNatClampNeg n.toNatClampNeg, s.2)
  have ea : (zv L s).2.2 a = .inl (0, zan a, .inl (s.1 a)) := a1
  have eb : (zv L s).2.2 b = .inl (0, zan b, .inl (s.1 b)) := b1
  have k4 : Nat.ble (sp.toNatClampNeg + n.toNatClampNeg) (zan a) = true := by rw [Nat.ble_eq]; exact h4
  have k5 : Nat.ble (dp.toNatClampNeg + n.toNatClampNeg) (zan b) = true := by rw [Nat.ble_eq]; exact h5
  have k6 : Nat.ble (zcs r) 8 = true := by rw [Nat.ble_eq]; exact hc
  refine zR_next hf ?_
  simp only [zx, if_true]
  rw [ea, eb]
  simp only [a2, b2, h1, h2, h3, decide_false, Bool.not_false, Bool.and_self, k4, k5, k6, if_true]
  rw [zu_view (L := L) (a := b) (s := s) (t := (zcpy s.1 a b sp.toNatClampNeg dp.toNatClampNeg n.toNatClampNeg, s.2)) (c := .inl (0, zan b, .inl (va_cpy (s.1 a) (s.1 b) sp.toNatClampNeg dp.toNatClampNeg n.toNatClampNeg))) (by
    rw [g1]
    congr 4
    funext q
    show (if b = b then _ else _) = _
    rw [if_pos rfl]) (fun p hp => zcell_other (by
    funext q
    show _ = (if p = b then _ else _)
    rw [if_neg hp]) rfl)]
end ZV
/-- the ints and longs that the constructors leave -/
def zci (c : zC) (j : Nat) : Int32 := match c with
  | .inl (_, _, .inl f) => f j
  | .inr (_, fs) => match fs.getD j .null with
    | .int x => x
    | _ => 0
  | _ => 0
noncomputable def zs0 (xs : Nat → Int32) : zG := (fun a j => if a = 0 then xs j else zci (zhX.2.2 a) j, fun a j => zgJ (zhX.2.2 a) j)
theorem zhX_view (L : Nat) (xs : Nat → Int32) : zJ (.inl (0, L, .inl xs)) zhX = zv L (zs0 xs) := by
  refine Prod.ext zhX_n.1 (Prod.ext zhX_n.2 (funext fun a => ?_))
  show (if a = 0 then .inl (0, L, .inl xs) else zhX.2.2 a) = zcell L (zs0 xs) a
  unfold zcell
  by_cases h0 : a = 0
  · rw [if_pos h0, if_pos h0]
    rfl
  · rw [if_neg h0, if_neg h0]
    by_cases h99 : (zwa a).1 = 99
    · rw [h99]
      rfl
    · have hs := zsh_at h99
      unfold zsh at hs
      have e1 : (zs0 xs).1 a = zci (zhX.2.2 a) := by
        funext j
        show (if a = 0 then _ else _) = _
        rw [if_neg h0]
      have e2 : (zs0 xs).2 a = zgJ (zhX.2.2 a) := rfl
      split at hs
      · rename_i n f ec
        simp only [Bool.and_eq_true] at hs
        rw [Nat.eq_of_beq_eq_true hs.1]
        show zhX.2.2 a = .inl (0, (zwa a).2, .inl ((zs0 xs).1 a))
        rw [e1, ec, Nat.eq_of_beq_eq_true hs.2]
        rfl
      · rename_i n f ec
        simp only [Bool.and_eq_true] at hs
        rw [Nat.eq_of_beq_eq_true hs.1]
        show zhX.2.2 a = .inl (1, (zwa a).2, .inr (.inl ((zs0 xs).2 a)))
        rw [e2, ec, Nat.eq_of_beq_eq_true hs.2]
        rfl
      · rename_i n f ec
        simp only [Bool.and_eq_true] at hs
        rw [Nat.eq_of_beq_eq_true hs.1.1]
        show zhX.2.2 a = .inl (2, (zwa a).2, .inr (.inr (zrr a)))
        unfold zrr
        rw [ec, Nat.eq_of_beq_eq_true hs.1.2]
        rfl
      · rename_i n f ec
        simp only [Bool.and_eq_true] at hs
        rw [Nat.eq_of_beq_eq_true hs.1.1]
        show zhX.2.2 a = .inl (3, (zwa a).2, .inr (.inr (zrr a)))
        unfold zrr
        rw [ec, Nat.eq_of_beq_eq_true hs.1.2]
        rfl
      · rename_i ci fs ec
        simp only [Bool.and_eq_true, Nat.blt_eq] at hs
        obtain ⟨⟨⟨k1, k2⟩, k3⟩, k4⟩ := hs
        have k1 := Nat.eq_of_beq_eq_true k1
        have k3 := Nat.eq_of_beq_eq_true k3
        have e3 : zfs (zs0 xs) a ci = fs := by
          apply List.ext_getElem?
          intro b
          by_cases hb : b < (zkt.getD ci []).length
          · have hb2 : b < fs.length := by omega
            rw [zfs_get _ hb]
            have k5 := List.all_eq_true.mp k4 b (List.mem_range.mpr hb2)
            have e4 : fs[b]? = some (fs.getD b .null) := by
              rw [List.getD_eq_getElem?_getD, List.getElem?_eq_getElem hb2]
              rfl
            rw [e4]
            by_cases hq : (zkt.getD ci []).getD b 2 = 0
            · rw [if_pos hq] at k5 ⊢
              rw [e1, ec]
              unfold zci
              dsimp only
              generalize fs.getD b .null = w at k5
              cases w <;> first | rfl | cases k5
            · rw [if_neg hq] at k5 ⊢
              rw [of_decide_eq_true k5]
          · rw [List.getElem?_eq_none (by rw [zfs_len]; omega), List.getElem?_eq_none (by omega)]
        rw [ec, k1]
        split
        · omega
        · omega
        · omega
        · omega
        · omega
        · rw [e3]
      · cases hs
