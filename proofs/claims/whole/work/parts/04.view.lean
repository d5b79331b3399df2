/-! THE VIEW: the heap behind both constructors, out of numbers alone: s.1 a j is the int at place j of the cell a, s.2 a j the long; what refers to what never changes -/
abbrev zG : Type := (Nat → Nat → Int32) × (Nat → Nat → Int64)
def zw : List (Nat × Nat) := [(7, 0), (5, 0), (13, 8), (10, 40), (10, 40), (10, 40), (10, 40), (10, 40), (10, 40), (10, 40), (10, 40), (10, 8), (10, 8), (6, 0), (10, 100), (4, 0), (10, 6), (10, 5), (10, 5), (10, 5), (10, 5), (10, 5), (10, 12), (10, 12), (4, 0), (10, 6), (10, 5), (10, 5), (10, 5), (10, 5), (10, 5), (10, 12), (10, 12), (0, 0), (12, 24), (4, 0), (10, 6), (10, 5), (10, 5), (10, 5), (10, 5), (10, 5), (10, 12), (10, 12), (4, 0), (10, 6), (10, 5), (10, 5), (10, 5), (10, 5), (10, 5), (10, 12), (10, 12), (4, 0), (10, 6), (10, 5), (10, 5), (10, 5), (10, 5), (10, 5), (10, 12), (10, 12), (4, 0), (10, 6), (10, 5), (10, 5), (10, 5), (10, 5), (10, 5), (10, 12), (10, 12), (4, 0), (10, 6), (10, 5), (10, 5), (10, 5), (10, 5), (10, 5), (10, 12), (10, 12), (4, 0), (10, 6), (10, 5), (10, 5), (10, 5), (10, 5), (10, 5), (10, 12), (10, 12), (4, 0), (10, 6), (10, 5), (10, 5), (10, 5), (10, 5), (10, 5), (10, 12), (10, 12), (4, 0), (10, 6), (10, 5), (10, 5), (10, 5), (10, 5), (10, 5), (10, 12), (10, 12), (4, 0), (10, 6), (10, 5), (10, 5), (10, 5), (10, 5), (10, 5), (10, 12), (10, 12), (4, 0), (10, 6), (10, 5), (10, 5), (10, 5), (10, 5), (10, 5), (10, 12), (10, 12), (4, 0), (10, 6), (10, 5), (10, 5), (10, 5), (10, 5), (10, 5), (10, 12), (10, 12), (4, 0), (10, 6), (10, 5), (10, 5), (10, 5), (10, 5), (10, 5), (10, 12), (10, 12), (4, 0), (10, 6), (10, 5), (10, 5), (10, 5), (10, 5), (10, 5), (10, 12), (10, 12), (4, 0), (10, 6), (10, 5), (10, 5), (10, 5), (10, 5), (10, 5), (10, 12), (10, 12), (4, 0), (10, 6), (10, 5), (10, 5), (10, 5), (10, 5), (10, 5), (10, 12), (10, 12), (4, 0), (10, 6), (10, 5), (10, 5), (10, 5), (10, 5), (10, 5), (10, 12), (10, 12), (4, 0), (10, 6), (10, 5), (10, 5), (10, 5), (10, 5), (10, 5), (10, 12), (10, 12), (4, 0), (10, 6), (10, 5), (10, 5), (10, 5), (10, 5), (10, 5), (10, 12), (10, 12), (4, 0), (10, 6), (10, 5), (10, 5), (10, 5), (10, 5), (10, 5), (10, 12), (10, 12), (4, 0), (10, 6), (10, 5), (10, 5), (10, 5), (10, 5), (10, 5), (10, 12), (10, 12), (4, 0), (10, 6), (10, 5), (10, 5), (10, 5), (10, 5), (10, 5), (10, 12), (10, 12), (4, 0), (10, 6), (10, 5), (10, 5), (10, 5), (10, 5), (10, 5), (10, 12), (10, 12), (4, 0), (10, 6), (10, 5), (10, 5), (10, 5), (10, 5), (10, 5), (10, 12), (10, 12), (4, 0), (10, 6), (10, 5), (10, 5), (10, 5), (10, 5), (10, 5), (10, 12), (10, 12), (12, 2), (3, 0), (11, 12), (11, 12), (10, 12), (10, 12), (2, 0), (10, 12), (10, 57), (10, 57), (11, 57), (10, 3), (10, 3), (1, 0), (10, 16), (4, 0), (10, 6), (10, 5), (10, 5), (10, 5), (10, 5), (10, 5), (10, 12), (10, 12), (4, 0), (10, 6), (10, 5), (10, 5), (10, 5), (10, 5), (10, 5), (10, 12), (10, 12), (8, 0), (10, 89), (10, 8), (10, 8), (10, 320), (10, 100), (10, 40), (10, 89), (10, 1848), (10, 12), (10, 57), (10, 57), (11, 57), (10, 3), (10, 178), (10, 16)]
def zwa (a : Nat) : Nat × Nat := if a < 8 then (99, 0) else zw.getD (a - 8) (99, 0)
def zrs : List ((Nat × Nat) × Nat) := [((8, 0), 9), ((8, 1), 21), ((8, 2), 23), ((8, 3), 32), ((8, 4), 41), ((8, 5), 259), ((8, 6), 260), ((8, 7), 265), ((8, 8), 272), ((9, 0), 10), ((9, 1), 19), ((9, 2), 20), ((21, 0), 22), ((41, 0), 42), ((260, 0), 23), ((260, 1), 261), ((260, 2), 262), ((260, 3), 263), ((260, 4), 264), ((265, 0), 23), ((265, 1), 260), ((265, 2), 266), ((265, 3), 267), ((265, 4), 268), ((265, 5), 269), ((265, 7), 270), ((265, 8), 271), ((272, 0), 23), ((272, 1), 273), ((292, 0), 293), ((292, 1), 294), ((292, 2), 295), ((292, 3), 296), ((292, 5), 297), ((292, 8), 298), ((292, 14), 299), ((292, 15), 300), ((292, 17), 301), ((292, 18), 302), ((292, 19), 303), ((292, 20), 304), ((292, 22), 305), ((292, 23), 306), ((292, 24), 307)]
def zrl (a b : Nat) : List ((Nat × Nat) × Nat) → Nat
  | [] => 0
  | e :: l => bif Nat.beq e.1.1 a && Nat.beq e.1.2 b then e.2 else zrl a b l
def zrf (a b : Nat) : Nat := bif Nat.beq (zwa a).1 4 then a + b - 5 else zrl a b zrs
def zra (a i : Nat) : Nat := bif Nat.beq a 10 then 11 + i else bif Nat.beq a 42 then 43 + 9 * i else 274 + 9 * i
def zo1 (j : Nat) : Int32 := [(-1), 0, 1, 1, 0, 4].getD j 0
def zo2 (j : Nat) : Int64 := [(-6148914691236517206), (-3689348814741910324), (-1085102592571150096), (-71777214294589696), (-281470681808896), (-4294967296)].getD j 0
def zo3 (j : Nat) : Int32 := [10, 11, 12, 0, 13, 14].getD j 0
def zo4 (j : Nat) : Int32 := [20, 21, 24, 22, 23, 0].getD j 0
def zo6 (j : Nat) : Int32 := [46, 119, 108, 97, 111, 105].getD j 0
def zold (L : Nat) (xs : Nat → Int32) (a : Nat) : zC := match a with
  | 0 => .inl (0, L, .inl xs)
  | 1 => .inl (0, 6, .inl zo1)
  | 2 => .inl (1, 6, .inr (.inl zo2))
  | 3 => .inl (0, 6, .inl zo3)
  | 4 => .inl (0, 6, .inl zo4)
  | 5 => .inr (9, [.int 0, .ref 6])
  | 6 => .inl (4, 6, .inl zo6)
  | _ => .inr (99, [])
def zfs (s : zG) (a ci : Nat) : List Value := (List.range (zkt.getD ci []).length).map (fun b => if (zkt.getD ci []).getD b 2 = 0 then .int (s.1 a b) else .ref (zrf a b))
def zcell (L : Nat) (s : zG) (a : Nat) : zC := if a < 8 then zold L (s.1 0) a else match (zwa a).1 with
  | 10 => .inl (0, (zwa a).2, .inl (s.1 a))
  | 11 => .inl (1, (zwa a).2, .inr (.inl (s.2 a)))
  | 12 => .inl (2, (zwa a).2, .inr (.inr (fun i => if i < (zwa a).2 then some (zra a i) else none)))
  | 13 => .inl (3, (zwa a).2, .inr (.inr (fun i => if i < (zwa a).2 then some (zra a i) else none)))
  | ci => .inr (ci, zfs s a ci)
def zv (L : Nat) (s : zG) : zH := (300, 5604, zcell L s)
def zU (f : Nat → Nat → Int32) (a b : Nat) (x : Int32) : Nat → Nat → Int32 := fun p q => if p = a ∧ q = b then x else f p q
def zUl (f : Nat → Nat → Int64) (a b : Nat) (x : Int64) : Nat → Nat → Int64 := fun p q => if p = a ∧ q = b then x else f p q
/-- lengths: of ints, of longs, of references; 0 where it is none -/
def zan (a : Nat) : Nat := match zwa a with
  | (10, n) => n
  | _ => 0
def zaj (a : Nat) : Nat := match zwa a with
  | (11, n) => n
  | _ => 0
def zar (a : Nat) : Nat := match zwa a with
  | (12, n) => n
  | (13, n) => n
  | _ => 0
/-- is it an object of that number with such a field: 1 a number, 2 a reference -/
def zgk (a ci b : Nat) : Nat := if (zwa a).1 = ci ∧ ci < 9 then (if (zkt.getD ci []).getD b 2 = 0 then 1 else if (zkt.getD ci []).getD b 2 = 1 then 2 else 0) else 0
theorem zin_lt {i : Int32} {n : Nat} (h : zin i n = true) : i.toNatClampNeg < n ∧ ¬ i < 0 := by
  simp only [zin, Bool.not_eq_true', Bool.or_eq_false_iff, decide_eq_false_iff_not] at h
  exact ⟨by omega, h.1⟩
theorem zin_nI {j n : Nat} (h : j < n) (hn : n < 2 ^ 31) : zin (nI j) n = true := by
  have h1 := nI_pos (n := j) (by omega)
  have h2 := nI_clamp (n := j) (by omega)
  simp [zin, h1, h2, h]
theorem znew_of {a : Nat} {L : Nat} {s : zG} (h : (zwa a).1 ≠ 99) : znew (zv L s) a = true ∧ ¬ a < 8 := by
  have h8 : ¬ a < 8 := fun q => h (by simp [zwa, q])
  refine ⟨?_, h8⟩
  have h2 : a - 8 < zw.length := by
    rcases Nat.lt_or_ge (a - 8) zw.length with q | q
    · exact q
    · exfalso
      apply h
      simp only [zwa, if_neg h8]
      rw [List.getD_eq_getElem?_getD, List.getElem?_eq_none q]
      rfl
  have h3 : zw.length = 300 := by decide +kernel
  simp only [znew, zv, Bool.and_eq_true, Nat.ble_eq, Nat.blt_eq]
  omega
theorem zan_of {a n : Nat} (h : 0 < zan a) (e : zan a = n) (L : Nat) (s : zG) : zcell L s a = .inl (0, n, .inl (s.1 a)) ∧ znew (zv L s) a = true ∧ ¬ a < 8 ∧ zwa a = (10, n) := by
  have hw : zwa a = (10, n) := by
    unfold zan at h e
    split at h
    · rename_i m hm
      rw [hm] at e
      have e2 : m = n := e
      rw [hm, e2]
    · cases h
  have h8 := znew_of (a := a) (L := L) (s := s) (by rw [hw]; show (10 : Nat) ≠ 99; decide)
  exact ⟨by simp [zcell, h8.2, hw], h8.1, h8.2, hw⟩
theorem zaj_of {a n : Nat} (h : 0 < zaj a) (e : zaj a = n) (L : Nat) (s : zG) : zcell L s a = .inl (1, n, .inr (.inl (s.2 a))) ∧ znew (zv L s) a = true ∧ ¬ a < 8 ∧ zwa a = (11, n) := by
  have hw : zwa a = (11, n) := by
    unfold zaj at h e
    split at h
    · rename_i m hm
      rw [hm] at e
      have e2 : m = n := e
      rw [hm, e2]
    · cases h
  have h8 := znew_of (a := a) (L := L) (s := s) (by rw [hw]; show (11 : Nat) ≠ 99; decide)
  exact ⟨by simp [zcell, h8.2, hw], h8.1, h8.2, hw⟩
theorem zU_row (f : Nat → Nat → Int32) (a b : Nat) (x : Int32) : zU f a b x a = upd (f a) b x := by
  funext q
  simp [zU, upd]
theorem zU_other (f : Nat → Nat → Int32) {a p : Nat} (b : Nat) (x : Int32) (h : p ≠ a) : zU f a b x p = f p := by
  funext q
  simp [zU, h]
theorem zUl_row (f : Nat → Nat → Int64) (a b : Nat) (x : Int64) : zUl f a b x a = vp_updL (f a) b x := by
  funext q
  simp [zUl, vp_updL]
theorem zUl_other (f : Nat → Nat → Int64) {a p : Nat} (b : Nat) (x : Int64) (h : p ≠ a) : zUl f a b x p = f p := by
  funext q
  simp [zUl, h]
theorem zcell_other {L : Nat} {s t : zG} {a : Nat} (h1 : s.1 a = t.1 a) (h2 : s.2 a = t.2 a) (h0 : a < 8 → s.1 0 = t.1 0) : zcell L s a = zcell L t a := by
  unfold zcell
  by_cases h8 : a < 8
  · rw [if_pos h8, if_pos h8, h0 h8]
  · rw [if_neg h8, if_neg h8, h1, h2]
    unfold zfs
    rw [h1]
theorem zu_view {L a : Nat} {s t : zG} {c : zC} (h1 : zcell L t a = c) (h2 : ∀ p, p ≠ a → zcell L s p = zcell L t p) : zu (zv L s) a c = zv L t := by
  refine Prod.ext rfl (Prod.ext rfl (funext fun p => ?_))
  show (if p = a then c else zcell L s p) = zcell L t p
  by_cases hp : p = a
  · rw [if_pos hp, hp, h1]
  · rw [if_neg hp, h2 p hp]
section ZV
variable {d k pc : Nat} {ls : zL} {r : List Value} {L : Nat} {s : zG} {Q : Option Value → zH → Prop} {x y z v w : Nat} {iv : Int}
theorem v_iald {a : Nat} {i : Int32} (hf : zf k pc = some (.iaload, x, y, z, iv)) (hi : zin i (zan a) = true) : zR d k pc ls (.int i :: .ref a :: r) (zv L s) Q = zR d k (pc + 1) ls (.int (s.1 a i.toNatClampNeg) :: r) (zv L s) Q := by
  obtain ⟨h1, h2, h3, -⟩ := zan_of (Nat.lt_of_le_of_lt (Nat.zero_le _) (zin_lt hi).1) rfl L s
  refine zR_next hf ?_
  have e : (zv L s).2.2 a = .inl (0, zan a, .inl (s.1 a)) := h1
  simp only [zx]
  rw [e]
  simp [zkI, zgI, h2, hi]
theorem v_lald {a : Nat} {i : Int32} (hf : zf k pc = some (.laload, x, y, z, iv)) (hi : zin i (zaj a) = true) : zR d k pc ls (.int i :: .ref a :: r) (zv L s) Q = zR d k (pc + 1) ls (.long (s.2 a i.toNatClampNeg) :: r) (zv L s) Q := by
  obtain ⟨h1, h2, h3, -⟩ := zaj_of (Nat.lt_of_le_of_lt (Nat.zero_le _) (zin_lt hi).1) rfl L s
  refine zR_next hf ?_
  have e : (zv L s).2.2 a = .inl (1, zaj a, .inr (.inl (s.2 a))) := h1
  simp only [zx]
  rw [e]
  simp [zkJ, zgJ, h2, hi]
theorem v_iast {a : Nat} {i q : Int32} (hf : zf k pc = some (.iastore, x, y, z, iv)) (hi : zin i (zan a) = true) : zR d k pc ls (.int q :: .int i :: .ref a :: r) (zv L s) Q = zR d k (pc + 1) ls r (zv L (zU s.1 a i.toNatClampNeg q, s.2)) Q := by
  obtain ⟨h1, h2, h3, h4⟩ := zan_of (Nat.lt_of_le_of_lt (Nat.zero_le _) (zin_lt hi).1) rfl L s
  obtain ⟨g1, -⟩ := zan_of (Nat.lt_of_le_of_lt (Nat.zero_le _) (zin_lt hi).1) rfl L (zU s.1 a i.toNatClampNeg q, s.2)
  have e : (zv L s).2.2 a = .inl (0, zan a, .inl (s.1 a)) := h1
  refine zR_next hf ?_
  simp only [zx]
  rw [e]
  simp only [zkI, zsI, h2, hi, Nat.beq_refl, Bool.and_self, if_true]
  rw [zu_view (L := L) (a := a) (s := s) (t := (zU s.1 a i.toNatClampNeg q, s.2)) (c := .inl (0, zan a, .inl (upd (s.1 a) i.toNatClampNeg q))) (by rw [g1]; dsimp only; rw [zU_row]) (fun p hp => zcell_other (zU_other _ _ _ hp).symm rfl (fun _ => (zU_other _ _ _ (by omega)).symm))]
theorem v_last {a : Nat} {i : Int32} {q : Int64} (hf : zf k pc = some (.lastore, x, y, z, iv)) (hi : zin i (zaj a) = true) : zR d k pc ls (.long q :: .int i :: .ref a :: r) (zv L s) Q = zR d k (pc + 1) ls r (zv L (s.1, zUl s.2 a i.toNatClampNeg q)) Q := by
  obtain ⟨h1, h2, h3, h4⟩ := zaj_of (Nat.lt_of_le_of_lt (Nat.zero_le _) (zin_lt hi).1) rfl L s
  obtain ⟨g1, -⟩ := zaj_of (Nat.lt_of_le_of_lt (Nat.zero_le _) (zin_lt hi).1) rfl L (s.1, zUl s.2 a i.toNatClampNeg q)
  have e : (zv L s).2.2 a = .inl (1, zaj a, .inr (.inl (s.2 a))) := h1
  refine zR_next hf ?_
  simp only [zx]
  rw [e]
  simp only [zkJ, zsJ, h2, hi, Nat.beq_refl, Bool.and_self, if_true]
  rw [zu_view (L := L) (a := a) (s := s) (t := (s.1, zUl s.2 a i.toNatClampNeg q)) (c := .inl (1, zaj a, .inr (.inl (vp_updL (s.2 a) i.toNatClampNeg q)))) (by rw [g1]; dsimp only; rw [zUl_row]) (fun p hp => zcell_other rfl (zUl_other _ _ _ hp).symm (fun _ => rfl))]
theorem zgk_of {a ci b : Nat} (h : zgk a ci b ≠ 0) : (zwa a).1 = ci ∧ ci < 9 ∧ b < (zkt.getD ci []).length ∧ ((zkt.getD ci []).getD b 2 = 0 ∧ zgk a ci b = 1 ∨ (zkt.getD ci []).getD b 2 = 1 ∧ zgk a ci b = 2) := by
  unfold zgk at h ⊢
  by_cases h1 : (zwa a).1 = ci ∧ ci < 9
  · rw [if_pos h1] at h ⊢
    have hb : (zkt.getD ci []).getD b 2 ≠ 2 → b < (zkt.getD ci []).length := fun q => by
      rcases Nat.lt_or_ge b (zkt.getD ci []).length with w | w
      · exact w
      · exact absurd (by rw [List.getD_eq_getElem?_getD, List.getElem?_eq_none w]; rfl) q
    by_cases h2 : (zkt.getD ci []).getD b 2 = 0
    · rw [if_pos h2]
      exact ⟨h1.1, h1.2, hb (by rw [h2]; decide), Or.inl ⟨h2, rfl⟩⟩
    · rw [if_neg h2] at h ⊢
      by_cases h3 : (zkt.getD ci []).getD b 2 = 1
      · rw [if_pos h3]
        exact ⟨h1.1, h1.2, hb (by rw [h3]; decide), Or.inr ⟨h3, rfl⟩⟩
      · rw [if_neg h3] at h
        exact absurd rfl h
  · rw [if_neg h1] at h
    exact absurd rfl h
theorem zcell_obj {a ci : Nat} (h : (zwa a).1 = ci) (hc : ci < 9) (L : Nat) (s : zG) : zcell L s a = .inr (ci, zfs s a ci) ∧ znew (zv L s) a = true ∧ ¬ a < 8 := by
  have h8 := znew_of (a := a) (L := L) (s := s) (by rw [h]; omega)
  refine ⟨?_, h8⟩
  unfold zcell
  rw [if_neg h8.2]
  subst h
  split <;> first | rfl | omega
theorem zfs_len (s : zG) (a ci : Nat) : (zfs s a ci).length = (zkt.getD ci []).length := by simp [zfs]
theorem zfs_get (s : zG) {a ci b : Nat} (hb : b < (zkt.getD ci []).length) : (zfs s a ci)[b]? = some (if (zkt.getD ci []).getD b 2 = 0 then .int (s.1 a b) else .ref (zrf a b)) := by
  simp only [zfs, List.getElem?_map, List.getElem?_range hb, Option.map_some]
theorem v_getI {a ci b : Nat} (hf : zf k pc = some (.getfield v, x, ci, b, iv)) (hk : zgk a ci b = 1) : zR d k pc ls (.ref a :: r) (zv L s) Q = zR d k (pc + 3) ls (.int (s.1 a b) :: r) (zv L s) Q := by
  obtain ⟨h1, h2, h3, h4⟩ := zgk_of (by rw [hk]; decide)
  have h5 : (zkt.getD ci []).getD b 2 = 0 := by
    rcases h4 with q | q
    · exact q.1
    · rw [hk] at q; cases q.2
  obtain ⟨g1, g2, g3⟩ := zcell_obj h1 h2 L s
  refine zR_next hf ?_
  have e : (zv L s).2.2 a = .inr (ci, zfs s a ci) := g1
  simp only [zx]
  rw [if_neg (by omega), e]
  have hb : Nat.blt b (zfs s a ci).length = true := by rw [zfs_len, Nat.blt_eq]; exact h3
  simp only [zkO, zgO, g2, hb, Nat.beq_refl, Bool.and_self, if_true, List.getD_eq_getElem?_getD, zfs_get s h3, Option.getD_some]
  rw [← List.getD_eq_getElem?_getD, ← List.getD_eq_getElem?_getD, if_pos h5]
theorem v_getA {a ci b e : Nat} (hf : zf k pc = some (.getfield v, x, ci, b, iv)) (hk : zgk a ci b = 2) (he : zrf a b = e) : zR d k pc ls (.ref a :: r) (zv L s) Q = zR d k (pc + 3) ls (.ref e :: r) (zv L s) Q := by
  subst he
  obtain ⟨h1, h2, h3, h4⟩ := zgk_of (by rw [hk]; decide)
  have h5 : ¬ (zkt.getD ci []).getD b 2 = 0 := by
    rcases h4 with q | q
    · rw [hk] at q; cases q.2
    · rw [q.1]; decide
  obtain ⟨g1, g2, g3⟩ := zcell_obj h1 h2 L s
  refine zR_next hf ?_
  have e : (zv L s).2.2 a = .inr (ci, zfs s a ci) := g1
  simp only [zx]
  rw [if_neg (by omega), e]
  have hb : Nat.blt b (zfs s a ci).length = true := by rw [zfs_len, Nat.blt_eq]; exact h3
  simp only [zkO, zgO, g2, hb, Nat.beq_refl, Bool.and_self, if_true, List.getD_eq_getElem?_getD, zfs_get s h3, Option.getD_some]
  rw [← List.getD_eq_getElem?_getD, ← List.getD_eq_getElem?_getD, if_neg h5]
theorem v_putI {a ci b : Nat} {q : Int32} (hf : zf k pc = some (.putfield v, x, ci, b, iv)) (hk : zgk a ci b = 1) : zR d k pc ls (.int q :: .ref a :: r) (zv L s) Q = zR d k (pc + 3) ls r (zv L (zU s.1 a b q, s.2)) Q := by
  obtain ⟨h1, h2, h3, h4⟩ := zgk_of (by rw [hk]; decide)
  have h5 : (zkt.getD ci []).getD b 2 = 0 := by
    rcases h4 with q | q
    · exact q.1
    · rw [hk] at q; cases q.2
  obtain ⟨g1, g2, g3⟩ := zcell_obj h1 h2 L s
  obtain ⟨e1, -, -⟩ := zcell_obj h1 h2 L (zU s.1 a b q, s.2)
  refine zR_next hf ?_
  have e : (zv L s).2.2 a = .inr (ci, zfs s a ci) := g1
  simp only [zx]
  rw [e]
  have hb : Nat.blt b (zfs s a ci).length = true := by rw [zfs_len, Nat.blt_eq]; exact h3
  simp only [zkO, zsO, zfits, g2, hb, h5, Nat.beq_refl, Bool.and_self, if_true]
  rw [zu_view (L := L) (a := a) (s := s) (t := (zU s.1 a b q, s.2)) ?_ (fun p hp => zcell_other (zU_other _ _ _ hp).symm rfl (fun _ => (zU_other _ _ _ (by omega)).symm))]
  rw [e1]
  congr 2
  apply List.ext_getElem?
  intro j
  by_cases hj : j < (zkt.getD ci []).length
  · rw [List.getElem?_set, zfs_get _ hj]
    by_cases hbj : b = j
    · subst hbj
      rw [if_pos rfl, if_pos h5, if_pos (by rw [zfs_len]; exact h3)]
      simp [zU]
    · rw [if_neg hbj, zfs_get _ hj]
      simp [zU, Ne.symm hbj]
  · rw [List.getElem?_eq_none (by rw [zfs_len]; omega), List.getElem?_eq_none (by rw [List.length_set, zfs_len]; omega)]
end ZV
