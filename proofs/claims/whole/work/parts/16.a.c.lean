/-! the script's cell is kept; the start's invariant -/
set_option maxHeartbeats 8000000 in
theorem zu_at0 {h : zH} {a : Nat} {c : zC} (ha : a ≠ 0) : (zu h a c).2.2 0 = h.2.2 0 := if_neg (Ne.symm ha)
set_option maxHeartbeats 8000000 in
theorem zpm_at0 (h : zH) (n k : Nat) : (zpm h n k).2.2 0 = h.2.2 0 := by
  show (if 0 = 8 + h.1 then _ else if 8 + h.1 < 0 ∧ 0 < 8 + h.1 + 1 + n then _ else h.2.2 0) = h.2.2 0
  rw [if_neg (by omega), if_neg (by omega)]
set_option maxHeartbeats 8000000 in
theorem zx_K {o : zO} {k pc pc' : Nat} {ls ls' : zL} {st st' : List Value} {h h' : zH} (hz : zx o k pc ls st h = some (.inl (pc', ls', st', h'))) : h'.2.2 0 = h.2.2 0 := by
  obtain ⟨i, len, a, b, iv⟩ := o
  cases i with
  | getfield q =>
    simp only [zx] at hz
    split at hz
    · split at hz
      · split at hz
        · cases hz; rfl
        · cases hz
      · split at hz
        · cases hz; rfl
        · cases hz
    · cases hz
  | putfield q =>
    simp only [zx] at hz
    split at hz
    · split at hz
      · rename_i hk
        cases hz
        exact zu_at0 (znew_0 (Bool.and_eq_true_iff.mp (Bool.and_eq_true_iff.mp hk).1).1)
      · cases hz
    · cases hz
  | iaload =>
    simp only [zx] at hz
    split at hz
    · split at hz
      · cases hz; rfl
      · cases hz
    · cases hz
  | laload =>
    simp only [zx] at hz
    split at hz
    · split at hz
      · cases hz; rfl
      · cases hz
    · cases hz
  | baload =>
    simp only [zx] at hz
    split at hz
    · split at hz
      · cases hz; rfl
      · cases hz
    · cases hz
  | aaload =>
    simp only [zx] at hz
    split at hz
    · split at hz
      · cases hz; rfl
      · cases hz
    · cases hz
  | iastore =>
    simp only [zx] at hz
    split at hz
    · split at hz
      · rename_i hk
        cases hz
        exact zu_at0 (znew_0 (Bool.and_eq_true_iff.mp hk).1)
      · cases hz
    · cases hz
  | lastore =>
    simp only [zx] at hz
    split at hz
    · split at hz
      · rename_i hk
        cases hz
        exact zu_at0 (znew_0 (Bool.and_eq_true_iff.mp hk).1)
      · cases hz
    · cases hz
  | aastore =>
    simp only [zx] at hz
    split at hz
    · split at hz
      · split at hz
        · rename_i hk
          cases hz
          exact zu_at0 (znew_0 (Bool.and_eq_true_iff.mp (Bool.and_eq_true_iff.mp (Bool.and_eq_true_iff.mp hk).1).1).1)
        · cases hz
      · cases hz
    · cases hz
  | arraylength =>
    simp only [zx] at hz
    split at hz
    · split at hz
      · cases hz; rfl
      · cases hz
    · cases hz
  | newarray ty =>
    cases ty <;> simp only [zx, reduceCtorEq] at hz
    all_goals
      split at hz
      · split at hz
        · cases hz
          exact zp_at0 _ _ _
        · cases hz
      · cases hz
  | anewarray q =>
    simp only [zx] at hz
    split at hz
    · split at hz
      · cases hz
        exact zp_at0 _ _ _
      · cases hz
    · cases hz
  | multianewarray q n =>
    simp only [zx] at hz
    split at hz
    · split at hz
      · cases hz
        exact zpm_at0 _ _ _
      · cases hz
    · cases hz
  | new q =>
    simp only [zx] at hz
    cases hz
    exact zp_at0 _ _ _
  | invokestatic q =>
    simp only [zx] at hz
    by_cases c1 : a = 1001
    · rw [if_pos c1] at hz
      split at hz
      · split at hz
        · split at hz
          · rename_i hk
            cases hz
            simp only [Bool.and_eq_true] at hk
            exact zu_at0 (znew_0 hk.1.1.1.1.1.1.2)
          · cases hz
        · cases hz
      · cases hz
    · rw [if_neg c1] at hz
      by_cases c2 : a = 218
      · rw [if_pos c2] at hz
        split at hz
        · split at hz
          · cases hz; rfl
          · cases hz
        · cases hz
      · rw [if_neg c2] at hz
        by_cases c3 : a = 219
        · rw [if_pos c3] at hz
          split at hz
          · split at hz
            · cases hz; rfl
            · cases hz
          · cases hz
        · rw [if_neg c3] at hz
          split at hz
          · unfold zcl at hz
            split at hz
            · cases hz
            · cases hz
          · cases hz
  | invokevirtual q =>
    simp only [zx] at hz
    split at hz
    · split at hz
      · split at hz
        · unfold zcl at hz
          split at hz
          · cases hz
          · cases hz
        · cases hz
      · cases hz
    · cases hz
  | invokespecial q =>
    simp only [zx] at hz
    split at hz
    · split at hz
      · split at hz
        · cases hz; rfl
        · cases hz
      · cases hz
    · split at hz
      · split at hz
        · split at hz
          · cases hz
          · unfold zcl at hz
            split at hz
            · cases hz
            · cases hz
        · cases hz
      · cases hz
  | getstatic q =>
    simp only [zx] at hz
    split at hz
    · cases hz; rfl
    · split at hz
      · cases hz; rfl
      · cases hz
  | tableswitch dflt lo hi offs =>
    simp only [zx] at hz
    split at hz
    · split at hz
      · cases hz; rfl
      · split at hz
        · cases hz; rfl
        · cases hz
    · cases hz
  | _ =>
    simp only [zx, zb, zbl, zbs, zun, reduceCtorEq] at hz
    all_goals first
      | (cases hz; rfl)
      | (cases hz; done)
      | (split at hz <;> first
          | (cases hz; rfl)
          | (cases hz; done)
          | (split at hz <;> first
              | (cases hz; rfl)
              | (cases hz; done)))
set_option maxHeartbeats 8000000 in
theorem zrun_K : ∀ (n : Nat) {d k pc : Nat} {ls : zL} {st : List Value} {h : zH} {v : Option Value} {h' : zH}, zrun n d k pc ls st h = some (v, h') → h'.2.2 0 = h.2.2 0 := by
  intro n
  induction n with
  | zero => intro d k pc ls st h v h' e; cases e
  | succ n ih =>
    intro d k pc ls st h v h' e
    rw [zrun] at e
    cases hf : zf k pc with
    | none => rw [hf] at e; cases e
    | some o =>
      rw [hf] at e
      dsimp only at e
      cases hx : zx o k pc ls st h with
      | none => rw [hx] at e; cases e
      | some w =>
        rw [hx] at e
        rcases w with ⟨pc', ls', st', h1⟩ | q | v1
        · exact (ih e).trans (zx_K hx)
        · cases d with
          | zero => cases e
          | succ d =>
            dsimp only at e
            cases hc : zrun n d q.1 0 (ze q.2.1 0) [] h with
            | none => rw [hc] at e; cases e
            | some w =>
              obtain ⟨v2, h2⟩ := w
              rw [hc] at e
              exact (ih e).trans (ih hc)
        · cases e
          rfl
set_option maxHeartbeats 8000000 in
theorem zR_K {d k pc : Nat} {ls : zL} {st : List Value} {h : zH} {Q R : Option Value → zH → Prop} (hq : zR d k pc ls st h Q) (k2 : ∀ v g, Q v g → g.2.2 0 = h.2.2 0 → R v g) : zR d k pc ls st h R := by
  obtain ⟨n, u, e, q⟩ := hq
  exact ⟨n, u, e, k2 u.1 u.2 q (zrun_K n e)⟩
set_option maxHeartbeats 8000000 in
theorem z_c0 {L : Nat} {s s' : zG} (h : (zv L s').2.2 0 = (zv L s).2.2 0) : s'.1 0 = s.1 0 := by
  have e1 : (zv L s').2.2 0 = .inl (0, L, .inl (s'.1 0)) := rfl
  have e2 : (zv L s).2.2 0 = .inl (0, L, .inl (s.1 0)) := rfl
  rw [e1, e2] at h
  injection h with h
  injection h with _ h
  injection h with _ h
  injection h
/-! what the constructors leave -/
def z0l : List (Nat × Nat × Nat) := [(23, 0, 6), (293, 69, 7), (41, 1, 2), (292, 16, 1), (274, 0, 6), (283, 0, 6), (306, 69, 7), (306, 158, 7), (32, 4, 2), (36, 0, 5), (37, 0, 5), (38, 0, 5), (21, 1, 1), (292, 6, 2), (21, 4, 1), (8, 9, 1), (292, 4, 1), (272, 2, 1), (292, 25, 1), (11, 0, 40), (12, 0, 40), (13, 0, 40), (14, 0, 40), (15, 0, 40), (16, 0, 40), (17, 0, 40), (18, 0, 40), (296, 0, 320)]
def z0k (h : zH) : Bool := z0l.all (fun t => (List.range t.2.2).all (fun j => decide (zci (h.2.2 t.1) (t.2.1 + j) = 0))) && (List.range 8).all (fun r => decide (zci (h.2.2 20) r = -1) && decide (zci (h.2.2 294) r = -1))
set_option maxRecDepth 1000000 in
set_option maxHeartbeats 8000000 in
theorem z0_ok : z0k zhD = true := by decide +kernel
set_option maxHeartbeats 8000000 in
theorem z0_v {xs : Nat → Int32} {a lo n j : Nat} (h : (a, lo, n) ∈ z0l) (ha : a ≠ 0) (hj : lo ≤ j) (hn : j < lo + n) : (zs0 xs).1 a j = nI 0 := by
  have k := z0_ok
  rw [zhX_is] at k
  unfold z0k at k
  rw [Bool.and_eq_true] at k
  have k1 := List.all_eq_true.mp k.1 _ h
  have k2 := of_decide_eq_true (List.all_eq_true.mp k1 (j - lo) (List.mem_range.mpr (by dsimp only; omega)))
  show (if a = 0 then xs j else zci (zhX.2.2 a) j) = nI 0
  rw [if_neg ha]
  dsimp only at k2
  rw [show lo + (j - lo) = j by omega] at k2
  exact k2
set_option maxHeartbeats 8000000 in
theorem z0_m {xs : Nat → Int32} {r : Nat} (hr : r < 8) : (zs0 xs).1 20 r = -nI 1 ∧ (zs0 xs).1 294 r = -nI 1 := by
  have k := z0_ok
  rw [zhX_is] at k
  unfold z0k at k
  rw [Bool.and_eq_true] at k
  have k1 := List.all_eq_true.mp k.2 r (List.mem_range.mpr hr)
  rw [Bool.and_eq_true] at k1
  exact ⟨of_decide_eq_true k1.1, of_decide_eq_true k1.2⟩
def Ab0 : Ab := Ab.mk 0 0 0 0 (nI 0) (nI 0) (fun _ => nI 0) (fun _ => 0) (fun _ => nI 0) (fun _ => nI 0) (fun _ => nI 0) (fun _ => nI 0) (fun _ => 0) (fun _ => 0) (fun _ => 0) (fun _ => 0)
set_option maxHeartbeats 8000000 in
theorem Ab0_ok : Ok Ab0 := Ok.mk (Nat.zero_le 6) (Nat.zero_le 5) (Nat.zero_le 12) (Nat.zero_le 999) ⟨by decide, by decide⟩ (fun i hi => absurd hi (Nat.not_lt_zero i)) (fun i hi => absurd hi (Nat.not_lt_zero i)) (fun i hi => absurd hi (Nat.not_lt_zero i)) (fun i hi => absurd hi (Nat.not_lt_zero i)) (fun i hi => absurd hi (Nat.not_lt_zero i)) (fun i hi => absurd hi (Nat.not_lt_zero i))
set_option maxHeartbeats 8000000 in
theorem Ab0_rc {s : zG} {a : Nat} (h : ∀ j, j < 6 → s.1 a j = nI 0) : RC s a Ab0 := RC.mk (h 0 (by decide)) (h 1 (by decide)) (h 2 (by decide)) (h 3 (by decide)) (h 4 (by decide)) (h 5 (by decide)) (fun i hi => absurd hi (Nat.not_lt_zero i)) (fun i hi => absurd hi (Nat.not_lt_zero i)) (fun i hi => absurd hi (Nat.not_lt_zero i)) (fun i hi => absurd hi (Nat.not_lt_zero i)) (fun i hi => absurd hi (Nat.not_lt_zero i)) (fun i hi => absurd hi (Nat.not_lt_zero i)) (fun i hi => absurd hi (Nat.not_lt_zero i)) (fun i hi => absurd hi (Nat.not_lt_zero i))
set_option maxHeartbeats 8000000 in
theorem Ab0_rm {f : Nat → Int32} (h : ∀ j, 69 ≤ j → j < 76 → f j = nI 0) : RM f Ab0 := RM.mk (RM7.mk (h 69 (by decide) (by decide)) (h 70 (by decide) (by decide)) (h 71 (by decide) (by decide)) (h 72 (by decide) (by decide)) (h 73 (by decide) (by decide)) (h 74 (by decide) (by decide)) (h 75 (by decide) (by decide)) (fun i hi => absurd hi (Nat.not_lt_zero i)) (fun i hi => absurd hi (Nat.not_lt_zero i)) (fun i hi => absurd hi (Nat.not_lt_zero i)) (fun i hi => absurd hi (Nat.not_lt_zero i)) (fun i hi => absurd hi (Nat.not_lt_zero i)) (fun i hi => absurd hi (Nat.not_lt_zero i)) (fun i hi => absurd hi (Nat.not_lt_zero i)) (fun i hi => absurd hi (Nat.not_lt_zero i))) (fun i hi => absurd hi (Nat.not_lt_zero i)) (fun i hi => absurd hi (Nat.not_lt_zero i))
set_option maxHeartbeats 8000000 in
theorem z0_IV (xs : Nat → Int32) : IV (zs0 xs) := by
  refine Iv.x (A := Ab0) (K := 0) (o := 0) (fam := fun _ => Ab0) (im := fun _ => Ab0) (Iv.mk Ab0_ok (Ab0_rc (fun j hj => z0_v (lo := 0) (n := 6) (by decide) (by decide) (by omega) (by omega))) (Ab0_rm (fun j h1 h2 => z0_v (lo := 69) (n := 7) (by decide) (by decide) h1 h2)) ⟨by decide, by decide⟩ (fun i hi => absurd hi (Nat.not_lt_zero i)) ⟨?_, ?_, ?_, fun i hi => absurd hi (Nat.not_lt_zero i), fun i hi => absurd hi (Nat.not_lt_zero i)⟩ (fun k hk => ⟨Ab0_ok, ?_, ?_⟩) ⟨?_, ?_, fun p hp => ⟨?_, ?_, ?_⟩⟩ (fun r hr => ⟨Or.inl (z0_m hr), fun j hj => ?_⟩) ⟨0, by decide, ?_, ?_, fun j hj => absurd hj (Nat.not_lt_zero j)⟩ ?_ ?_ ⟨0, by decide, ?_, ?_, fun j hj => absurd hj (Nat.not_lt_zero j)⟩)
  · exact z0_v (lo := 1) (n := 2) (by decide) (by decide) (by decide) (by decide)
  · exact z0_v (lo := 1) (n := 2) (by decide) (by decide) (by decide) (by decide)
  · exact z0_v (lo := 16) (n := 1) (by decide) (by decide) (by decide) (by decide)
  · refine Ab0_rc (fun j hj => ?_)
    rcases (show k = 0 ∨ k = 1 by omega) with rfl | rfl
    · exact z0_v (a := 274) (lo := 0) (n := 6) (by decide) (by decide) (by omega) (by omega)
    · exact z0_v (a := 283) (lo := 0) (n := 6) (by decide) (by decide) (by omega) (by omega)
  · refine Ab0_rm (fun j h1 h2 => ?_)
    rcases (show k = 0 ∨ k = 1 by omega) with rfl | rfl
    · exact z0_v (lo := 69) (n := 7) (by decide) (by decide) (by omega) (by omega)
    · exact z0_v (lo := 158) (n := 7) (by decide) (by decide) (by omega) (by omega)
  · exact z0_v (lo := 4) (n := 2) (by decide) (by decide) (by decide) (by decide)
  · exact z0_v (lo := 4) (n := 2) (by decide) (by decide) (by decide) (by decide)
  · exact z0_v (lo := 0) (n := 5) (by decide) (by decide) (by omega) (by omega)
  · exact z0_v (lo := 0) (n := 5) (by decide) (by decide) (by omega) (by omega)
  · exact z0_v (lo := 0) (n := 5) (by decide) (by decide) (by omega) (by omega)
  · rw [z0_v (a := 296) (lo := 0) (n := 320) (by decide) (by decide) (by omega) (by omega)]
    rcases (show r = 0 ∨ r = 1 ∨ r = 2 ∨ r = 3 ∨ r = 4 ∨ r = 5 ∨ r = 6 ∨ r = 7 by omega) with rfl | rfl | rfl | rfl | rfl | rfl | rfl | rfl <;> exact z0_v (lo := 0) (n := 40) (by decide) (by decide) (by omega) (by omega)
  · exact z0_v (lo := 1) (n := 1) (by decide) (by decide) (by decide) (by decide)
  · exact z0_v (lo := 6) (n := 2) (by decide) (by decide) (by decide) (by decide)
  · show (zs0 xs).1 21 4 = (zs0 xs).1 292 7
    rw [z0_v (a := 21) (lo := 4) (n := 1) (by decide) (by decide) (by decide) (by decide), z0_v (a := 292) (lo := 6) (n := 2) (by decide) (by decide) (by decide) (by decide)]
  · show (zs0 xs).1 8 9 = (zs0 xs).1 292 4
    rw [z0_v (a := 8) (lo := 9) (n := 1) (by decide) (by decide) (by decide) (by decide), z0_v (a := 292) (lo := 4) (n := 1) (by decide) (by decide) (by decide) (by decide)]
  · exact z0_v (lo := 2) (n := 1) (by decide) (by decide) (by decide) (by decide)
  · exact z0_v (lo := 25) (n := 1) (by decide) (by decide) (by decide) (by decide)
