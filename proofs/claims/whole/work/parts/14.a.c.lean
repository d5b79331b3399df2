/-! groups: the search, pure -/
abbrev GT : Type := Nat × (Nat → Nat)
def updN (f : Nat → Nat) (i w : Nat) : Nat → Nat := fun k => if k = i then w else f k
def fo (f : Nat → GT → GT) : Nat → GT → GT
  | 0, st => st
  | k + 1, st => f k (fo f k st)
set_option maxHeartbeats 8000000 in
theorem fo_s (f : Nat → GT → GT) (k : Nat) (st : GT) : fo f (k + 1) st = f k (fo f k st) := rfl
def pm (C : Nat → Nat) (T : Nat → Int64) (W : Nat) : Nat → Nat → Nat → Int64 → Nat → (Nat → Nat) → GT → GT
  | 0, _, _, ms, sm, pk, st => if ms = 0 ∧ sm < st.1 then (sm, pk) else st
  | r + 1, dp, fr, ms, sm, pk, st => fo (fun i st => pm C T W r (dp + 1) (fr + i) (ms &&& (T (fr + i) ^^^ (-1))) (sm + C (fr + i)) (updN pk dp (fr + i)) st) (W - fr) st
set_option maxHeartbeats 8000000 in
theorem pm_0 {C : Nat → Nat} {T : Nat → Int64} {W dp fr sm : Nat} {ms : Int64} {pk : Nat → Nat} {st : GT} : pm C T W 0 dp fr ms sm pk st = if ms = 0 ∧ sm < st.1 then (sm, pk) else st := rfl
set_option maxHeartbeats 8000000 in
theorem pm_s {C : Nat → Nat} {T : Nat → Int64} {W r dp fr sm : Nat} {ms : Int64} {pk : Nat → Nat} {st : GT} : pm C T W (r + 1) dp fr ms sm pk st = fo (fun i st => pm C T W r (dp + 1) (fr + i) (ms &&& (T (fr + i) ^^^ (-1))) (sm + C (fr + i)) (updN pk dp (fr + i)) st) (W - fr) st := rfl
set_option maxHeartbeats 8000000 in
theorem pm_pr {C : Nat → Nat} {T : Nat → Int64} {W : Nat} (r : Nat) : ∀ (dp fr sm : Nat) (ms : Int64) (pk : Nat → Nat) (st : GT), st.1 ≤ sm → pm C T W r dp fr ms sm pk st = st := by
  induction r with
  | zero =>
    intro dp fr sm ms pk st h
    rw [pm_0, if_neg (fun q => by omega)]
  | succ r ih =>
    intro dp fr sm ms pk st h
    rw [pm_s]
    have key : ∀ k, fo (fun i st => pm C T W r (dp + 1) (fr + i) (ms &&& (T (fr + i) ^^^ (-1))) (sm + C (fr + i)) (updN pk dp (fr + i)) st) k st = st := by
      intro k
      induction k with
      | zero => rfl
      | succ k ihk =>
        rw [fo_s, ihk]
        exact ih _ _ _ _ _ _ (by omega)
    exact key _
set_option maxHeartbeats 8000000 in
theorem pm_le {C : Nat → Nat} {T : Nat → Int64} {W : Nat} (r : Nat) : ∀ (dp fr sm : Nat) (ms : Int64) (pk : Nat → Nat) (st : GT), (pm C T W r dp fr ms sm pk st).1 ≤ st.1 := by
  induction r with
  | zero =>
    intro dp fr sm ms pk st
    rw [pm_0]
    split
    · rename_i h
      exact Nat.le_of_lt h.2
    · exact Nat.le_refl _
  | succ r ih =>
    intro dp fr sm ms pk st
    rw [pm_s]
    have key : ∀ k, (fo (fun i st => pm C T W r (dp + 1) (fr + i) (ms &&& (T (fr + i) ^^^ (-1))) (sm + C (fr + i)) (updN pk dp (fr + i)) st) k st).1 ≤ st.1 := by
      intro k
      induction k with
      | zero => exact Nat.le_refl _
      | succ k ihk =>
        rw [fo_s]
        exact Nat.le_trans (ih _ _ _ _ _ _) ihk
    exact key _
/-! the picks lie among the wordings -/
set_option maxHeartbeats 8000000 in
theorem pm_in {C : Nat → Nat} {T : Nat → Int64} {W M : Nat} (r : Nat) : ∀ (dp fr sm : Nat) (ms : Int64) (pk : Nat → Nat) (st : GT), (∀ k, pk k < W) → (st.1 < M → ∀ k, st.2 k < W) → ((pm C T W r dp fr ms sm pk st).1 < M → ∀ k, (pm C T W r dp fr ms sm pk st).2 k < W) := by
  induction r with
  | zero =>
    intro dp fr sm ms pk st h1 h2
    rw [pm_0]
    split
    · exact fun _ => h1
    · exact h2
  | succ r ih =>
    intro dp fr sm ms pk st h1 h2
    rw [pm_s]
    have key : ∀ k, k ≤ W - fr → ((fo (fun i st => pm C T W r (dp + 1) (fr + i) (ms &&& (T (fr + i) ^^^ (-1))) (sm + C (fr + i)) (updN pk dp (fr + i)) st) k st).1 < M → ∀ q, (fo (fun i st => pm C T W r (dp + 1) (fr + i) (ms &&& (T (fr + i) ^^^ (-1))) (sm + C (fr + i)) (updN pk dp (fr + i)) st) k st).2 q < W) := by
      intro k
      induction k with
      | zero => exact fun _ => h2
      | succ k ihk =>
        intro hk
        rw [fo_s]
        refine ih _ _ _ _ _ _ (fun q => ?_) (ihk (by omega))
        unfold updN
        split
        · omega
        · exact h1 q
    exact key _ (Nat.le_refl _)
/-! the wordings in their order -/
def Ab.wc (A : Ab) (k : Nat) : Nat := cnt k A.hc
set_option maxHeartbeats 8000000 in
theorem Ab.wc_y {A : Ab} {k : Nat} (h : A.hc k) : A.wc (k + 1) = A.wc k + 1 := by
  unfold Ab.wc
  rw [cnt_s, if_pos h]
set_option maxHeartbeats 8000000 in
theorem Ab.wc_n {A : Ab} {k : Nat} (h : ¬ A.hc k) : A.wc (k + 1) = A.wc k := by
  unfold Ab.wc
  rw [cnt_s, if_neg h, Nat.add_zero]
def Ab.cl (A : Ab) : Nat → Nat → Nat
  | 0 => fun _ => 0
  | k + 1 => if A.hc k then updN (A.cl k) (A.wc k) k else A.cl k
set_option maxHeartbeats 8000000 in
theorem Ab.cl_y {A : Ab} {k : Nat} (h : A.hc k) : A.cl (k + 1) = updN (A.cl k) (A.wc k) k := if_pos h
set_option maxHeartbeats 8000000 in
theorem Ab.cl_n {A : Ab} {k : Nat} (h : ¬ A.hc k) : A.cl (k + 1) = A.cl k := if_neg h
set_option maxHeartbeats 8000000 in
theorem Ab.wc_mono (A : Ab) (k j : Nat) : A.wc k ≤ A.wc (k + j) := by
  induction j with
  | zero => exact Nat.le_refl _
  | succ j ih =>
    rw [← Nat.add_assoc]
    by_cases h : A.hc (k + j)
    · rw [Ab.wc_y h]; omega
    · rw [Ab.wc_n h]; omega
set_option maxHeartbeats 8000000 in
theorem wc_fin : ∀ E, E < 7 → cnt 180 (fun c => c / 6 % 6 < E ∧ c % 6 < E ∧ (if c / 36 < 2 then c / 6 % 6 = c % 6 else c / 6 % 6 < c % 6)) ≤ 57 ∧ (0 < E → 0 < cnt 180 (fun c => c / 6 % 6 < E ∧ c % 6 < E ∧ (if c / 36 < 2 then c / 6 % 6 = c % 6 else c / 6 % 6 < c % 6))) := by decide +kernel
set_option maxHeartbeats 8000000 in
theorem Ab.wc_57 {A : Ab} (ho : Ok A) : A.wc 180 ≤ 57 := (wc_fin A.E (by have := ho.hE; omega)).1
set_option maxHeartbeats 8000000 in
theorem Ab.wc_0 {A : Ab} (ho : Ok A) (h : 0 < A.E) : 0 < A.wc 180 := (wc_fin A.E (by have := ho.hE; omega)).2 h
set_option maxHeartbeats 8000000 in
theorem Ab.wc_le {A : Ab} (ho : Ok A) {k : Nat} (hk : k ≤ 180) : A.wc k ≤ 57 := by
  have h1 := A.wc_mono k (180 - k)
  rw [show k + (180 - k) = 180 by omega] at h1
  have := A.wc_57 ho
  omega
set_option maxHeartbeats 8000000 in
theorem Ab.wc_lt {A : Ab} (ho : Ok A) {k : Nat} (hk : k < 180) (h : A.hc k) : A.wc k < 57 := by
  have h1 := A.wc_le ho (k := k + 1) (by omega)
  rw [Ab.wc_y h] at h1
  omega
set_option maxHeartbeats 8000000 in
theorem Ab.cl_st {A : Ab} {k : Nat} : ∀ j, A.wc (k + j) = A.wc k → A.cl (k + j) = A.cl k := by
  intro j
  induction j with
  | zero => intro _; rfl
  | succ j ih =>
    intro e
    rw [← Nat.add_assoc] at e ⊢
    have hm := A.wc_mono k j
    by_cases h : A.hc (k + j)
    · rw [Ab.wc_y h] at e
      omega
    · rw [Ab.wc_n h] at e
      rw [Ab.cl_n h]
      exact ih e
set_option maxHeartbeats 8000000 in
theorem Ab.cl_in {A : Ab} (k w : Nat) (hw : w < A.wc k) : A.hc (A.cl k w) ∧ A.cl k w < k := by
  induction k with
  | zero => exact absurd hw (Nat.not_lt_zero w)
  | succ k ih =>
    by_cases h : A.hc k
    · rw [Ab.wc_y h] at hw
      rw [Ab.cl_y h]
      unfold updN
      split
      · exact ⟨h, by omega⟩
      · have := ih (by omega)
        exact ⟨this.1, by omega⟩
    · rw [Ab.wc_n h] at hw
      rw [Ab.cl_n h]
      have := ih hw
      exact ⟨this.1, by omega⟩
/-! costs as numbers -/
def odN (f a b : Nat) : Nat := if f = 0 then 20 * a else if f = 1 then 20 * (20 - a) else if f = 2 then a * b else if f = 3 then 400 - (20 - a) * (20 - b) else a * (20 - b) + b * (20 - a)
set_option maxHeartbeats 8000000 in
theorem odN_all : ∀ f, f < 5 → ∀ a, a < 21 → ∀ b, b < 21 → oddsF f (nI a) (nI b) = nI (odN f a b) ∧ odN f a b ≤ 400 := by decide +kernel
set_option maxHeartbeats 8000000 in
theorem i_nat {x : Int32} {m : Nat} (h : 0 ≤ x.toInt ∧ x.toInt ≤ m) : ∃ a, a ≤ m ∧ x = nI a := by
  have h3 := x.toInt_lt
  refine ⟨x.toInt.toNat, by omega, ?_⟩
  rw [← Int32.toInt_inj, nI_toInt (by omega)]
  omega
set_option maxHeartbeats 8000000 in
theorem Ab.cst_n {A : Ab} (ho : Ok A) {c : Nat} (hc : c < 180) (h1 : c / 6 % 6 < A.E) (h2 : c % 6 < A.E) : ∃ n, n ≤ 32000 ∧ A.od c * A.bf c = nI n := by
  obtain ⟨a, ha, ea⟩ := i_nat (m := 20) (ho.hch _ h1)
  obtain ⟨b, hb, eb⟩ := i_nat (m := 20) (ho.hch _ h2)
  obtain ⟨r, hr, er⟩ := i_nat (m := 20) ho.hra
  obtain ⟨k1, k2⟩ := odN_all (c / 36) (by omega) a (by omega) b (by omega)
  have e1 : A.od c = nI (odN (c / 36) a b) := by
    unfold Ab.od
    rw [ea, eb]
    exact k1
  generalize odN (c / 36) a b = o at k2 e1
  have m1 : (400 - o) * r ≤ 400 * 20 := Nat.mul_le_mul (by omega) hr
  have e2 : A.bf c = nI ((400 - o) * r / 100) := by
    unfold Ab.bf
    rw [e1, er, nI_sub k2, pk_mul, pk_div (by omega) (by decide) (by decide)]
  refine ⟨o * ((400 - o) * r / 100), ?_, by rw [e1, e2, pk_mul]⟩
  have m2 : o * ((400 - o) * r / 100) ≤ 400 * 80 := Nat.mul_le_mul k2 (by omega)
  omega
/-! a wording's cost -/
def Ab.cN (A : Ab) (c : Nat) : Nat := (A.od c * A.bf c).toInt.toNat
set_option maxHeartbeats 8000000 in
theorem Ab.cN_is {A : Ab} (ho : Ok A) {c : Nat} (hc : c < 180) (h : A.hc c) : A.od c * A.bf c = nI (A.cN c) ∧ A.cN c ≤ 32000 := by
  obtain ⟨n, h1, h2⟩ := Ab.cst_n ho hc h.1 h.2.1
  have e : A.cN c = n := by
    unfold Ab.cN
    rw [h2, nI_toInt (by omega)]
    rfl
  rw [e]
  exact ⟨h2, h1⟩
