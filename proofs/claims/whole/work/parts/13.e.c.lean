/-! ones of a long -/
set_option maxHeartbeats 8000000 in
theorem and_sp (x m : Nat) : x &&& m = (x % 256 &&& m % 256) + 256 * (x / 256 &&& m / 256) := by
  have h1 := Nat.and_mod_two_pow (a := x) (b := m) (n := 8)
  have h2 := Nat.and_div_two_pow (a := x) (b := m) (n := 8)
  have e : (2 : Nat) ^ 8 = 256 := by decide
  rw [e] at h1 h2
  rw [← h1, ← h2]
  omega
def rp8 (c : Nat) : Nat → Nat
  | 0 => 0
  | k + 1 => c + 256 * rp8 c k
def q1 (k n : Nat) : Nat := n - (n / 2 &&& rp8 85 k)
def q2 (k n : Nat) : Nat := (n &&& rp8 51 k) + (n / 4 &&& rp8 51 k)
def q3 (k n : Nat) : Nat := (n + n / 16) &&& rp8 15 k
def qb1 (b : Nat) : Nat := b - (b / 2 &&& 85)
def qb2 (b : Nat) : Nat := (b &&& 51) + (b / 4 &&& 51)
def qb3 (b : Nat) : Nat := (b + b / 16) &&& 15
set_option maxHeartbeats 8000000 in
theorem qa1 : ∀ b, b < 256 → ∀ c, c < 2 → (b / 2 + 128 * c) &&& 85 = b / 2 &&& 85 := by decide +kernel
set_option maxHeartbeats 8000000 in
theorem qa2 : ∀ b, b < 256 → ∀ c, c < 4 → (b / 4 + 64 * c) &&& 51 = b / 4 &&& 51 := by decide +kernel
set_option maxHeartbeats 8000000 in
theorem qa3 : ∀ b, b < 69 → ∀ c, c < 5 → b + b / 16 + 16 * c < 256 ∧ (b + b / 16 + 16 * c) &&& 15 = qb3 b := by decide +kernel
set_option maxHeartbeats 8000000 in
theorem qb_all : ∀ b, b < 256 → qb1 b < 256 ∧ qb2 (qb1 b) < 69 ∧ qb2 (qb1 b) % 16 < 5 ∧ qb3 (qb2 (qb1 b)) = cnt 8 (fun j => b.testBit j = true) := by decide +kernel
set_option maxHeartbeats 8000000 in
theorem q1_s {k b y : Nat} (hb : b < 256) : q1 (k + 1) (b + 256 * y) = qb1 b + 256 * q1 k y := by
  unfold q1 qb1
  show b + 256 * y - ((b + 256 * y) / 2 &&& (85 + 256 * rp8 85 k)) = _
  have e1 : (b + 256 * y) / 2 = (b / 2 + 128 * (y % 2)) + 256 * (y / 2) := by omega
  rw [e1, and_sp, show (b / 2 + 128 * (y % 2) + 256 * (y / 2)) % 256 = b / 2 + 128 * (y % 2) by omega, show (b / 2 + 128 * (y % 2) + 256 * (y / 2)) / 256 = y / 2 by omega, show (85 + 256 * rp8 85 k) % 256 = 85 by omega, show (85 + 256 * rp8 85 k) / 256 = rp8 85 k by omega, qa1 b hb _ (Nat.mod_lt _ (by decide))]
  have h1 : b / 2 &&& 85 ≤ b / 2 := Nat.and_le_left
  have h2 : y / 2 &&& rp8 85 k ≤ y / 2 := Nat.and_le_left
  omega
set_option maxHeartbeats 8000000 in
theorem q2_s {k b y : Nat} (hb : b < 256) : q2 (k + 1) (b + 256 * y) = qb2 b + 256 * q2 k y := by
  unfold q2 qb2
  show ((b + 256 * y) &&& (51 + 256 * rp8 51 k)) + ((b + 256 * y) / 4 &&& (51 + 256 * rp8 51 k)) = _
  have e1 : (b + 256 * y) / 4 = (b / 4 + 64 * (y % 4)) + 256 * (y / 4) := by omega
  rw [e1, and_sp (b + 256 * y), and_sp (b / 4 + 64 * (y % 4) + 256 * (y / 4)), show (b / 4 + 64 * (y % 4) + 256 * (y / 4)) % 256 = b / 4 + 64 * (y % 4) by omega, show (b / 4 + 64 * (y % 4) + 256 * (y / 4)) / 256 = y / 4 by omega, show (51 + 256 * rp8 51 k) % 256 = 51 by omega, show (51 + 256 * rp8 51 k) / 256 = rp8 51 k by omega, show (b + 256 * y) % 256 = b by omega, show (b + 256 * y) / 256 = y by omega, qa2 b hb _ (Nat.mod_lt _ (by decide))]
  omega
set_option maxHeartbeats 8000000 in
theorem q3_s {k b y : Nat} (hb : b < 69) (hy : y % 16 < 5) : q3 (k + 1) (b + 256 * y) = qb3 b + 256 * q3 k y := by
  unfold q3
  show (b + 256 * y + (b + 256 * y) / 16) &&& (15 + 256 * rp8 15 k) = _
  obtain ⟨h1, h2⟩ := qa3 b hb _ hy
  have e1 : b + 256 * y + (b + 256 * y) / 16 = (b + b / 16 + 16 * (y % 16)) + 256 * (y + y / 16) := by omega
  rw [e1, and_sp, show (b + b / 16 + 16 * (y % 16) + 256 * (y + y / 16)) % 256 = b + b / 16 + 16 * (y % 16) by omega, show (b + b / 16 + 16 * (y % 16) + 256 * (y + y / 16)) / 256 = y + y / 16 by omega, show (15 + 256 * rp8 15 k) % 256 = 15 by omega, show (15 + 256 * rp8 15 k) / 256 = rp8 15 k by omega, h2]
set_option maxHeartbeats 8000000 in
theorem q_low (k n : Nat) (hn : n < 256 ^ k) : q2 k (q1 k n) % 16 < 5 := by
  cases k with
  | zero =>
    have : n = 0 := by
      rw [Nat.pow_zero] at hn
      omega
    subst this
    decide
  | succ k =>
    have hb := qb_all (n % 256) (Nat.mod_lt _ (by decide))
    have e : n = n % 256 + 256 * (n / 256) := by omega
    rw [e, q1_s (Nat.mod_lt _ (by decide)), q2_s hb.1]
    have := hb.2.2.1
    omega
def byC (n : Nat) : Nat → Nat
  | 0 => 0
  | k + 1 => cnt 8 (fun j => (n % 256).testBit j = true) + 256 * byC (n / 256) k
set_option maxHeartbeats 8000000 in
theorem q_all (k n : Nat) (hn : n < 256 ^ k) : q3 k (q2 k (q1 k n)) = byC n k := by
  induction k generalizing n with
  | zero =>
    have : n = 0 := by
      rw [Nat.pow_zero] at hn
      omega
    subst this
    decide
  | succ k ih =>
    have hb := qb_all (n % 256) (Nat.mod_lt _ (by decide))
    have hd : n / 256 < 256 ^ k := by
      rw [Nat.pow_succ] at hn
      omega
    have e : n = n % 256 + 256 * (n / 256) := by omega
    have e2 : q3 (k + 1) (q2 (k + 1) (q1 (k + 1) (n % 256 + 256 * (n / 256)))) = cnt 8 (fun j => (n % 256).testBit j = true) + 256 * byC (n / 256) k := by
      rw [q1_s (Nat.mod_lt _ (by decide)), q2_s hb.1, q3_s hb.2.1 (q_low k _ hd), ih _ hd, hb.2.2.2]
    rw [← e] at e2
    exact e2
set_option maxHeartbeats 8000000 in
theorem cnt_add (n m : Nat) (P : Nat → Prop) [DecidablePred P] : cnt (n + m) P = cnt n P + cnt m (fun j => P (n + j)) := by
  induction m with
  | zero => rfl
  | succ m ih =>
    rw [← Nat.add_assoc, cnt_s, cnt_s, ih, Nat.add_assoc]
set_option maxHeartbeats 8000000 in
theorem cnt_cg {n : Nat} {P R : Nat → Prop} [DecidablePred P] [DecidablePred R] (h : ∀ j, j < n → (P j ↔ R j)) : cnt n P = cnt n R := by
  induction n with
  | zero => rfl
  | succ n ih =>
    rw [cnt_s, cnt_s, ih (fun j hj => h j (by omega))]
    by_cases c : P n
    · rw [if_pos c, if_pos ((h n (by omega)).mp c)]
    · rw [if_neg c, if_neg (fun k => c ((h n (by omega)).mpr k))]
set_option maxHeartbeats 8000000 in
theorem cnt_by (n k : Nat) : cnt (8 * (k + 1)) (fun j => n.testBit j = true) = cnt 8 (fun j => (n % 256).testBit j = true) + cnt (8 * k) (fun j => (n / 256).testBit j = true) := by
  rw [show 8 * (k + 1) = 8 + 8 * k by omega, cnt_add]
  congr 1
  · refine cnt_cg (fun j hj => ?_)
    rw [show n % 256 = n % 2 ^ 8 from rfl, Nat.testBit_mod_two_pow, decide_eq_true hj, Bool.true_and]
  · refine cnt_cg (fun j hj => ?_)
    rw [show n / 256 = n / 2 ^ 8 from rfl, Nat.testBit_div_two_pow, Nat.add_comm]
set_option maxHeartbeats 8000000 in
theorem cnt8_le (n : Nat) : cnt 8 (fun j => n.testBit j = true) ≤ 8 := cnt_le 8 _
set_option maxHeartbeats 8000000 in
theorem by_sum {n i j k l : Nat} (hi : i = byC n 8) (hj : j = i + i / 256) (hk : k = j + j / 65536) (hl : l = k + k / 4294967296) : l % 128 = cnt 64 (fun j => n.testBit j = true) := by
  have e : cnt 64 (fun j => n.testBit j = true) = cnt 8 (fun j => (n % 256).testBit j = true) + (cnt 8 (fun j => (n / 256 % 256).testBit j = true) + (cnt 8 (fun j => (n / 256 / 256 % 256).testBit j = true) + (cnt 8 (fun j => (n / 256 / 256 / 256 % 256).testBit j = true) + (cnt 8 (fun j => (n / 256 / 256 / 256 / 256 % 256).testBit j = true) + (cnt 8 (fun j => (n / 256 / 256 / 256 / 256 / 256 % 256).testBit j = true) + (cnt 8 (fun j => (n / 256 / 256 / 256 / 256 / 256 / 256 % 256).testBit j = true) + (cnt 8 (fun j => (n / 256 / 256 / 256 / 256 / 256 / 256 / 256 % 256).testBit j = true) + 0))))))) := by
    have z : cnt (8 * 1) (fun j => (n / 256 / 256 / 256 / 256 / 256 / 256 / 256).testBit j = true) = cnt 8 (fun j => (n / 256 / 256 / 256 / 256 / 256 / 256 / 256 % 256).testBit j = true) + 0 := cnt_by _ 0
    rw [show 64 = 8 * (7 + 1) from rfl, cnt_by, cnt_by _ 6, cnt_by _ 5, cnt_by _ 4, cnt_by _ 3, cnt_by _ 2, cnt_by _ 1, z]
  rw [e]
  have f : i = cnt 8 (fun j => (n % 256).testBit j = true) + 256 * (cnt 8 (fun j => (n / 256 % 256).testBit j = true) + 256 * (cnt 8 (fun j => (n / 256 / 256 % 256).testBit j = true) + 256 * (cnt 8 (fun j => (n / 256 / 256 / 256 % 256).testBit j = true) + 256 * (cnt 8 (fun j => (n / 256 / 256 / 256 / 256 % 256).testBit j = true) + 256 * (cnt 8 (fun j => (n / 256 / 256 / 256 / 256 / 256 % 256).testBit j = true) + 256 * (cnt 8 (fun j => (n / 256 / 256 / 256 / 256 / 256 / 256 % 256).testBit j = true) + 256 * (cnt 8 (fun j => (n / 256 / 256 / 256 / 256 / 256 / 256 / 256 % 256).testBit j = true) + 256 * 0))))))) := hi
  have a0 := cnt8_le (n % 256)
  have a1 := cnt8_le (n / 256 % 256)
  have a2 := cnt8_le (n / 256 / 256 % 256)
  have a3 := cnt8_le (n / 256 / 256 / 256 % 256)
  have a4 := cnt8_le (n / 256 / 256 / 256 / 256 % 256)
  have a5 := cnt8_le (n / 256 / 256 / 256 / 256 / 256 % 256)
  have a6 := cnt8_le (n / 256 / 256 / 256 / 256 / 256 / 256 % 256)
  have a7 := cnt8_le (n / 256 / 256 / 256 / 256 / 256 / 256 / 256 % 256)
  clear e hi
  generalize cnt 8 (fun j => (n % 256).testBit j = true) = c0 at *
  generalize cnt 8 (fun j => (n / 256 % 256).testBit j = true) = c1 at *
  generalize cnt 8 (fun j => (n / 256 / 256 % 256).testBit j = true) = c2 at *
  generalize cnt 8 (fun j => (n / 256 / 256 / 256 % 256).testBit j = true) = c3 at *
  generalize cnt 8 (fun j => (n / 256 / 256 / 256 / 256 % 256).testBit j = true) = c4 at *
  generalize cnt 8 (fun j => (n / 256 / 256 / 256 / 256 / 256 % 256).testBit j = true) = c5 at *
  generalize cnt 8 (fun j => (n / 256 / 256 / 256 / 256 / 256 / 256 % 256).testBit j = true) = c6 at *
  generalize cnt 8 (fun j => (n / 256 / 256 / 256 / 256 / 256 / 256 / 256 % 256).testBit j = true) = c7 at *
  have d1 : i / 256 = c1 + 256 * (c2 + 256 * (c3 + 256 * (c4 + 256 * (c5 + 256 * (c6 + 256 * c7))))) := by omega
  have j1 : j = (c0 + c1) + 256 * ((c1 + c2) + 256 * ((c2 + c3) + 256 * ((c3 + c4) + 256 * ((c4 + c5) + 256 * ((c5 + c6) + 256 * ((c6 + c7) + 256 * c7)))))) := by omega
  have d2 : j / 65536 = (c2 + c3) + 256 * ((c3 + c4) + 256 * ((c4 + c5) + 256 * ((c5 + c6) + 256 * ((c6 + c7) + 256 * c7)))) := by clear hj d1 f; omega
  have k1 : k = (c0 + c1 + c2 + c3) + 256 * ((c1 + c2 + c3 + c4) + 256 * ((c2 + c3 + c4 + c5) + 256 * ((c3 + c4 + c5 + c6) + 256 * ((c4 + c5 + c6 + c7) + 256 * ((c5 + c6 + c7) + 256 * ((c6 + c7) + 256 * c7)))))) := by clear hj d1 f; omega
  have d3 : k / 4294967296 = (c4 + c5 + c6 + c7) + 256 * ((c5 + c6 + c7) + 256 * ((c6 + c7) + 256 * c7)) := by clear hj d1 f hk d2 j1; omega
  clear hj d1 f hk d2 j1
  omega
def bcJ (x : Int64) : Int32 :=
  let a := x - ((x.toUInt64 >>> ((nI 1).toInt64.toUInt64 &&& Int64.toUInt64 63)).toInt64 &&& 6148914691236517205)
  let b := (a &&& 3689348814741910323) + ((a.toUInt64 >>> ((nI 2).toInt64.toUInt64 &&& Int64.toUInt64 63)).toInt64 &&& 3689348814741910323)
  let c := (b + (b.toUInt64 >>> ((nI 4).toInt64.toUInt64 &&& Int64.toUInt64 63)).toInt64) &&& 1085102592571150095
  let e := c + (c.toUInt64 >>> ((nI 8).toInt64.toUInt64 &&& Int64.toUInt64 63)).toInt64
  let f := e + (e.toUInt64 >>> ((nI 16).toInt64.toUInt64 &&& Int64.toUInt64 63)).toInt64
  let g := f + (f.toUInt64 >>> ((nI 32).toInt64.toUInt64 &&& Int64.toUInt64 63)).toInt64
  g.toInt32 &&& nI 127
set_option maxHeartbeats 8000000 in
theorem fb_andL (a b : Nat) : lN a &&& lN b = lN (a &&& b) := by
  apply Int64.toBitVec_inj.1
  show BitVec.ofNat 64 a &&& BitVec.ofNat 64 b = BitVec.ofNat 64 (a &&& b)
  apply BitVec.eq_of_getLsbD_eq
  intro i hi
  simp [hi]
set_option maxHeartbeats 8000000 in
theorem wsh {n : Nat} (hn : n < 2 ^ 64) : ∀ k, k < 64 → ((lN n).toUInt64 >>> ((nI k).toInt64.toUInt64 &&& Int64.toUInt64 63)).toInt64 = lN (n / 2 ^ k) := by
  intro k hk
  apply Int64.toBitVec_inj.1
  show (lN n).toBitVec >>> (((nI k).toInt64.toUInt64 &&& Int64.toUInt64 63).toBitVec % 64#64).toNat = BitVec.ofNat 64 (n / 2 ^ k)
  rw [isIn_s k hk]
  apply BitVec.eq_of_toNat_eq
  rw [BitVec.toNat_ushiftRight]
  show (BitVec.ofNat 64 n).toNat >>> k = _
  rw [BitVec.toNat_ofNat, BitVec.toNat_ofNat, Nat.mod_eq_of_lt hn, Nat.shiftRight_eq_div_pow, Nat.mod_eq_of_lt (Nat.lt_of_le_of_lt (Nat.div_le_self _ _) hn)]
set_option maxHeartbeats 8000000 in
theorem lN_of (x : Int64) : ∃ n, n < 2 ^ 64 ∧ x = lN n := ⟨x.toBitVec.toNat, x.toBitVec.isLt, by
  apply Int64.toBitVec_inj.1
  show x.toBitVec = BitVec.ofNat 64 x.toBitVec.toNat
  simp⟩
set_option maxHeartbeats 8000000 in
theorem tb_lN {n j : Nat} (hj : j < 64) : tb (lN n) j = n.testBit j := by
  show (BitVec.ofNat 64 n).getLsbD j = _
  rw [BitVec.getLsbD_ofNat, decide_eq_true hj, Bool.true_and]
set_option maxHeartbeats 8000000 in
theorem bcJ_is (x : Int64) : bcJ x = nI (cnt 64 (fun j => tb x j = true)) := by
  obtain ⟨n, hn, rfl⟩ := lN_of x
  have h256 : n < 256 ^ 8 := by
    have : (256 : Nat) ^ 8 = 2 ^ 64 := by decide
    omega
  have m5 : (6148914691236517205 : Int64) = lN (rp8 85 8) := by decide
  have m3 : (3689348814741910323 : Int64) = lN (rp8 51 8) := by decide
  have mf : (1085102592571150095 : Int64) = lN (rp8 15 8) := by decide
  have l1 : n / 2 &&& rp8 85 8 ≤ n := Nat.le_trans Nat.and_le_left (Nat.div_le_self _ _)
  have b1 : q1 8 n < 2 ^ 64 := by unfold q1; omega
  have b2 : q2 8 (q1 8 n) < 2 ^ 64 := by
    unfold q2
    have k1 : q1 8 n &&& rp8 51 8 ≤ rp8 51 8 := Nat.and_le_right
    have k2 : q1 8 n / 4 &&& rp8 51 8 ≤ rp8 51 8 := Nat.and_le_right
    have k3 : rp8 51 8 = 3689348814741910323 := by decide
    omega
  have b3 : q3 8 (q2 8 (q1 8 n)) ≤ 1085102592571150095 := by
    unfold q3
    have k3 : rp8 15 8 = 1085102592571150095 := by decide
    rw [k3]
    exact Nat.and_le_right
  have hq := q_all 8 n h256
  have s1 : lN n - (lN (n / 2 ^ 1) &&& lN (rp8 85 8)) = lN (q1 8 n) := by
    rw [fb_andL]
    exact lN_sub l1
  have s2 : (lN (q1 8 n) &&& lN (rp8 51 8)) + (lN (q1 8 n / 2 ^ 2) &&& lN (rp8 51 8)) = lN (q2 8 (q1 8 n)) := by
    rw [fb_andL, fb_andL, lN_add]
    rfl
  have s3 : (lN (q2 8 (q1 8 n)) + lN (q2 8 (q1 8 n) / 2 ^ 4)) &&& lN (rp8 15 8) = lN (q3 8 (q2 8 (q1 8 n))) := by
    rw [lN_add, fb_andL]
    rfl
  unfold bcJ
  dsimp only
  rw [m5, m3, mf, wsh hn 1 (by decide), s1, wsh b1 2 (by decide), s2, wsh b2 4 (by decide), s3]
  generalize hi : q3 8 (q2 8 (q1 8 n)) = i at b3 hq
  rw [wsh (n := i) (by omega) 8 (by decide), lN_add, wsh (n := i + i / 2 ^ 8) (by omega) 16 (by decide), lN_add, wsh (n := i + i / 2 ^ 8 + (i + i / 2 ^ 8) / 2 ^ 16) (by omega) 32 (by decide), lN_add, lN_i, fa_and]
  have hs := by_sum (n := n) hq rfl rfl rfl
  have e7 : ∀ z : Nat, z &&& 127 = z % 128 := fun z => Nat.and_two_pow_sub_one_eq_mod z 7
  rw [e7]
  have hc : cnt 64 (fun j => tb (lN n) j = true) = cnt 64 (fun j => n.testBit j = true) := cnt_cg (fun j hj => by rw [tb_lN hj])
  rw [hc, ← hs]
set_option maxHeartbeats 8000000 in
theorem c_bitJ {d L : Nat} {s : zG} {x : Int64} (Q : Option Value → zH → Prop) : zR d 217 0 (ze [.long x] 0) [] (zv L s) Q = Q (some (.int (nI (cnt 64 (fun j => tb x j = true))))) (zv L s) := by
  rw [← bcJ_is x]
  simp (disch := first | omega | (simp (disch := omega) only [ze_c, z1_s, z1_n, z1_p, z2_s, z2_n, z2_p, Nat.zero_le, zvI_int, zvJ_long, zvA_is, zvi_int, cat_int, cat_ref, cat_long, zc_0, zc_1, zc_2, zc_3, zc_4, Nat.reduceAdd, Nat.reduceLeDiff, Nat.reduceEqDiff, reduceIte, Option.toList_some, Option.toList_none, List.nil_append, List.cons_append, decide_true, decide_false, Bool.or_true, Bool.true_or, Bool.or_false, Bool.or_self, Bool.not_false, ne_eq, not_false_eq_true, not_true_eq_false, eq_self, and_true, true_and, and_false, false_and, ↓bI_ok, bI_z, ite_not, nI_add, pk_mul, nI_eqI, nI_leP, nI_ltP, nI_clamp, zin_nI, Nat.le_refl, Nat.add_zero, ite_self, zU_i, zUl_i, zU_o, zUl_o, rc_u, rc_l, rc_e, if_true, if_false, Nat.reduceLT, Nat.not_lt_zero, nI_m1, m1_le, m1_lt, nI_mM, mM_lt, Bool.false_eq_true, lgz_eq, lgz_lt, lgz_le, lgz_gt, lgz_ge, cq_ref, cq_int, zan_19, zan_20, zan_22, zan_24, zan_25, zan_26, zan_27, zan_28, zan_29, zan_30, zan_31, zan_33, zan_34, zan_35, zan_36, zan_37, zan_38, zan_39, zan_40, zan_263, zan_264, zan_266, zan_267, zan_268, zan_270, zan_271, zan_273, zan_293, zan_294, zan_295, zan_296, zan_297, zan_298, zan_299, zan_300, zan_301, zan_302, zan_303, zan_305, zan_306, zan_307, zan_11, zan_12, zan_13, zan_14, zan_15, zan_16, zan_17, zan_18, zaj_261, zaj_262, zaj_269, zaj_304, k_0, k_1, k_2, k_3, k_4, k_5, k_6, k_7, k_8, k_9, k_10, k_11, k_12, k_13, k_14, k_15, k_16, k_17, k_18, k_19, k_20, k_21, k_22, k_23, k_24, k_25, k_26, k_27, k_28, k_29, k_30, k_31, k_32, k_33, k_34, k_35, k_36, k_40, k_44, k_48, k_50, k_54, k_57, k_59, k_63, k_64, k_69, k_70, k_71, k_72, k_73, k_74, k_75, k_77, k_82, k_89, k_97, k_100, k_102, k_105, k_108, k_111, k_118, k_119, k_127, k_178, k_180, k_255, k_320, k_400, k_999, k_1000, k_1771, k_1848, k_999999, k_1000000, k_252645135, k_858993459, k_1431655765]; done) | fail) only [s_217_0, s_217_1, s_217_2, s_217_3, s_217_4, s_217_7, s_217_8, s_217_9, s_217_10, s_217_11, s_217_14, s_217_15, s_217_16, s_217_17, s_217_18, s_217_21, s_217_22, s_217_23, s_217_24, s_217_25, s_217_26, s_217_27, s_217_28, s_217_29, s_217_32, s_217_33, s_217_34, s_217_35, s_217_36, s_217_38, s_217_39, s_217_40, s_217_41, s_217_42, s_217_43, s_217_45, s_217_46, s_217_47, s_217_48, s_217_49, s_217_50, s_217_52, s_217_53, s_217_54, s_217_55, s_217_56, s_217_57, s_217_59, s_217_60, ze_c, z1_s, z1_n, z1_p, z2_s, z2_n, z2_p, Nat.zero_le, zvI_int, zvJ_long, zvA_is, zvi_int, cat_int, cat_ref, cat_long, zc_0, zc_1, zc_2, zc_3, zc_4, Nat.reduceAdd, Nat.reduceLeDiff, Nat.reduceEqDiff, reduceIte, Option.toList_some, Option.toList_none, List.nil_append, List.cons_append, decide_true, decide_false, Bool.or_true, Bool.true_or, Bool.or_false, Bool.or_self, Bool.not_false, ne_eq, not_false_eq_true, not_true_eq_false, eq_self, and_true, true_and, and_false, false_and, ↓bI_ok, bI_z, ite_not, nI_add, pk_mul, nI_eqI, nI_leP, nI_ltP, nI_clamp, zin_nI, Nat.le_refl, Nat.add_zero, ite_self, zU_i, zUl_i, zU_o, zUl_o, rc_u, rc_l, rc_e, if_true, if_false, Nat.reduceLT, Nat.not_lt_zero, nI_m1, m1_le, m1_lt, nI_mM, mM_lt, Bool.false_eq_true, lgz_eq, lgz_lt, lgz_le, lgz_gt, lgz_ge, cq_ref, cq_int, zan_19, zan_20, zan_22, zan_24, zan_25, zan_26, zan_27, zan_28, zan_29, zan_30, zan_31, zan_33, zan_34, zan_35, zan_36, zan_37, zan_38, zan_39, zan_40, zan_263, zan_264, zan_266, zan_267, zan_268, zan_270, zan_271, zan_273, zan_293, zan_294, zan_295, zan_296, zan_297, zan_298, zan_299, zan_300, zan_301, zan_302, zan_303, zan_305, zan_306, zan_307, zan_11, zan_12, zan_13, zan_14, zan_15, zan_16, zan_17, zan_18, zaj_261, zaj_262, zaj_269, zaj_304, k_0, k_1, k_2, k_3, k_4, k_5, k_6, k_7, k_8, k_9, k_10, k_11, k_12, k_13, k_14, k_15, k_16, k_17, k_18, k_19, k_20, k_21, k_22, k_23, k_24, k_25, k_26, k_27, k_28, k_29, k_30, k_31, k_32, k_33, k_34, k_35, k_36, k_40, k_44, k_48, k_50, k_54, k_57, k_59, k_63, k_64, k_69, k_70, k_71, k_72, k_73, k_74, k_75, k_77, k_82, k_89, k_97, k_100, k_102, k_105, k_108, k_111, k_118, k_119, k_127, k_178, k_180, k_255, k_320, k_400, k_999, k_1000, k_1771, k_1848, k_999999, k_1000000, k_252645135, k_858993459, k_1431655765]
  rfl
