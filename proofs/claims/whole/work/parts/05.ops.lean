/-! ONE LAW AN OP, over the small machine: each turns the judgement at an instruction into the one behind it -/
def zvi (v : Value) : Int32 := match v with
  | .int x => x
  | _ => 0
theorem zvi_int (x : Int32) : zvi (.int x) = x := rfl
theorem zvI_int (x : Int32) : zvI (.int x) = true := rfl
theorem zvJ_long (x : Int64) : zvJ (.long x) = true := rfl
theorem zvI_of {v : Value} (h : zvI v = true) : v = .int (zvi v) := by cases v <;> first | rfl | cases h
section ZQ
variable {d k pc : Nat} {ls : zL} {st r : List Value} {h : zH} {Q : Option Value → zH → Prop} {x y z v w : Nat} {iv : Int}
theorem q_iload_n {i : Fin 4} {n : Nat} (hf : zf k pc = some (.iload_n i, x, y, z, iv)) (hn : (i : Nat) = n) (hi : zvI (ls n) = true) : zR d k pc ls st h Q = zR d k (pc + 1) ls (ls n :: st) h Q := by
  subst hn
  exact zR_next hf (by simp only [zx, hi, if_true])
theorem q_iload {n : Nat} (hf : zf k pc = some (.iload n, x, y, z, iv)) (hi : zvI (ls n) = true) : zR d k pc ls st h Q = zR d k (pc + 2) ls (ls n :: st) h Q := zR_next hf (by simp only [zx, hi, if_true])
theorem q_lload_n {i : Fin 4} {n : Nat} (hf : zf k pc = some (.lload_n i, x, y, z, iv)) (hn : (i : Nat) = n) (hi : zvJ (ls n) = true) : zR d k pc ls st h Q = zR d k (pc + 1) ls (ls n :: st) h Q := by
  subst hn
  exact zR_next hf (by simp only [zx, hi, if_true])
theorem q_lload {n : Nat} (hf : zf k pc = some (.lload n, x, y, z, iv)) (hi : zvJ (ls n) = true) : zR d k pc ls st h Q = zR d k (pc + 2) ls (ls n :: st) h Q := zR_next hf (by simp only [zx, hi, if_true])
theorem q_aload_n {i : Fin 4} {n : Nat} (hf : zf k pc = some (.aload_n i, x, y, z, iv)) (hn : (i : Nat) = n) (hi : zvA (ls n) = true) : zR d k pc ls st h Q = zR d k (pc + 1) ls (ls n :: st) h Q := by
  subst hn
  exact zR_next hf (by simp only [zx, hi, if_true])
theorem q_aload {n : Nat} (hf : zf k pc = some (.aload n, x, y, z, iv)) (hi : zvA (ls n) = true) : zR d k pc ls st h Q = zR d k (pc + 2) ls (ls n :: st) h Q := zR_next hf (by simp only [zx, hi, if_true])
theorem q_istore_n {i : Fin 4} {n : Nat} {q : Int32} (hf : zf k pc = some (.istore_n i, x, y, z, iv)) (hn : (i : Nat) = n) (hi : n < (zm k).2.2.1) : zR d k pc ls (.int q :: r) h Q = zR d k (pc + 1) (z1 ls n (.int q)) r h Q := by
  subst hn
  exact zR_next hf (by simp only [zx, hi, if_true])
theorem q_istore {n : Nat} {q : Int32} (hf : zf k pc = some (.istore n, x, y, z, iv)) (hi : n < (zm k).2.2.1) : zR d k pc ls (.int q :: r) h Q = zR d k (pc + 2) (z1 ls n (.int q)) r h Q := zR_next hf (by simp only [zx, hi, if_true])
theorem q_lstore_n {i : Fin 4} {n : Nat} {q : Int64} (hf : zf k pc = some (.lstore_n i, x, y, z, iv)) (hn : (i : Nat) = n) (hi : n + 1 < (zm k).2.2.1) : zR d k pc ls (.long q :: r) h Q = zR d k (pc + 1) (z2 ls n (.long q)) r h Q := by
  subst hn
  exact zR_next hf (by simp only [zx, hi, if_true])
theorem q_lstore {n : Nat} {q : Int64} (hf : zf k pc = some (.lstore n, x, y, z, iv)) (hi : n + 1 < (zm k).2.2.1) : zR d k pc ls (.long q :: r) h Q = zR d k (pc + 2) (z2 ls n (.long q)) r h Q := zR_next hf (by simp only [zx, hi, if_true])
theorem q_astore_n {i : Fin 4} {n q : Nat} (hf : zf k pc = some (.astore_n i, x, y, z, iv)) (hn : (i : Nat) = n) (hi : n < (zm k).2.2.1) (hq : q ≠ 7) : zR d k pc ls (.ref q :: r) h Q = zR d k (pc + 1) (z1 ls n (.ref q)) r h Q := by
  subst hn
  exact zR_next hf (by simp only [zx]; rw [if_pos ⟨hi, hq⟩])
theorem q_iinc {n : Nat} {c : Int} {e : Int32} (hf : zf k pc = some (.iinc n c, x, y, z, iv)) (he : Int32.ofInt c = e) (hi : n < (zm k).2.2.1) (hv : zvI (ls n) = true) : zR d k pc ls st h Q = zR d k (pc + 3) (z1 ls n (.int (zvi (ls n) + e))) st h Q := by
  subst he
  refine zR_next hf ?_
  have e := zvI_of hv
  simp only [zx]
  generalize zvi (ls n) = q at e ⊢
  rw [e]
  simp only [hi, if_true]
theorem q_iconst {c : Int} {e : Int32} (hf : zf k pc = some (.iconst c, x, y, z, iv)) (he : Int32.ofInt c = e) : zR d k pc ls st h Q = zR d k (pc + 1) ls (.int e :: st) h Q := zR_next hf (by simp only [zx, he])
theorem q_bipush {c : Int} {e : Int32} (hf : zf k pc = some (.bipush c, x, y, z, iv)) (he : (Int8.ofInt c).toInt32 = e) : zR d k pc ls st h Q = zR d k (pc + 2) ls (.int e :: st) h Q := zR_next hf (by simp only [zx, he])
theorem q_sipush {c : Int} {e : Int32} (hf : zf k pc = some (.sipush c, x, y, z, iv)) (he : (Int16.ofInt c).toInt32 = e) : zR d k pc ls st h Q = zR d k (pc + 3) ls (.int e :: st) h Q := zR_next hf (by simp only [zx, he])
theorem q_lconst {c : Fin 2} {e : Int64} (hf : zf k pc = some (.lconst c, x, y, z, iv)) (he : Int64.ofNat (c : Nat) = e) : zR d k pc ls st h Q = zR d k (pc + 1) ls (.long e :: st) h Q := zR_next hf (by simp only [zx, he])
theorem q_ldc {e : Int32} (hf : zf k pc = some (.ldc v, x, y, 0, iv)) (he : Int32.ofInt iv = e) : zR d k pc ls st h Q = zR d k (pc + 2) ls (.int e :: st) h Q := zR_next hf (by simp only [zx, he]; rfl)
theorem q_ldcs (hf : zf k pc = some (.ldc v, x, y, 1, iv)) : zR d k pc ls st h Q = zR d k (pc + 2) ls (.ref 5 :: st) h Q := zR_next hf (by simp only [zx, if_true])
theorem q_ldc_w {e : Int32} (hf : zf k pc = some (.ldc_w v, x, y, z, iv)) (he : Int32.ofInt iv = e) : zR d k pc ls st h Q = zR d k (pc + 3) ls (.int e :: st) h Q := zR_next hf (by simp only [zx, he])
theorem q_ldc2_w {e : Int64} (hf : zf k pc = some (.ldc2_w v, x, y, z, iv)) (he : Int64.ofInt iv = e) : zR d k pc ls st h Q = zR d k (pc + 3) ls (.long e :: st) h Q := zR_next hf (by simp only [zx, he])
theorem q_dup {a : Value} (hf : zf k pc = some (.dup, x, y, z, iv)) (ha : a.category = 1) : zR d k pc ls (a :: r) h Q = zR d k (pc + 1) ls (a :: a :: r) h Q := zR_next hf (by simp only [zx, ha, if_true])
theorem q_dup2 {a b : Value} (hf : zf k pc = some (.dup2, x, y, z, iv)) (ha : a.category = 1) (hb : b.category = 1) : zR d k pc ls (a :: b :: r) h Q = zR d k (pc + 1) ls (a :: b :: a :: b :: r) h Q := zR_next hf (by simp only [zx, ha, hb, and_self, if_true])
theorem q_pop {a : Value} (hf : zf k pc = some (.pop, x, y, z, iv)) (ha : a.category = 1) : zR d k pc ls (a :: r) h Q = zR d k (pc + 1) ls r h Q := zR_next hf (by simp only [zx, ha, if_true])
theorem q_iadd {a b : Int32} (hf : zf k pc = some (.iadd, x, y, z, iv)) : zR d k pc ls (.int b :: .int a :: r) h Q = zR d k (pc + 1) ls (.int (a + b) :: r) h Q := zR_next hf rfl
theorem q_isub {a b : Int32} (hf : zf k pc = some (.isub, x, y, z, iv)) : zR d k pc ls (.int b :: .int a :: r) h Q = zR d k (pc + 1) ls (.int (a - b) :: r) h Q := zR_next hf rfl
theorem q_imul {a b : Int32} (hf : zf k pc = some (.imul, x, y, z, iv)) : zR d k pc ls (.int b :: .int a :: r) h Q = zR d k (pc + 1) ls (.int (a * b) :: r) h Q := zR_next hf rfl
theorem q_iand {a b : Int32} (hf : zf k pc = some (.iand, x, y, z, iv)) : zR d k pc ls (.int b :: .int a :: r) h Q = zR d k (pc + 1) ls (.int (a &&& b) :: r) h Q := zR_next hf rfl
theorem q_ior {a b : Int32} (hf : zf k pc = some (.ior, x, y, z, iv)) : zR d k pc ls (.int b :: .int a :: r) h Q = zR d k (pc + 1) ls (.int (a ||| b) :: r) h Q := zR_next hf rfl
theorem q_ixor {a b : Int32} (hf : zf k pc = some (.ixor, x, y, z, iv)) : zR d k pc ls (.int b :: .int a :: r) h Q = zR d k (pc + 1) ls (.int (a ^^^ b) :: r) h Q := zR_next hf rfl
theorem q_ishl {a b : Int32} (hf : zf k pc = some (.ishl, x, y, z, iv)) : zR d k pc ls (.int b :: .int a :: r) h Q = zR d k (pc + 1) ls (.int (a <<< (b &&& 31)) :: r) h Q := zR_next hf rfl
theorem q_ishr {a b : Int32} (hf : zf k pc = some (.ishr, x, y, z, iv)) : zR d k pc ls (.int b :: .int a :: r) h Q = zR d k (pc + 1) ls (.int (a >>> (b &&& 31)) :: r) h Q := zR_next hf rfl
theorem q_iushr {a b : Int32} (hf : zf k pc = some (.iushr, x, y, z, iv)) : zR d k pc ls (.int b :: .int a :: r) h Q = zR d k (pc + 1) ls (.int ((a.toUInt32 >>> (b.toUInt32 &&& Int32.toUInt32 31)).toInt32) :: r) h Q := zR_next hf rfl
theorem q_idiv {a b : Int32} (hf : zf k pc = some (.idiv, x, y, z, iv)) (hb : ¬ b = 0) : zR d k pc ls (.int b :: .int a :: r) h Q = zR d k (pc + 1) ls (.int (a / b) :: r) h Q := zR_next hf (by simp only [zx, hb, if_false])
theorem q_irem {a b : Int32} (hf : zf k pc = some (.irem, x, y, z, iv)) (hb : ¬ b = 0) : zR d k pc ls (.int b :: .int a :: r) h Q = zR d k (pc + 1) ls (.int (a - a / b * b) :: r) h Q := zR_next hf (by simp only [zx, hb, if_false])
theorem q_ineg {a : Int32} (hf : zf k pc = some (.ineg, x, y, z, iv)) : zR d k pc ls (.int a :: r) h Q = zR d k (pc + 1) ls (.int (-a) :: r) h Q := zR_next hf rfl
theorem q_i2b {a : Int32} (hf : zf k pc = some (.i2b, x, y, z, iv)) : zR d k pc ls (.int a :: r) h Q = zR d k (pc + 1) ls (.int (a.toInt8.toInt32) :: r) h Q := zR_next hf rfl
theorem q_i2s {a : Int32} (hf : zf k pc = some (.i2s, x, y, z, iv)) : zR d k pc ls (.int a :: r) h Q = zR d k (pc + 1) ls (.int (a.toInt16.toInt32) :: r) h Q := zR_next hf rfl
theorem q_i2c {a : Int32} (hf : zf k pc = some (.i2c, x, y, z, iv)) : zR d k pc ls (.int a :: r) h Q = zR d k (pc + 1) ls (.int ((a.toUInt32 % 65536).toInt32) :: r) h Q := zR_next hf rfl
theorem q_ladd {a b : Int64} (hf : zf k pc = some (.ladd, x, y, z, iv)) : zR d k pc ls (.long b :: .long a :: r) h Q = zR d k (pc + 1) ls (.long (a + b) :: r) h Q := zR_next hf rfl
theorem q_lsub {a b : Int64} (hf : zf k pc = some (.lsub, x, y, z, iv)) : zR d k pc ls (.long b :: .long a :: r) h Q = zR d k (pc + 1) ls (.long (a - b) :: r) h Q := zR_next hf rfl
theorem q_lmul {a b : Int64} (hf : zf k pc = some (.lmul, x, y, z, iv)) : zR d k pc ls (.long b :: .long a :: r) h Q = zR d k (pc + 1) ls (.long (a * b) :: r) h Q := zR_next hf rfl
theorem q_land {a b : Int64} (hf : zf k pc = some (.land, x, y, z, iv)) : zR d k pc ls (.long b :: .long a :: r) h Q = zR d k (pc + 1) ls (.long (a &&& b) :: r) h Q := zR_next hf rfl
theorem q_lor {a b : Int64} (hf : zf k pc = some (.lor, x, y, z, iv)) : zR d k pc ls (.long b :: .long a :: r) h Q = zR d k (pc + 1) ls (.long (a ||| b) :: r) h Q := zR_next hf rfl
theorem q_lxor {a b : Int64} (hf : zf k pc = some (.lxor, x, y, z, iv)) : zR d k pc ls (.long b :: .long a :: r) h Q = zR d k (pc + 1) ls (.long (a ^^^ b) :: r) h Q := zR_next hf rfl
theorem q_ldiv {a b : Int64} (hf : zf k pc = some (.ldiv, x, y, z, iv)) (hb : ¬ b = 0) : zR d k pc ls (.long b :: .long a :: r) h Q = zR d k (pc + 1) ls (.long (a / b) :: r) h Q := zR_next hf (by simp only [zx, hb, if_false])
theorem q_lrem {a b : Int64} (hf : zf k pc = some (.lrem, x, y, z, iv)) (hb : ¬ b = 0) : zR d k pc ls (.long b :: .long a :: r) h Q = zR d k (pc + 1) ls (.long (a - a / b * b) :: r) h Q := zR_next hf (by simp only [zx, hb, if_false])
theorem q_lshl {a : Int64} {b : Int32} (hf : zf k pc = some (.lshl, x, y, z, iv)) : zR d k pc ls (.int b :: .long a :: r) h Q = zR d k (pc + 1) ls (.long (a <<< (b.toInt64 &&& 63)) :: r) h Q := zR_next hf rfl
theorem q_lushr {a : Int64} {b : Int32} (hf : zf k pc = some (.lushr, x, y, z, iv)) : zR d k pc ls (.int b :: .long a :: r) h Q = zR d k (pc + 1) ls (.long ((a.toUInt64 >>> (b.toInt64.toUInt64 &&& Int64.toUInt64 63)).toInt64) :: r) h Q := zR_next hf rfl
theorem q_lneg {a : Int64} (hf : zf k pc = some (.lneg, x, y, z, iv)) : zR d k pc ls (.long a :: r) h Q = zR d k (pc + 1) ls (.long (-a) :: r) h Q := zR_next hf rfl
theorem q_i2l {a : Int32} (hf : zf k pc = some (.i2l, x, y, z, iv)) : zR d k pc ls (.int a :: r) h Q = zR d k (pc + 1) ls (.long a.toInt64 :: r) h Q := zR_next hf rfl
theorem q_l2i {a : Int64} (hf : zf k pc = some (.l2i, x, y, z, iv)) : zR d k pc ls (.long a :: r) h Q = zR d k (pc + 1) ls (.int a.toInt32 :: r) h Q := zR_next hf rfl
theorem q_lcmp {a b : Int64} (hf : zf k pc = some (.lcmp, x, y, z, iv)) : zR d k pc ls (.long b :: .long a :: r) h Q = zR d k (pc + 1) ls (.int (lg_cmp a b) :: r) h Q := zR_next hf rfl
theorem q_goto {o : Int} {t : Nat} (hf : zf k pc = some (.goto o, x, t, z, iv)) : zR d k pc ls st h Q = zR d k t ls st h Q := zR_next hf rfl
theorem q_icmp_eq {a b : Int32} {o : Int} {t : Nat} (hf : zf k pc = some (.if_icmp .eq o, x, t, z, iv)) : zR d k pc ls (.int b :: .int a :: r) h Q = if a = b then zR d k t ls r h Q else zR d k (pc + 3) ls r h Q := by
  by_cases hc : a = b
  · rw [if_pos hc]; exact zR_next hf (by simp [zx, zcm, hc])
  · rw [if_neg hc]; exact zR_next hf (by simp only [zx, zcm, decide_eq_false hc, cond_false])
theorem q_if_eq {a : Int32} {o : Int} {t : Nat} (hf : zf k pc = some (.ifCond .eq o, x, t, z, iv)) : zR d k pc ls (.int a :: r) h Q = if a = 0 then zR d k t ls r h Q else zR d k (pc + 3) ls r h Q := by
  by_cases hc : a = 0
  · rw [if_pos hc]; exact zR_next hf (by simp only [zx, zcm, decide_eq_true hc, cond_true])
  · rw [if_neg hc]; exact zR_next hf (by simp only [zx, zcm, decide_eq_false hc, cond_false])
theorem q_icmp_ne {a b : Int32} {o : Int} {t : Nat} (hf : zf k pc = some (.if_icmp .ne o, x, t, z, iv)) : zR d k pc ls (.int b :: .int a :: r) h Q = if a = b then zR d k (pc + 3) ls r h Q else zR d k t ls r h Q := by
  by_cases hc : a = b
  · rw [if_pos hc]; exact zR_next hf (by simp [zx, zcm, hc])
  · rw [if_neg hc]; exact zR_next hf (by simp [zx, zcm, hc])
theorem q_if_ne {a : Int32} {o : Int} {t : Nat} (hf : zf k pc = some (.ifCond .ne o, x, t, z, iv)) : zR d k pc ls (.int a :: r) h Q = if a = 0 then zR d k (pc + 3) ls r h Q else zR d k t ls r h Q := by
  by_cases hc : a = 0
  · rw [if_pos hc]; exact zR_next hf (by simp [zx, zcm, hc])
  · rw [if_neg hc]; exact zR_next hf (by simp [zx, zcm, hc])
theorem q_icmp_lt {a b : Int32} {o : Int} {t : Nat} (hf : zf k pc = some (.if_icmp .lt o, x, t, z, iv)) : zR d k pc ls (.int b :: .int a :: r) h Q = if a < b then zR d k t ls r h Q else zR d k (pc + 3) ls r h Q := by
  by_cases hc : a < b
  · rw [if_pos hc]; exact zR_next hf (by simp [zx, zcm, hc])
  · rw [if_neg hc]; exact zR_next hf (by simp only [zx, zcm, decide_eq_false hc, cond_false])
theorem q_if_lt {a : Int32} {o : Int} {t : Nat} (hf : zf k pc = some (.ifCond .lt o, x, t, z, iv)) : zR d k pc ls (.int a :: r) h Q = if a < 0 then zR d k t ls r h Q else zR d k (pc + 3) ls r h Q := by
  by_cases hc : a < 0
  · rw [if_pos hc]; exact zR_next hf (by simp only [zx, zcm, decide_eq_true hc, cond_true])
  · rw [if_neg hc]; exact zR_next hf (by simp only [zx, zcm, decide_eq_false hc, cond_false])
theorem q_icmp_ge {a b : Int32} {o : Int} {t : Nat} (hf : zf k pc = some (.if_icmp .ge o, x, t, z, iv)) : zR d k pc ls (.int b :: .int a :: r) h Q = if b ≤ a then zR d k t ls r h Q else zR d k (pc + 3) ls r h Q := by
  by_cases hc : b ≤ a
  · rw [if_pos hc]; exact zR_next hf (by simp [zx, zcm, hc])
  · rw [if_neg hc]; exact zR_next hf (by simp only [zx, zcm, decide_eq_false hc, cond_false])
theorem q_if_ge {a : Int32} {o : Int} {t : Nat} (hf : zf k pc = some (.ifCond .ge o, x, t, z, iv)) : zR d k pc ls (.int a :: r) h Q = if 0 ≤ a then zR d k t ls r h Q else zR d k (pc + 3) ls r h Q := by
  by_cases hc : 0 ≤ a
  · rw [if_pos hc]; exact zR_next hf (by simp only [zx, zcm, decide_eq_true hc, cond_true])
  · rw [if_neg hc]; exact zR_next hf (by simp only [zx, zcm, decide_eq_false hc, cond_false])
theorem q_icmp_gt {a b : Int32} {o : Int} {t : Nat} (hf : zf k pc = some (.if_icmp .gt o, x, t, z, iv)) : zR d k pc ls (.int b :: .int a :: r) h Q = if b < a then zR d k t ls r h Q else zR d k (pc + 3) ls r h Q := by
  by_cases hc : b < a
  · rw [if_pos hc]; exact zR_next hf (by simp [zx, zcm, hc])
  · rw [if_neg hc]; exact zR_next hf (by simp only [zx, zcm, decide_eq_false hc, cond_false])
theorem q_if_gt {a : Int32} {o : Int} {t : Nat} (hf : zf k pc = some (.ifCond .gt o, x, t, z, iv)) : zR d k pc ls (.int a :: r) h Q = if 0 < a then zR d k t ls r h Q else zR d k (pc + 3) ls r h Q := by
  by_cases hc : 0 < a
  · rw [if_pos hc]; exact zR_next hf (by simp only [zx, zcm, decide_eq_true hc, cond_true])
  · rw [if_neg hc]; exact zR_next hf (by simp only [zx, zcm, decide_eq_false hc, cond_false])
theorem q_icmp_le {a b : Int32} {o : Int} {t : Nat} (hf : zf k pc = some (.if_icmp .le o, x, t, z, iv)) : zR d k pc ls (.int b :: .int a :: r) h Q = if a ≤ b then zR d k t ls r h Q else zR d k (pc + 3) ls r h Q := by
  by_cases hc : a ≤ b
  · rw [if_pos hc]; exact zR_next hf (by simp [zx, zcm, hc])
  · rw [if_neg hc]; exact zR_next hf (by simp only [zx, zcm, decide_eq_false hc, cond_false])
theorem q_if_le {a : Int32} {o : Int} {t : Nat} (hf : zf k pc = some (.ifCond .le o, x, t, z, iv)) : zR d k pc ls (.int a :: r) h Q = if a ≤ 0 then zR d k t ls r h Q else zR d k (pc + 3) ls r h Q := by
  by_cases hc : a ≤ 0
  · rw [if_pos hc]; exact zR_next hf (by simp only [zx, zcm, decide_eq_true hc, cond_true])
  · rw [if_neg hc]; exact zR_next hf (by simp only [zx, zcm, decide_eq_false hc, cond_false])
theorem q_ireturn {a : Int32} (hf : zf k pc = some (.ireturn, x, y, z, iv)) (ht : (zm k).2.2.2.1 = some .int) : zR d k pc ls [.int a] h Q = Q (some (.int a)) h := zR_ret hf (by simp [zx, zro, ht])
theorem q_zreturn {a : Int32} (hf : zf k pc = some (.ireturn, x, y, z, iv)) (ht : (zm k).2.2.2.1 = some .boolean) (ha : (decide (a = 0) || decide (a = 1)) = true) : zR d k pc ls [.int a] h Q = Q (some (.int a)) h := zR_ret hf (by simp only [zx, zro, ht, ha, if_true])
theorem q_creturn {a : Int32} (hf : zf k pc = some (.ireturn, x, y, z, iv)) (ht : (zm k).2.2.2.1 = some .char) (ha : narrow .char (.int a) = .int a) : zR d k pc ls [.int a] h Q = Q (some (.int a)) h := zR_ret hf (by simp [zx, zro, ht, ha])
theorem q_lreturn {a : Int64} (hf : zf k pc = some (.lreturn, x, y, z, iv)) (ht : (zm k).2.2.2.1 = some .long) : zR d k pc ls [.long a] h Q = Q (some (.long a)) h := zR_ret hf (by simp [zx, ht])
theorem q_areturn {a : Nat} (hf : zf k pc = some (.areturn, x, y, z, iv)) (ht : (zm k).2.2.2.1 = some (.object "ProphetFines$Republic")) (ha : 8 ≤ a) : zR d k pc ls [.ref a] h Q = Q (some (.ref a)) h := zR_ret hf (by simp [zx, ht, ha])
theorem q_return {d k pc : Nat} {ls : zL} (hf : zf k pc = some (.return_, x, y, z, iv)) (ht : (zm k).2.2.2.1 = none) : zR d k pc ls [] h Q = Q none h := zR_ret hf (by simp [zx, ht])
/-- calls: the values on the stack, the top first -/
theorem q_scall {a n : Nat} {as : List Value} (hf : zf k pc = some (.invokestatic v, x, a, z, iv)) (ha : a < 218 ∨ (219 < a ∧ a < 226)) (hn : (zm a).2.2.2.2.1 = n) (hs : st.take n = as.reverse) (hl : n ≤ st.length) (hc : zcs (st.drop n) ≤ 8) (hw : zcs (st.take n) ≤ (zm a).2.2.1) : zR (d + 1) k pc ls st h Q = zR d a 0 (ze as 0) [] h (fun u g => zR (d + 1) k (pc + 3) ls (u.toList ++ st.drop n) g Q) := by
  refine zR_call hf ?_
  simp only [zx]
  rw [if_neg (by omega), if_neg (by omega), if_neg (by omega), if_pos (by omega), hn]
  simp only [zcl]
  rw [if_pos ⟨hl, hc, hw⟩, hs, List.reverse_reverse]
theorem q_abs {q : Int64} (hf : zf k pc = some (.invokestatic v, x, 218, z, iv)) (hc : zcs r ≤ 8) : zR d k pc ls (.long q :: r) h Q = zR d k (pc + 3) ls (.long (if 0 < q then q else -q) :: r) h Q := zR_next hf (by simp only [zx]; rw [if_neg (by omega)]; simp only [if_true, hc])
theorem q_max {q u : Int64} (hf : zf k pc = some (.invokestatic v, x, 219, z, iv)) (hc : zcs r ≤ 8) : zR d k pc ls (.long q :: .long u :: r) h Q = zR d k (pc + 3) ls (.long (if q < u then u else q) :: r) h Q := zR_next hf (by simp only [zx]; rw [if_neg (by omega), if_neg (by omega)]; simp only [if_true, hc])
theorem q_vcall {a n ci b : Nat} {as r : List Value} (hf : zf k pc = some (.invokevirtual v, x, a, z, iv)) (ha : a < 226) (hn : (zm a).2.2.2.2.1 = n) (hd : st.drop n = .ref b :: r) (hk : (zm a).2.2.2.2.2 = ci) (hb : zrc h (.ref b) ci = true) (hs : st.take (n + 1) = as.reverse) (hl : n + 1 ≤ st.length) (hc : zcs r ≤ 8) (hw : zcs (st.take (n + 1)) ≤ (zm a).2.2.1) : zR (d + 1) k pc ls st h Q = zR d a 0 (ze as 0) [] h (fun u g => zR (d + 1) k (pc + 3) ls (u.toList ++ r) g Q) := by
  have hd1 : st.drop (n + 1) = r := by rw [← List.drop_drop, hd]; rfl
  refine zR_call hf ?_
  simp only [zx]
  rw [if_pos ha, hn, hd, hk]
  dsimp only
  rw [if_pos hb]
  simp only [zcl]
  rw [hd1, if_pos ⟨hl, hc, hw⟩, hs, List.reverse_reverse]
theorem zrc_view {L : Nat} {s : zG} {b ci : Nat} (h1 : (zwa b).1 = ci) (h2 : ci < 9) (h3 : 0 < (zkt.getD ci []).length) : zrc (zv L s) (.ref b) ci = true := by
  obtain ⟨g1, g2, g3⟩ := zcell_obj h1 h2 L s
  have e : (zv L s).2.2 b = .inr (ci, zfs s b ci) := g1
  have h9 : Nat.beq ci 9 = false := by
    cases hq : Nat.beq ci 9 with
    | false => rfl
    | true => have := Nat.eq_of_beq_eq_true hq; omega
  simp only [zrc, h9, g2, e, zkO, Nat.beq_refl, Bool.and_self, Bool.true_and]
  rw [if_neg (by decide)]
  rw [zfs_len, Nat.blt_eq]
  exact h3
end ZQ
