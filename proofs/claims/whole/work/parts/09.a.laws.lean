/-! more laws over the view: statics, switches, calls of generic objects -/
section ZQ
variable {d k pc : Nat} {ls : zL} {st r : List Value} {h : zH} {Q : Option Value → zH → Prop} {x y z v w : Nat} {iv : Int} {L : Nat} {s : zG}
theorem q_getst {a : Nat} (hf : zf k pc = some (.getstatic v, x, a, z, iv)) (ha : (1 ≤ a ∧ a ≤ 4) ∨ a = 7) : zR d k pc ls st h Q = zR d k (pc + 3) ls (.ref a :: st) h Q := zR_next hf (by simp only [zx]; rw [if_neg (by omega), if_pos ha])
theorem q_getst1 (hf : zf k pc = some (.getstatic v, x, 8, z, iv)) : zR d k pc ls st h Q = zR d k (pc + 3) ls (.int 1 :: st) h Q := zR_next hf (by simp only [zx, if_true])
theorem zgk_rep {a b : Nat} (ha : (zwa a).1 = 4) (hb : b < 14) : zgk a 4 b = if b < 6 then 1 else 2 := by
  unfold zgk
  rw [if_pos ⟨ha, by decide⟩]
  rcases (show b = 0 ∨ b = 1 ∨ b = 2 ∨ b = 3 ∨ b = 4 ∨ b = 5 ∨ b = 6 ∨ b = 7 ∨ b = 8 ∨ b = 9 ∨ b = 10 ∨ b = 11 ∨ b = 12 ∨ b = 13 by omega) with rfl | rfl | rfl | rfl | rfl | rfl | rfl | rfl | rfl | rfl | rfl | rfl | rfl | rfl <;> rfl
theorem zrf_rep {a b : Nat} (ha : (zwa a).1 = 4) : zrf a b = a + b - 5 := by
  unfold zrf
  rw [ha]
  rfl
theorem v_repI {a b : Nat} (hf : zf k pc = some (.getfield v, x, 4, b, iv)) (ha : (zwa a).1 = 4) (hb : b < 6) : zR d k pc ls (.ref a :: r) (zv L s) Q = zR d k (pc + 3) ls (.int (s.1 a b) :: r) (zv L s) Q := v_getI hf (by rw [zgk_rep ha (by omega), if_pos hb])
theorem v_repA {a b e : Nat} (hf : zf k pc = some (.getfield v, x, 4, b, iv)) (ha : (zwa a).1 = 4) (hb : 6 ≤ b) (hb2 : b < 14) (he : a + b - 5 = e) : zR d k pc ls (.ref a :: r) (zv L s) Q = zR d k (pc + 3) ls (.ref e :: r) (zv L s) Q := v_getA hf (by rw [zgk_rep ha hb2, if_neg (by omega)]) (by rw [zrf_rep ha, he])
theorem v_repP {a b : Nat} {q : Int32} (hf : zf k pc = some (.putfield v, x, 4, b, iv)) (ha : (zwa a).1 = 4) (hb : b < 6) : zR d k pc ls (.int q :: .ref a :: r) (zv L s) Q = zR d k (pc + 3) ls r (zv L (zU s.1 a b q, s.2)) Q := v_putI hf (by rw [zgk_rep ha (by omega), if_pos hb])
theorem zI_ne {a : Int32} {n : Int} {b : Int32} (h : ¬ a = b) (hb : b.toInt = n) : a.toInt ≠ n := fun e => h (Int32.toInt_inj.mp (e.trans hb.symm))
end ZQ
theorem zcs_nil : zcs [] = 0 := rfl
theorem zcs_cons (v : Value) (r : List Value) : zcs (v :: r) = v.category + zcs r := by simp [zcs]
theorem cat_int (x : Int32) : (Value.int x).category = 1 := rfl
theorem cat_ref (x : Nat) : (Value.ref x).category = 1 := rfl
theorem cat_long (x : Int64) : (Value.long x).category = 2 := rfl
theorem zvA_ref (a : Nat) : zvA (.ref a) = !(Nat.beq a 7) := rfl
