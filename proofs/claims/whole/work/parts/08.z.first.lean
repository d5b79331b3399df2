/-! the law up to its loop: both objects are made -/
theorem zJ_start (L : Nat) (xs : Nat → Int32) : zJ (.inl (0, L, .inl xs)) (0, 0, zoj) = (0, 0, zold L xs) := by
  refine Prod.ext rfl (Prod.ext rfl (funext fun q => ?_))
  show (if q = 0 then .inl (0, L, .inl xs) else zoj q) = zold L xs q
  by_cases h : q = 0
  · rw [if_pos h, h]
    rfl
  · rw [if_neg h]
    unfold zoj
    rw [if_neg h]
    unfold zold
    split
    · exact absurd rfl h
    · rfl
    · rfl
    · rfl
    · rfl
    · rfl
    · rfl
    · rfl
theorem zrB_is : zrun 20000 40 85 0 (ze [.ref 8] 0) [] zhA = some (none, zhB) := zrn_of (h := zhA) zrB_ok
theorem zrD_is : zrun 20000 40 132 0 (ze [.ref 292] 0) [] zhC = some (none, zhD) := zrn_of (h := zhC) zrD_ok
theorem zp_at0 (h : zH) (c : zC) (n : Nat) : (zp h c n).2.2 0 = h.2.2 0 := if_neg (by omega)
theorem zhA_0 : zhA.2.2 0 = zjk := by
  unfold zhA
  rw [zp_at0]
  rfl
theorem zhC_0 : zhC.2.2 0 = zjk := by
  have h1 := (zrun_J zjk 20000 zhA_0 zrB_is).2
  unfold zhC
  rw [zp_at0]
  exact h1
theorem z_run0 {n d k : Nat} {as : List Value} {h h' : zH} (e : zrun n d k 0 (ze as 0) [] h = some (none, h')) (Q : Option Value → zH → Prop) : zR d k 0 (ze as 0) [] h Q = Q none h' := zR_det ⟨n, (none, h'), e, rfl, rfl⟩ Q
theorem f_226_0 : zf 226 0 = some (.new 7, 3, 7, 0, 0) := rfl
theorem f_226_3 : zf 226 3 = some (.dup, 1, 0, 0, 0) := rfl
theorem f_226_4 : zf 226 4 = some (.invokespecial 9, 3, 85, 0, 0) := rfl
theorem f_226_7 : zf 226 7 = some (.astore_n 1, 1, 0, 0, 0) := rfl
theorem f_226_8 : zf 226 8 = some (.new 10, 3, 8, 0, 0) := rfl
theorem f_226_11 : zf 226 11 = some (.dup, 1, 0, 0, 0) := rfl
theorem f_226_12 : zf 226 12 = some (.invokespecial 12, 3, 132, 0, 0) := rfl
theorem f_226_15 : zf 226 15 = some (.astore_n 2, 1, 0, 0, 0) := rfl
theorem f_226_16 : zf 226 16 = some (.iconst 0, 1, 0, 0, 0) := rfl
theorem f_226_17 : zf 226 17 = some (.istore_n 3, 1, 0, 0, 0) := rfl
theorem z_icall {d k pc a v x z b : Nat} {iv : Int} {ls : zL} {h : zH} {Q : Option Value → zH → Prop} (hf : zf k pc = some (.invokespecial v, x, a, z, iv)) (ha : a < 226) (hn : (zm a).2.2.2.2.1 = 0) (hb : b ≠ 7) (hm : 1 ≤ (zm a).2.2.1) : zR (d + 1) k pc ls [.ref b, .ref b] h Q = zR d a 0 (ze [.ref b] 0) [] h (fun u g => zR (d + 1) k (pc + 3) ls (u.toList ++ [.ref b]) g Q) := by
  refine zR_call hf ?_
  simp only [zx]
  rw [if_neg (by omega), if_pos ha, hn]
  show (if Nat.beq b 7 = true then none else zcl a 1 [.ref b, .ref b]) = _
  rw [if_neg (by
    intro q
    exact hb (Nat.eq_of_beq_eq_true q))]
  unfold zcl
  rw [if_pos ⟨by simp, by show 1 ≤ 8; decide, by show 1 ≤ _; exact hm⟩]
  rfl
theorem z_first (L : Nat) (xs : Nat → Int32) (Q : Option Value → zH → Prop) : zR 41 226 0 (ze [.ref 0] 0) [] (0, 0, zold L xs) Q = zR 41 226 18 (z1 (z1 (z1 (ze [.ref 0] 0) 1 (.ref 8)) 2 (.ref 292)) 3 (.int 0)) [] (zv L (zs0 xs)) Q := by
  have e1 : zp (0, 0, zold L xs) (.inr (7, zdf 7)) 10 = zJ (.inl (0, L, .inl xs)) zhA := by
    unfold zhA
    rw [← zp_J, zJ_start]
  have e2 : zp (zJ (.inl (0, L, .inl xs)) zhB) (.inr (8, zdf 8)) 26 = zJ (.inl (0, L, .inl xs)) zhC := by
    unfold zhC
    rw [← zp_J]
  have r1 := (zrun_J (.inl (0, L, .inl xs)) 20000 zhA_0 zrB_is).1
  have r2 := (zrun_J (.inl (0, L, .inl xs)) 20000 zhC_0 zrD_is).1
  have s1 : zR 41 226 0 (ze [.ref 0] 0) [] (0, 0, zold L xs) Q = zR 41 226 3 (ze [.ref 0] 0) [.ref 8] (zJ (.inl (0, L, .inl xs)) zhA) Q := by
    rw [← e1]
    exact zR_next f_226_0 rfl
  rw [s1, q_dup f_226_3 rfl, z_icall f_226_4 (by decide) rfl (by decide) (by decide), z_run0 r1]
  show zR 41 226 7 (ze [.ref 0] 0) [.ref 8] (zJ (.inl (0, L, .inl xs)) zhB) Q = _
  rw [q_astore_n (n := 1) f_226_7 rfl (by decide) (by decide)]
  have s2 : zR 41 226 8 (z1 (ze [.ref 0] 0) 1 (.ref 8)) [] (zJ (.inl (0, L, .inl xs)) zhB) Q = zR 41 226 11 (z1 (ze [.ref 0] 0) 1 (.ref 8)) [.ref 292] (zJ (.inl (0, L, .inl xs)) zhC) Q := by
    rw [← e2]
    have e3 : 8 + (zJ (.inl (0, L, .inl xs)) zhB).1 = 292 := by
      rw [zJ_1, zhB_n]
    rw [← e3]
    exact zR_next f_226_8 rfl
  rw [s2, q_dup f_226_11 rfl, z_icall f_226_12 (by decide) rfl (by decide) (by decide), z_run0 r2]
  show zR 41 226 15 (z1 (ze [.ref 0] 0) 1 (.ref 8)) [.ref 292] (zJ (.inl (0, L, .inl xs)) zhD) Q = _
  rw [q_astore_n (n := 2) f_226_15 rfl (by decide) (by decide), q_iconst (e := 0) f_226_16 rfl, q_istore_n (n := 3) f_226_17 rfl (by decide), zhX_is, zhX_view]
/-- what is left: the law's loop over the view -/
theorem z_left {p : Program} {e : Env} {s : State} {m : MethodId} {below : List Frame} {meth : Method} {c : Code} (l : Launch) {b L : Nat} {xs : Nat → Int32} (C0 : lw_At p s m meth c b L xs) (hR : zR 41 226 18 (z1 (z1 (z1 (ze [.ref 0] 0) 1 (.ref 8)) 2 (.ref 292)) 3 (.int 0)) [] (zv L (zs0 xs)) (fun v h' => v = some (.int 1) ∧ ∃ s', h' = zv L s')) : W p l e room_1 s m #[Value.ref b] below meth c s.heap [] 0 0 (lw_Z below #[Value.ref b] s) (entryFrame m ([Value.ref b] : List Value).toArray 4) := by
  refine z_whole l C0 (d := 41) (by decide) ?_
  rw [z_first]
  obtain ⟨n, u, h1, h2, s', h3⟩ := hR
  refine ⟨n, u, h1, h2, ?_⟩
  rw [h3]
  exact ⟨by show 300 ≤ _; decide, by show 5604 ≤ _; decide⟩
