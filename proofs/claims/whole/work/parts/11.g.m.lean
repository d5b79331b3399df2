/-! THE INVARIANT, in groups; what it costs to write a cell -/
def gA (s : zG) (K o : Nat) (fam : Nat → Ab) : Prop := s.1 41 1 = nI o ∧ s.1 41 2 = nI K ∧ s.1 292 16 = nI K ∧ (∀ i, i < K → RC s (43 + 9 * ((o + i) % 24)) (fam i)) ∧ ∀ i, i < K → RM7 (fun j => s.1 300 (77 * i + j)) (fam i)
theorem gA.fr {s s' : zG} {K o : Nat} {fam : Nat → Ab} (h : gA s K o fam) (e : ∀ a j, a = 41 ∨ (43 ≤ a ∧ a ≤ 258) ∨ a = 300 ∨ (a = 292 ∧ j = 16) → s'.1 a j = s.1 a j) : gA s' K o fam := by
  refine ⟨(e 41 1 (by omega)).trans h.1, (e 41 2 (by omega)).trans h.2.1, (e 292 16 (by omega)).trans h.2.2.1, fun i hi => (h.2.2.2.1 i hi).fr (fun b h1 h2 => funext fun j => e b j (by omega)), fun i hi => ?_⟩
  have e2 : (fun j => s'.1 300 (77 * i + j)) = fun j => s.1 300 (77 * i + j) := funext fun j => e 300 _ (by omega)
  rw [e2]
  exact h.2.2.2.2 i hi
theorem gA_u {f : Nat → Nat → Int32} {g : Nat → Nat → Int64} {a b : Nat} {x : Int32} {K o : Nat} {fam : Nat → Ab} (h : ¬ (a = 41 ∨ (43 ≤ a ∧ a ≤ 258) ∨ a = 300 ∨ (a = 292 ∧ b = 16))) : gA (zU f a b x, g) K o fam = gA (f, g) K o fam := by
  refine propext ⟨fun r => r.fr (fun p q hq => ?_), fun r => r.fr (fun p q hq => ?_)⟩
  · exact (zU_o (by omega)).symm
  · exact zU_o (by omega)
theorem gA_l {f : Nat → Nat → Int32} {g : Nat → Nat → Int64} {a b : Nat} {x : Int64} {K o : Nat} {fam : Nat → Ab} : gA (f, zUl g a b x) K o fam = gA (f, g) K o fam := rfl
theorem gA_e {s : zG} {K o : Nat} {fam : Nat → Ab} : gA (s.1, s.2) K o fam = gA s K o fam := rfl
def gI (s : zG) (im : Nat → Ab) : Prop := ∀ k, k < 2 → Ok (im k) ∧ RC s (274 + 9 * k) (im k) ∧ RM (fun j => s.1 306 (89 * k + j)) (im k)
theorem gI.fr {s s' : zG} {im : Nat → Ab} (h : gI s im) (e : ∀ a j, (274 ≤ a ∧ a ≤ 291) ∨ a = 306 → s'.1 a j = s.1 a j) : gI s' im := by
  intro k hk
  obtain ⟨h1, h2, h3⟩ := h k hk
  have e2 : (fun j => s'.1 306 (89 * k + j)) = fun j => s.1 306 (89 * k + j) := funext fun j => e 306 _ (by omega)
  rw [e2]
  exact ⟨h1, h2.fr (fun b q1 q2 => funext fun j => e b j (by omega)), h3⟩
theorem gI_u {f : Nat → Nat → Int32} {g : Nat → Nat → Int64} {a b : Nat} {x : Int32} {im : Nat → Ab} (h : ¬ ((274 ≤ a ∧ a ≤ 291) ∨ a = 306)) : gI (zU f a b x, g) im = gI (f, g) im := by
  refine propext ⟨fun r => r.fr (fun p q hq => ?_), fun r => r.fr (fun p q hq => ?_)⟩
  · exact (zU_o (by omega)).symm
  · exact zU_o (by omega)
theorem gI_l {f : Nat → Nat → Int32} {g : Nat → Nat → Int64} {a b : Nat} {x : Int64} {im : Nat → Ab} : gI (f, zUl g a b x) im = gI (f, g) im := rfl
theorem gI_e {s : zG} {im : Nat → Ab} : gI (s.1, s.2) im = gI s im := rfl
def gD (s : zG)  : Prop := s.1 32 4 = nI 0 ∧ s.1 32 5 = nI 0 ∧ ∀ p, p < 5 → s.1 36 p = nI 0 ∧ s.1 37 p = nI 0 ∧ s.1 38 p = nI 0
theorem gD.fr {s s' : zG}  (h : gD s ) (e : ∀ a j, (a = 32 ∧ (j = 4 ∨ j = 5)) ∨ (36 ≤ a ∧ a ≤ 38) → s'.1 a j = s.1 a j) : gD s'  := by
  refine ⟨(e 32 4 (by omega)).trans h.1, (e 32 5 (by omega)).trans h.2.1, fun p hp => ?_⟩
  obtain ⟨h1, h2, h3⟩ := h.2.2 p hp
  exact ⟨(e 36 p (by omega)).trans h1, (e 37 p (by omega)).trans h2, (e 38 p (by omega)).trans h3⟩
theorem gD_u {f : Nat → Nat → Int32} {g : Nat → Nat → Int64} {a b : Nat} {x : Int32}  (h : ¬ ((a = 32 ∧ (b = 4 ∨ b = 5)) ∨ (36 ≤ a ∧ a ≤ 38))) : gD (zU f a b x, g)  = gD (f, g)  := by
  refine propext ⟨fun r => r.fr (fun p q hq => ?_), fun r => r.fr (fun p q hq => ?_)⟩
  · exact (zU_o (by omega)).symm
  · exact zU_o (by omega)
theorem gD_l {f : Nat → Nat → Int32} {g : Nat → Nat → Int64} {a b : Nat} {x : Int64}  : gD (f, zUl g a b x)  = gD (f, g)  := rfl
theorem gD_e {s : zG}  : gD (s.1, s.2)  = gD s  := rfl
def gW (s : zG)  : Prop := ∀ r, r < 8 → ((s.1 20 r = -nI 1 ∧ s.1 294 r = -nI 1) ∨ ∃ n l, n ≤ 40 ∧ l < 3 ∧ s.1 20 r = nI n ∧ s.1 19 r = nI l ∧ s.1 294 r = nI l ∧ s.1 295 r = nI n) ∧ ∀ j, j < 40 → s.1 (11 + r) j = s.1 296 (40 * r + j)
theorem gW.fr {s s' : zG}  (h : gW s ) (e : ∀ a j, (11 ≤ a ∧ a ≤ 20) ∨ (294 ≤ a ∧ a ≤ 296) → s'.1 a j = s.1 a j) : gW s'  := by
  intro r hr
  obtain ⟨h1, h2⟩ := h r hr
  rw [e 20 r (by omega), e 294 r (by omega), e 19 r (by omega), e 295 r (by omega)]
  refine ⟨h1, fun j hj => ?_⟩
  rw [e (11 + r) j (by omega), e 296 _ (by omega)]
  exact h2 j hj
theorem gW_u {f : Nat → Nat → Int32} {g : Nat → Nat → Int64} {a b : Nat} {x : Int32}  (h : ¬ ((11 ≤ a ∧ a ≤ 20) ∨ (294 ≤ a ∧ a ≤ 296))) : gW (zU f a b x, g)  = gW (f, g)  := by
  refine propext ⟨fun r => r.fr (fun p q hq => ?_), fun r => r.fr (fun p q hq => ?_)⟩
  · exact (zU_o (by omega)).symm
  · exact zU_o (by omega)
theorem gW_l {f : Nat → Nat → Int32} {g : Nat → Nat → Int64} {a b : Nat} {x : Int64}  : gW (f, zUl g a b x)  = gW (f, g)  := rfl
theorem gW_e {s : zG}  : gW (s.1, s.2)  = gW s  := rfl
def gT (s : zG)  : Prop := ∃ n, n ≤ 100 ∧ s.1 21 1 = nI n ∧ s.1 292 6 = nI n ∧ ∀ j, j < n → s.1 22 j = s.1 297 j ∧ ∃ b, b < 256 ∧ s.1 22 j = nI b
theorem gT.fr {s s' : zG}  (h : gT s ) (e : ∀ a j, (a = 21 ∧ j = 1) ∨ a = 22 ∨ a = 297 ∨ (a = 292 ∧ j = 6) → s'.1 a j = s.1 a j) : gT s'  := by
  obtain ⟨n, h1, h2, h3, h4⟩ := h
  refine ⟨n, h1, (e 21 1 (by omega)).trans h2, (e 292 6 (by omega)).trans h3, fun j hj => ?_⟩
  rw [e 22 j (by omega), e 297 j (by omega)]
  exact h4 j hj
theorem gT_u {f : Nat → Nat → Int32} {g : Nat → Nat → Int64} {a b : Nat} {x : Int32}  (h : ¬ ((a = 21 ∧ b = 1) ∨ a = 22 ∨ a = 297 ∨ (a = 292 ∧ b = 6))) : gT (zU f a b x, g)  = gT (f, g)  := by
  refine propext ⟨fun r => r.fr (fun p q hq => ?_), fun r => r.fr (fun p q hq => ?_)⟩
  · exact (zU_o (by omega)).symm
  · exact zU_o (by omega)
theorem gT_l {f : Nat → Nat → Int32} {g : Nat → Nat → Int64} {a b : Nat} {x : Int64}  : gT (f, zUl g a b x)  = gT (f, g)  := rfl
theorem gT_e {s : zG}  : gT (s.1, s.2)  = gT s  := rfl
def gF (s : zG)  : Prop := s.1 21 4 = s.1 292 7
theorem gF.fr {s s' : zG}  (h : gF s ) (e : ∀ a j, (a = 21 ∧ j = 4) ∨ (a = 292 ∧ j = 7) → s'.1 a j = s.1 a j) : gF s'  := by
  unfold gF
  rw [e 21 4 (by omega), e 292 7 (by omega)]
  exact h
theorem gF_u {f : Nat → Nat → Int32} {g : Nat → Nat → Int64} {a b : Nat} {x : Int32}  (h : ¬ ((a = 21 ∧ b = 4) ∨ (a = 292 ∧ b = 7))) : gF (zU f a b x, g)  = gF (f, g)  := by
  refine propext ⟨fun r => r.fr (fun p q hq => ?_), fun r => r.fr (fun p q hq => ?_)⟩
  · exact (zU_o (by omega)).symm
  · exact zU_o (by omega)
theorem gF_l {f : Nat → Nat → Int32} {g : Nat → Nat → Int64} {a b : Nat} {x : Int64}  : gF (f, zUl g a b x)  = gF (f, g)  := rfl
theorem gF_e {s : zG}  : gF (s.1, s.2)  = gF s  := rfl
def gS (s : zG)  : Prop := s.1 8 9 = s.1 292 4
theorem gS.fr {s s' : zG}  (h : gS s ) (e : ∀ a j, (a = 8 ∧ j = 9) ∨ (a = 292 ∧ j = 4) → s'.1 a j = s.1 a j) : gS s'  := by
  unfold gS
  rw [e 8 9 (by omega), e 292 4 (by omega)]
  exact h
theorem gS_u {f : Nat → Nat → Int32} {g : Nat → Nat → Int64} {a b : Nat} {x : Int32}  (h : ¬ ((a = 8 ∧ b = 9) ∨ (a = 292 ∧ b = 4))) : gS (zU f a b x, g)  = gS (f, g)  := by
  refine propext ⟨fun r => r.fr (fun p q hq => ?_), fun r => r.fr (fun p q hq => ?_)⟩
  · exact (zU_o (by omega)).symm
  · exact zU_o (by omega)
theorem gS_l {f : Nat → Nat → Int32} {g : Nat → Nat → Int64} {a b : Nat} {x : Int64}  : gS (f, zUl g a b x)  = gS (f, g)  := rfl
theorem gS_e {s : zG}  : gS (s.1, s.2)  = gS s  := rfl
def gC (s : zG)  : Prop := ∃ n, n ≤ 16 ∧ s.1 272 2 = nI n ∧ s.1 292 25 = nI n ∧ ∀ j, j < n → s.1 273 j = s.1 307 j
theorem gC.fr {s s' : zG}  (h : gC s ) (e : ∀ a j, (a = 272 ∧ j = 2) ∨ a = 273 ∨ a = 307 ∨ (a = 292 ∧ j = 25) → s'.1 a j = s.1 a j) : gC s'  := by
  obtain ⟨n, h1, h2, h3, h4⟩ := h
  refine ⟨n, h1, (e 272 2 (by omega)).trans h2, (e 292 25 (by omega)).trans h3, fun j hj => ?_⟩
  rw [e 273 j (by omega), e 307 j (by omega)]
  exact h4 j hj
theorem gC_u {f : Nat → Nat → Int32} {g : Nat → Nat → Int64} {a b : Nat} {x : Int32}  (h : ¬ ((a = 272 ∧ b = 2) ∨ a = 273 ∨ a = 307 ∨ (a = 292 ∧ b = 25))) : gC (zU f a b x, g)  = gC (f, g)  := by
  refine propext ⟨fun r => r.fr (fun p q hq => ?_), fun r => r.fr (fun p q hq => ?_)⟩
  · exact (zU_o (by omega)).symm
  · exact zU_o (by omega)
theorem gC_l {f : Nat → Nat → Int32} {g : Nat → Nat → Int64} {a b : Nat} {x : Int64}  : gC (f, zUl g a b x)  = gC (f, g)  := rfl
theorem gC_e {s : zG}  : gC (s.1, s.2)  = gC s  := rfl
theorem rm_u {f : Nat → Nat → Int32} {a b : Nat} {x : Int32} {A : Ab} (h : a ≠ 293) : RM (zU f a b x 293) A = RM (f 293) A := by
  rw [zU_other f b x (Ne.symm h)]
def Iv (s : zG) (A : Ab) (K : Nat) (o : Nat) (fam : Nat → Ab) (im : Nat → Ab) : Prop := (Ok A) ∧ (RC s 23 A) ∧ (RM (s.1 293) A) ∧ (K ≤ 24 ∧ o < 24) ∧ (∀ i, i < K → Ok (fam i) ∧ (fam i).P = A.P ∧ (fam i).kd = A.kd ∧ (fam i).hd = A.hd) ∧ (gA s K o fam) ∧ (gI s im) ∧ (gD s) ∧ (gW s) ∧ (gT s) ∧ (gF s) ∧ (gS s) ∧ (gC s)
theorem Iv.ok {s : zG} {A : Ab} {K : Nat} {o : Nat} {fam : Nat → Ab} {im : Nat → Ab} (h : Iv s A K o fam im) : Ok A := h.1
theorem Iv.rc {s : zG} {A : Ab} {K : Nat} {o : Nat} {fam : Nat → Ab} {im : Nat → Ab} (h : Iv s A K o fam im) : RC s 23 A := h.2.1
theorem Iv.rm {s : zG} {A : Ab} {K : Nat} {o : Nat} {fam : Nat → Ab} {im : Nat → Ab} (h : Iv s A K o fam im) : RM (s.1 293) A := h.2.2.1
theorem Iv.kk {s : zG} {A : Ab} {K : Nat} {o : Nat} {fam : Nat → Ab} {im : Nat → Ab} (h : Iv s A K o fam im) : K ≤ 24 ∧ o < 24 := h.2.2.2.1
theorem Iv.fo {s : zG} {A : Ab} {K : Nat} {o : Nat} {fam : Nat → Ab} {im : Nat → Ab} (h : Iv s A K o fam im) : ∀ i, i < K → Ok (fam i) ∧ (fam i).P = A.P ∧ (fam i).kd = A.kd ∧ (fam i).hd = A.hd := h.2.2.2.2.1
theorem Iv.a {s : zG} {A : Ab} {K : Nat} {o : Nat} {fam : Nat → Ab} {im : Nat → Ab} (h : Iv s A K o fam im) : gA s K o fam := h.2.2.2.2.2.1
theorem Iv.i {s : zG} {A : Ab} {K : Nat} {o : Nat} {fam : Nat → Ab} {im : Nat → Ab} (h : Iv s A K o fam im) : gI s im := h.2.2.2.2.2.2.1
theorem Iv.d {s : zG} {A : Ab} {K : Nat} {o : Nat} {fam : Nat → Ab} {im : Nat → Ab} (h : Iv s A K o fam im) : gD s := h.2.2.2.2.2.2.2.1
theorem Iv.w {s : zG} {A : Ab} {K : Nat} {o : Nat} {fam : Nat → Ab} {im : Nat → Ab} (h : Iv s A K o fam im) : gW s := h.2.2.2.2.2.2.2.2.1
theorem Iv.t {s : zG} {A : Ab} {K : Nat} {o : Nat} {fam : Nat → Ab} {im : Nat → Ab} (h : Iv s A K o fam im) : gT s := h.2.2.2.2.2.2.2.2.2.1
theorem Iv.f {s : zG} {A : Ab} {K : Nat} {o : Nat} {fam : Nat → Ab} {im : Nat → Ab} (h : Iv s A K o fam im) : gF s := h.2.2.2.2.2.2.2.2.2.2.1
theorem Iv.s {s : zG} {A : Ab} {K : Nat} {o : Nat} {fam : Nat → Ab} {im : Nat → Ab} (h : Iv s A K o fam im) : gS s := h.2.2.2.2.2.2.2.2.2.2.2.1
theorem Iv.c {s : zG} {A : Ab} {K : Nat} {o : Nat} {fam : Nat → Ab} {im : Nat → Ab} (h : Iv s A K o fam im) : gC s := h.2.2.2.2.2.2.2.2.2.2.2.2
theorem Iv.mk {s : zG} {A : Ab} {K : Nat} {o : Nat} {fam : Nat → Ab} {im : Nat → Ab} (ok_ : Ok A) (rc_ : RC s 23 A) (rm_ : RM (s.1 293) A) (kk_ : K ≤ 24 ∧ o < 24) (fo_ : ∀ i, i < K → Ok (fam i) ∧ (fam i).P = A.P ∧ (fam i).kd = A.kd ∧ (fam i).hd = A.hd) (a_ : gA s K o fam) (i_ : gI s im) (d_ : gD s) (w_ : gW s) (t_ : gT s) (f_ : gF s) (s_ : gS s) (c_ : gC s) : Iv s A K o fam im := ⟨ok_, rc_, rm_, kk_, fo_, a_, i_, d_, w_, t_, f_, s_, c_⟩
/-- scratch cells -/
def scr (a j : Nat) : Prop := (261 ≤ a ∧ a ≤ 271) ∨ a = 298 ∨ a = 299 ∨ (301 ≤ a ∧ a ≤ 305) ∨ (a = 292 ∧ (j = 9 ∨ j = 10 ∨ j = 11 ∨ j = 12 ∨ j = 13 ∨ j = 21))
theorem Iv.fr {s s' : zG} {A : Ab} {K o : Nat} {fam im : Nat → Ab} (h : Iv s A K o fam im) (e : ∀ a j, ¬ scr a j → s'.1 a j = s.1 a j) : Iv s' A K o fam im := by
  have ee : s'.1 293 = s.1 293 := funext fun j => e 293 j (by unfold scr; omega)
  refine Iv.mk h.ok (h.rc.fr (fun b h1 h2 => funext fun j => e b j (by unfold scr; omega))) (by rw [ee]; exact h.rm) h.kk h.fo ?_ ?_ ?_ ?_ ?_ ?_ ?_ ?_
  · exact h.a.fr (fun a j q => e a j (by unfold scr; omega))
  · exact h.i.fr (fun a j q => e a j (by unfold scr; omega))
  · exact h.d.fr (fun a j q => e a j (by unfold scr; omega))
  · exact h.w.fr (fun a j q => e a j (by unfold scr; omega))
  · exact h.t.fr (fun a j q => e a j (by unfold scr; omega))
  · exact h.f.fr (fun a j q => e a j (by unfold scr; omega))
  · exact h.s.fr (fun a j q => e a j (by unfold scr; omega))
  · exact h.c.fr (fun a j q => e a j (by unfold scr; omega))
theorem Iv.fc {s s' : zG} {A : Ab} {K o : Nat} {fam im : Nat → Ab} (h : Iv s A K o fam im) (e : FrC s s') : Iv s' A K o fam im := h.fr (fun a j q => congrFun (e a (by unfold scr at q; omega)) j)
def IV (s : zG) : Prop := ∃ A K o fam im, Iv s A K o fam im
theorem Iv.x {s : zG} {A : Ab} {K o : Nat} {fam im : Nat → Ab} (h : Iv s A K o fam im) : IV s := ⟨A, K, o, fam, im, h⟩
/-- what an operation owes -/
def FinI (L : Nat) (x : Int32) : Option Value → zH → Prop := fun w g => w = some (.int x) ∧ ∃ s, g = zv L s ∧ IV s
def FinJ (L : Nat) (x : Int64) : Option Value → zH → Prop := fun w g => w = some (.long x) ∧ ∃ s, g = zv L s ∧ IV s
def PostI (km : Nat) (as : List Value) (L : Nat) : Option Value → zH → Prop := fun w g => ∃ x s, w = some (.int x) ∧ g = zv L s ∧ zR 40 km 0 (ze (.ref 292 :: as) 0) [] (zv L s) (FinI L x)
def PostJ (km : Nat) (as : List Value) (L : Nat) : Option Value → zH → Prop := fun w g => ∃ x s, w = some (.long x) ∧ g = zv L s ∧ zR 40 km 0 (ze (.ref 292 :: as) 0) [] (zv L s) (FinJ L x)
def OpI (kc km : Nat) (as : List Value) : Prop := ∀ L s, IV s → zR 40 kc 0 (ze (.ref 8 :: as) 0) [] (zv L s) (PostI km as L)
def OpJ (kc km : Nat) (as : List Value) : Prop := ∀ L s, IV s → zR 40 kc 0 (ze (.ref 8 :: as) 0) [] (zv L s) (PostJ km as L)
theorem FinI.mk {L : Nat} {x : Int32} {s : zG} (h : IV s) : FinI L x (some (.int x)) (zv L s) := ⟨rfl, s, rfl, h⟩
theorem FinI.mk2 {L : Nat} {x y : Int32} {s : zG} (e : y = x) (h : IV s) : FinI L x (some (.int y)) (zv L s) := ⟨by rw [e], s, rfl, h⟩
theorem FinJ.mk {L : Nat} {x : Int64} {s : zG} (h : IV s) : FinJ L x (some (.long x)) (zv L s) := ⟨rfl, s, rfl, h⟩
theorem PostI.mk {km : Nat} {as : List Value} {L : Nat} {x : Int32} {s : zG} (h : zR 40 km 0 (ze (.ref 292 :: as) 0) [] (zv L s) (FinI L x)) : PostI km as L (some (.int x)) (zv L s) := ⟨x, s, rfl, rfl, h⟩
theorem PostJ.mk {km : Nat} {as : List Value} {L : Nat} {x : Int64} {s : zG} (h : zR 40 km 0 (ze (.ref 292 :: as) 0) [] (zv L s) (FinJ L x)) : PostJ km as L (some (.long x)) (zv L s) := ⟨x, s, rfl, rfl, h⟩
