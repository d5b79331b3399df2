def zw : List (Nat × Nat) := [(7, 0), (5, 0), (13, 8), (10, 40), (10, 40), (10, 40), (10, 40), (10, 40), (10, 40), (10, 40), (10, 40), (10, 8), (10, 8), (6, 0), (10, 100), (4, 0), (10, 6), (10, 5), (10, 5), (10, 5), (10, 5), (10, 5), (10, 12), (10, 12), (4, 0), (10, 6), (10, 5), (10, 5), (10, 5), (10, 5), (10, 5), (10, 12), (10, 12), (0, 0), (12, 24), (4, 0), (10, 6), (10, 5), (10, 5), (10, 5), (10, 5), (10, 5), (10, 12), (10, 12), (4, 0), (10, 6), (10, 5), (10, 5), (10, 5), (10, 5), (10, 5), (10, 12), (10, 12), (4, 0), (10, 6), (10, 5), (10, 5), (10, 5), (10, 5), (10, 5), (10, 12), (10, 12), (4, 0), (10, 6), (10, 5), (10, 5), (10, 5), (10, 5), (10, 5), (10, 12), (10, 12), (4, 0), (10, 6), (10, 5), (10, 5), (10, 5), (10, 5), (10, 5), (10, 12), (10, 12), (4, 0), (10, 6), (10, 5), (10, 5), (10, 5), (10, 5), (10, 5), (10, 12), (10, 12), (4, 0), (10, 6), (10, 5), (10, 5), (10, 5), (10, 5), (10, 5), (10, 12), (10, 12), (4, 0), (10, 6), (10, 5), (10, 5), (10, 5), (10, 5), (10, 5), (10, 12), (10, 12), (4, 0), (10, 6), (10, 5), (10, 5), (10, 5), (10, 5), (10, 5), (10, 12), (10, 12), (4, 0), (10, 6), (10, 5), (10, 5), (10, 5), (10, 5), (10, 5), (10, 12), (10, 12), (4, 0), (10, 6), (10, 5), (10, 5), (10, 5), (10, 5), (10, 5), (10, 12), (10, 12), (4, 0), (10, 6), (10, 5), (10, 5), (10, 5), (10, 5), (10, 5), (10, 12), (10, 12), (4, 0), (10, 6), (10, 5), (10, 5), (10, 5), (10, 5), (10, 5), (10, 12), (10, 12), (4, 0), (10, 6), (10, 5), (10, 5), (10, 5), (10, 5), (10, 5), (10, 12), (10, 12), (4, 0), (10, 6), (10, 5), (10, 5), (10, 5), (10, 5), (10, 5), (10, 12), (10, 12), (4, 0), (10, 6), (10, 5), (10, 5), (10, 5), (10, 5), (10, 5), (10, 12), (10, 12), (4, 0), (10, 6), (10, 5), (10, 5), (10, 5), (10, 5), (10, 5), (10, 12), (10, 12), (4, 0), (10, 6), (10, 5), (10, 5), (10, 5), (10, 5), (10, 5), (10, 12), (10, 12), (4, 0), (10, 6), (10, 5), (10, 5), (10, 5), (10, 5), (10, 5), (10, 12), (10, 12), (4, 0), (10, 6), (10, 5), (10, 5), (10, 5), (10, 5), (10, 5), (10, 12), (10, 12), (4, 0), (10, 6), (10, 5), (10, 5), (10, 5), (10, 5), (10, 5), (10, 12), (10, 12), (4, 0), (10, 6), (10, 5), (10, 5), (10, 5), (10, 5), (10, 5), (10, 12), (10, 12), (4, 0), (10, 6), (10, 5), (10, 5), (10, 5), (10, 5), (10, 5), (10, 12), (10, 12), (4, 0), (10, 6), (10, 5), (10, 5), (10, 5), (10, 5), (10, 5), (10, 12), (10, 12), (12, 2), (3, 0), (11, 12), (11, 12), (10, 12), (10, 12), (2, 0), (10, 12), (10, 57), (10, 57), (11, 57), (10, 3), (10, 3), (1, 0), (10, 16), (4, 0), (10, 6), (10, 5), (10, 5), (10, 5), (10, 5), (10, 5), (10, 12), (10, 12), (4, 0), (10, 6), (10, 5), (10, 5), (10, 5), (10, 5), (10, 5), (10, 12), (10, 12), (8, 0), (10, 89), (10, 8), (10, 8), (10, 320), (10, 100), (10, 40), (10, 89), (10, 1848), (10, 12), (10, 57), (10, 57), (11, 57), (10, 3), (10, 178), (10, 16)]
def zwa (a : Nat) : Nat × Nat := if a < 8 then (99, 0) else zw.getD (a - 8) (99, 0)
def zrs : List ((Nat × Nat) × Nat) := [((8, 0), 9), ((8, 1), 21), ((8, 2), 23), ((8, 3), 32), ((8, 4), 41), ((8, 5), 259), ((8, 6), 260), ((8, 7), 265), ((8, 8), 272), ((9, 0), 10), ((9, 1), 19), ((9, 2), 20), ((21, 0), 22), ((41, 0), 42), ((260, 0), 23), ((260, 1), 261), ((260, 2), 262), ((260, 3), 263), ((260, 4), 264), ((265, 0), 23), ((265, 1), 260), ((265, 2), 266), ((265, 3), 267), ((265, 4), 268), ((265, 5), 269), ((265, 7), 270), ((265, 8), 271), ((272, 0), 23), ((272, 1), 273), ((292, 0), 293), ((292, 1), 294), ((292, 2), 295), ((292, 3), 296), ((292, 5), 297), ((292, 8), 298), ((292, 14), 299), ((292, 15), 300), ((292, 17), 301), ((292, 18), 302), ((292, 19), 303), ((292, 20), 304), ((292, 22), 305), ((292, 23), 306), ((292, 24), 307)]
def zrl (a b : Nat) : List ((Nat × Nat) × Nat) → Nat
  | [] => 0
  | e :: l => bif Nat.beq e.1.1 a && Nat.beq e.1.2 b then e.2 else zrl a b l
def zrf (a b : Nat) : Nat := bif Nat.beq (zwa a).1 4 then a + b - 5 else zrl a b zrs
def zra (a i : Nat) : Nat := bif Nat.beq a 10 then 11 + i else bif Nat.beq a 42 then 43 + 9 * i else 274 + 9 * i
def zo1 (j : Nat) : Int32 := [(-1), 0, 1, 1, 0, 4].getD j 0
def zo2 (j : Nat) : Int64 := [(-6148914691236517206), (-3689348814741910324), (-1085102592571150096), (-71777214294589696), (-281470681808896), (-4294967296)].getD j 0
def zo3 (j : Nat) : Int32 := [10, 11, 12, 0, 13, 14].getD j 0
def zo4 (j : Nat) : Int32 := [20, 21, 24, 22, 23, 0].getD j 0
def zo6 (j : Nat) : Int32 := [46, 119, 108, 97, 111, 105].getD j 0
def zold (L : Nat) (xs : Nat → Int32) (a : Nat) : zC := match a with
  | 0 => .inl (0, L, .inl xs)
  | 1 => .inl (0, 6, .inl zo1)
  | 2 => .inl (1, 6, .inr (.inl zo2))
  | 3 => .inl (0, 6, .inl zo3)
  | 4 => .inl (0, 6, .inl zo4)
  | 5 => .inr (9, [.int 0, .ref 6])
  | 6 => .inl (4, 6, .inl zo6)
  | _ => .inr (99, [])

/-! THE CONSTRUCTORS, run by the kernel: the heap behind both -/
def zoj (a : Nat) : zC := if a = 0 then zjk else zold 0 (fun _ => 0) a
def zhA : zH := zp (0, 0, zoj) (.inr (7, zdf 7)) 10
def zrB : Option (Option Value × zH) := zrun 20000 40 85 0 (ze [.ref 8] 0) [] zhA
def zhB : zH := (zrB.getD (none, zhA)).2
def zhC : zH := zp zhB (.inr (8, zdf 8)) 26
def zrD : Option (Option Value × zH) := zrun 20000 40 132 0 (ze [.ref 292] 0) [] zhC
def zhD : zH := (zrD.getD (none, zhC)).2
def zrn (r : Option (Option Value × zH)) : Bool := match r with
  | some (none, _) => true
  | _ => false
theorem zrn_of {r : Option (Option Value × zH)} {h : zH} (e : zrn r = true) : r = some (none, (r.getD (none, h)).2) := by
  unfold zrn at e
  split at e
  · rfl
  · cases e
set_option maxRecDepth 1000000 in
theorem zrB_ok : zrn zrB = true := by decide +kernel
set_option maxRecDepth 1000000 in
theorem zhB_n : zhB.1 = 284 := by decide +kernel
set_option maxRecDepth 1000000 in
theorem zrD_ok : zrn zrD = true := by decide +kernel
set_option maxRecDepth 1000000 in
theorem zhD_n : zhD.1 = 300 ∧ zhD.2.1 = 5604 := by decide +kernel
def zsh (c : zC) (a : Nat) : Bool := match c with
  | .inl (0, n, .inl _) => Nat.beq (zwa a).1 10 && Nat.beq n (zwa a).2
  | .inl (1, n, .inr (.inl _)) => Nat.beq (zwa a).1 11 && Nat.beq n (zwa a).2
  | .inl (2, n, .inr (.inr f)) => Nat.beq (zwa a).1 12 && Nat.beq n (zwa a).2 && (List.range n).all (fun i => decide (f i = some (zra a i)))
  | .inl (3, n, .inr (.inr f)) => Nat.beq (zwa a).1 13 && Nat.beq n (zwa a).2 && (List.range n).all (fun i => decide (f i = some (zra a i)))
  | .inr (ci, fs) => Nat.beq (zwa a).1 ci && Nat.blt ci 9 && Nat.beq fs.length (zkt.getD ci []).length && (List.range fs.length).all (fun b => if (zkt.getD ci []).getD b 2 = 0 then zvI (fs.getD b .null) else decide (fs.getD b .null = .ref (zrf a b)))
  | _ => false
set_option maxRecDepth 1000000 in
theorem zhD_sh : (List.range 300).all (fun k => zsh (zhD.2.2 (8 + k)) (8 + k)) = true := by decide +kernel
/-- the old rows, as the kernel read them -/
def zocI (c : zC) (u : Nat) (g : Nat → Int32) : Bool := match c with
  | .inl (v, n, .inl f) => Nat.beq v u && Nat.beq n 6 && (List.range 6).all (fun j => decide (f j = g j))
  | _ => false
def zocJ (c : zC) (g : Nat → Int64) : Bool := match c with
  | .inl (v, n, .inr (.inl f)) => Nat.beq v 1 && Nat.beq n 6 && (List.range 6).all (fun j => decide (f j = g j))
  | _ => false
set_option maxRecDepth 1000000 in
theorem zhD_old : (zocI (zhD.2.2 1) 0 zo1 && zocJ (zhD.2.2 2) zo2 && zocI (zhD.2.2 3) 0 zo3 && zocI (zhD.2.2 4) 0 zo4 && zocI (zhD.2.2 6) 4 zo6) = true := by decide +kernel
/-- from here on nobody runs them again -/
theorem zhX_ex : ∃ h : zH, zhD = h ∧ (h.1 = 300 ∧ h.2.1 = 5604) ∧ (List.range 300).all (fun k => zsh (h.2.2 (8 + k)) (8 + k)) = true ∧ (zocI (h.2.2 1) 0 zo1 && zocJ (h.2.2 2) zo2 && zocI (h.2.2 3) 0 zo3 && zocI (h.2.2 4) 0 zo4 && zocI (h.2.2 6) 4 zo6) = true := ⟨zhD, rfl, zhD_n, zhD_sh, zhD_old⟩
noncomputable def zhX : zH := Classical.choose zhX_ex
theorem zhX_is : zhD = zhX := (Classical.choose_spec zhX_ex).1
theorem zhX_n : zhX.1 = 300 ∧ zhX.2.1 = 5604 := (Classical.choose_spec zhX_ex).2.1
theorem zhX_sh : (List.range 300).all (fun k => zsh (zhX.2.2 (8 + k)) (8 + k)) = true := (Classical.choose_spec zhX_ex).2.2.1
theorem zold_ok : (zocI (zhX.2.2 1) 0 zo1 && zocJ (zhX.2.2 2) zo2 && zocI (zhX.2.2 3) 0 zo3 && zocI (zhX.2.2 4) 0 zo4 && zocI (zhX.2.2 6) 4 zo6) = true := (Classical.choose_spec zhX_ex).2.2.2
