/-! NUMBERS AS nI, LOOPS, THE REPUBLIC'S GHOST -/
theorem k_0 : (0 : Int32) = nI 0 := rfl
theorem k_1 : (1 : Int32) = nI 1 := rfl
theorem k_2 : (2 : Int32) = nI 2 := rfl
theorem k_3 : (3 : Int32) = nI 3 := rfl
theorem k_4 : (4 : Int32) = nI 4 := rfl
theorem k_5 : (5 : Int32) = nI 5 := rfl
theorem k_6 : (6 : Int32) = nI 6 := rfl
theorem k_7 : (7 : Int32) = nI 7 := rfl
theorem k_8 : (8 : Int32) = nI 8 := rfl
theorem k_9 : (9 : Int32) = nI 9 := rfl
theorem k_10 : (10 : Int32) = nI 10 := rfl
theorem k_11 : (11 : Int32) = nI 11 := rfl
theorem k_12 : (12 : Int32) = nI 12 := rfl
theorem k_13 : (13 : Int32) = nI 13 := rfl
theorem k_14 : (14 : Int32) = nI 14 := rfl
theorem k_15 : (15 : Int32) = nI 15 := rfl
theorem k_16 : (16 : Int32) = nI 16 := rfl
theorem k_17 : (17 : Int32) = nI 17 := rfl
theorem k_18 : (18 : Int32) = nI 18 := rfl
theorem k_19 : (19 : Int32) = nI 19 := rfl
theorem k_20 : (20 : Int32) = nI 20 := rfl
theorem k_21 : (21 : Int32) = nI 21 := rfl
theorem k_22 : (22 : Int32) = nI 22 := rfl
theorem k_23 : (23 : Int32) = nI 23 := rfl
theorem k_24 : (24 : Int32) = nI 24 := rfl
theorem k_25 : (25 : Int32) = nI 25 := rfl
theorem k_26 : (26 : Int32) = nI 26 := rfl
theorem k_27 : (27 : Int32) = nI 27 := rfl
theorem k_28 : (28 : Int32) = nI 28 := rfl
theorem k_29 : (29 : Int32) = nI 29 := rfl
theorem k_30 : (30 : Int32) = nI 30 := rfl
theorem k_31 : (31 : Int32) = nI 31 := rfl
theorem k_32 : (32 : Int32) = nI 32 := rfl
theorem k_33 : (33 : Int32) = nI 33 := rfl
theorem k_34 : (34 : Int32) = nI 34 := rfl
theorem k_35 : (35 : Int32) = nI 35 := rfl
theorem k_36 : (36 : Int32) = nI 36 := rfl
theorem k_40 : (40 : Int32) = nI 40 := rfl
theorem k_44 : (44 : Int32) = nI 44 := rfl
theorem k_48 : (48 : Int32) = nI 48 := rfl
theorem k_50 : (50 : Int32) = nI 50 := rfl
theorem k_54 : (54 : Int32) = nI 54 := rfl
theorem k_57 : (57 : Int32) = nI 57 := rfl
theorem k_59 : (59 : Int32) = nI 59 := rfl
theorem k_63 : (63 : Int32) = nI 63 := rfl
theorem k_64 : (64 : Int32) = nI 64 := rfl
theorem k_69 : (69 : Int32) = nI 69 := rfl
theorem k_70 : (70 : Int32) = nI 70 := rfl
theorem k_71 : (71 : Int32) = nI 71 := rfl
theorem k_72 : (72 : Int32) = nI 72 := rfl
theorem k_73 : (73 : Int32) = nI 73 := rfl
theorem k_74 : (74 : Int32) = nI 74 := rfl
theorem k_75 : (75 : Int32) = nI 75 := rfl
theorem k_77 : (77 : Int32) = nI 77 := rfl
theorem k_82 : (82 : Int32) = nI 82 := rfl
theorem k_89 : (89 : Int32) = nI 89 := rfl
theorem k_97 : (97 : Int32) = nI 97 := rfl
theorem k_100 : (100 : Int32) = nI 100 := rfl
theorem k_102 : (102 : Int32) = nI 102 := rfl
theorem k_105 : (105 : Int32) = nI 105 := rfl
theorem k_108 : (108 : Int32) = nI 108 := rfl
theorem k_111 : (111 : Int32) = nI 111 := rfl
theorem k_118 : (118 : Int32) = nI 118 := rfl
theorem k_119 : (119 : Int32) = nI 119 := rfl
theorem k_127 : (127 : Int32) = nI 127 := rfl
theorem k_178 : (178 : Int32) = nI 178 := rfl
theorem k_180 : (180 : Int32) = nI 180 := rfl
theorem k_255 : (255 : Int32) = nI 255 := rfl
theorem k_320 : (320 : Int32) = nI 320 := rfl
theorem k_400 : (400 : Int32) = nI 400 := rfl
theorem k_999 : (999 : Int32) = nI 999 := rfl
theorem k_1000 : (1000 : Int32) = nI 1000 := rfl
theorem k_1771 : (1771 : Int32) = nI 1771 := rfl
theorem k_1848 : (1848 : Int32) = nI 1848 := rfl
theorem k_999999 : (999999 : Int32) = nI 999999 := rfl
theorem k_1000000 : (1000000 : Int32) = nI 1000000 := rfl
theorem k_252645135 : (252645135 : Int32) = nI 252645135 := rfl
theorem k_858993459 : (858993459 : Int32) = nI 858993459 := rfl
theorem k_1431655765 : (1431655765 : Int32) = nI 1431655765 := rfl
theorem zan_11 : zan 11 = 40 := rfl
theorem zan_12 : zan 12 = 40 := rfl
theorem zan_13 : zan 13 = 40 := rfl
theorem zan_14 : zan 14 = 40 := rfl
theorem zan_15 : zan 15 = 40 := rfl
theorem zan_16 : zan 16 = 40 := rfl
theorem zan_17 : zan 17 = 40 := rfl
theorem zan_18 : zan 18 = 40 := rfl
theorem zan_22 : zan 22 = 100 := rfl
theorem zan_33 : zan 33 = 6 := rfl
theorem zan_34 : zan 34 = 5 := rfl
theorem zan_35 : zan 35 = 5 := rfl
theorem zan_36 : zan 36 = 5 := rfl
theorem zan_37 : zan 37 = 5 := rfl
theorem zan_38 : zan 38 = 5 := rfl
theorem zan_39 : zan 39 = 12 := rfl
theorem zan_40 : zan 40 = 12 := rfl
theorem zan_263 : zan 263 = 12 := rfl
theorem zan_264 : zan 264 = 12 := rfl
theorem zan_266 : zan 266 = 12 := rfl
theorem zan_267 : zan 267 = 57 := rfl
theorem zan_268 : zan 268 = 57 := rfl
theorem zan_270 : zan 270 = 3 := rfl
theorem zan_271 : zan 271 = 3 := rfl
theorem zan_273 : zan 273 = 16 := rfl
theorem zan_297 : zan 297 = 100 := rfl
theorem zan_298 : zan 298 = 40 := rfl
theorem zan_299 : zan 299 = 89 := rfl
theorem zan_300 : zan 300 = 1848 := rfl
theorem zan_301 : zan 301 = 12 := rfl
theorem zan_302 : zan 302 = 57 := rfl
theorem zan_303 : zan 303 = 57 := rfl
theorem zan_305 : zan 305 = 3 := rfl
theorem zan_306 : zan 306 = 178 := rfl
theorem zan_307 : zan 307 = 16 := rfl
theorem zaj_261 : zaj 261 = 12 := rfl
theorem zaj_262 : zaj 262 = 12 := rfl
theorem zaj_269 : zaj 269 = 57 := rfl
theorem zaj_304 : zaj 304 = 57 := rfl
theorem bI_z (p : Prop) [Decidable p] : (bI p = nI 0) = ¬ p := bI_0 p
theorem nI_eqI {a b : Nat} (ha : a < 2 ^ 31) (hb : b < 2 ^ 31) : (nI a = nI b) = (a = b) := propext (nI_eq ha hb)
theorem nI_leP {a b : Nat} (ha : a < 2 ^ 31) (hb : b < 2 ^ 31) : (nI a ≤ nI b) = (a ≤ b) := propext (nI_leI ha hb)
theorem nI_ltP {a b : Nat} (ha : a < 2 ^ 31) (hb : b < 2 ^ 31) : (nI a < nI b) = (a < b) := propext (by
  rw [← Int32.not_le, nI_leI hb ha, Nat.not_le])
theorem nI_sub {a b : Nat} (h : b ≤ a) : nI a - nI b = nI (a - b) := by
  obtain ⟨c, rfl⟩ := Nat.exists_eq_add_of_le h
  rw [← nI_add, Nat.add_sub_cancel_left, Int32.add_comm, Int32.add_sub_cancel]
theorem nI_get {x : Int32} {n : Nat} (h0 : 0 ≤ x) (h1 : x < nI n) (hn : n < 2 ^ 31) : ∃ e, e < n ∧ x = nI e := by
  have h2 := Int32.le_iff_toInt_le.mp h0
  have h3 := Int32.lt_iff_toInt_lt.mp h1
  rw [nI_toInt hn] at h3
  rw [iT_0] at h2
  refine ⟨x.toInt.toNat, by omega, ?_⟩
  rw [← Int32.toInt_inj, nI_toInt (by omega)]
  omega
theorem zEq {d k pc : Nat} {ls : zL} {st : List Value} {h h' : zH} {v : Option Value} (H : ∀ Q : Option Value → zH → Prop, Q v h' → zR d k pc ls st h Q) (Q : Option Value → zH → Prop) : zR d k pc ls st h Q = Q v h' := zR_det (H (fun w g => w = v ∧ g = h') ⟨rfl, rfl⟩) Q
theorem lpS {F : zL → zG → Prop} (n : Nat) (I : Nat → zL → zG → Prop) (hs : ∀ i ls s, i < n → I i ls s → (∀ ls' s', I (i + 1) ls' s' → F ls' s') → F ls s) (he : ∀ ls s, I n ls s → F ls s) {m : Nat} {ls : zL} {s : zG} (hm : m ≤ n) (h0 : I m ls s) : F ls s := by
  have key : ∀ (k m : Nat) (ls : zL) (s : zG), m + k = n → I m ls s → F ls s := by
    intro k
    induction k with
    | zero => intro m ls s e h; exact he ls s (by rw [← e]; exact h)
    | succ k ih => intro m ls s e h; exact hs m ls s (by omega) h (fun ls' s' h' => ih (m + 1) ls' s' (by omega) h')
  exact key (n - m) m ls s (by omega) h0
theorem lp {F : zL → Prop} (n : Nat) (I : Nat → zL → Prop) (hs : ∀ i ls, i < n → I i ls → (∀ ls', I (i + 1) ls' → F ls') → F ls) (he : ∀ ls, I n ls → F ls) {m : Nat} {ls : zL} (hm : m ≤ n) (h0 : I m ls) : F ls :=
  lpS (F := fun l _ => F l) n (fun i l _ => I i l) (fun i l _ hi h ih => hs i l hi h (fun l' h' => ih l' (fun _ _ => 0, fun _ _ => 0) h')) (fun l _ h => he l h) (s := (fun _ _ => 0, fun _ _ => 0)) hm h0
/-- the republic's ghost -/
def Ab : Type := (Nat) × (Nat) × (Nat) × (Nat) × (Int32) × (Int32) × (Nat → Int32) × (Nat → Nat) × (Nat → Int32) × (Nat → Int32) × (Nat → Int32) × (Nat → Int32) × (Nat → Nat) × (Nat → Nat) × (Nat → Nat) × (Nat → Nat)
def Ab.E (A : Ab) : Nat := A.1
def Ab.P (A : Ab) : Nat := A.2.1
def Ab.S (A : Ab) : Nat := A.2.2.1
def Ab.Y (A : Ab) : Nat := A.2.2.2.1
def Ab.ra (A : Ab) : Int32 := A.2.2.2.2.1
def Ab.fi (A : Ab) : Int32 := A.2.2.2.2.2.1
def Ab.ch (A : Ab) : Nat → Int32 := A.2.2.2.2.2.2.1
def Ab.kd (A : Ab) : Nat → Nat := A.2.2.2.2.2.2.2.1
def Ab.hd (A : Ab) : Nat → Int32 := A.2.2.2.2.2.2.2.2.1
def Ab.pu (A : Ab) : Nat → Int32 := A.2.2.2.2.2.2.2.2.2.1
def Ab.ri (A : Ab) : Nat → Int32 := A.2.2.2.2.2.2.2.2.2.2.1
def Ab.wr (A : Ab) : Nat → Int32 := A.2.2.2.2.2.2.2.2.2.2.2.1
def Ab.wh (A : Ab) : Nat → Nat := A.2.2.2.2.2.2.2.2.2.2.2.2.1
def Ab.fo (A : Ab) : Nat → Nat := A.2.2.2.2.2.2.2.2.2.2.2.2.2.1
def Ab.ev (A : Ab) : Nat → Nat := A.2.2.2.2.2.2.2.2.2.2.2.2.2.2.1
def Ab.ew (A : Ab) : Nat → Nat := A.2.2.2.2.2.2.2.2.2.2.2.2.2.2.2
def Ab.mk (E : Nat) (P : Nat) (S : Nat) (Y : Nat) (ra : Int32) (fi : Int32) (ch : Nat → Int32) (kd : Nat → Nat) (hd : Nat → Int32) (pu : Nat → Int32) (ri : Nat → Int32) (wr : Nat → Int32) (wh : Nat → Nat) (fo : Nat → Nat) (ev : Nat → Nat) (ew : Nat → Nat) : Ab := (E, P, S, Y, ra, fi, ch, kd, hd, pu, ri, wr, wh, fo, ev, ew)
theorem Ab.mk_E {E : Nat} {P : Nat} {S : Nat} {Y : Nat} {ra : Int32} {fi : Int32} {ch : Nat → Int32} {kd : Nat → Nat} {hd : Nat → Int32} {pu : Nat → Int32} {ri : Nat → Int32} {wr : Nat → Int32} {wh : Nat → Nat} {fo : Nat → Nat} {ev : Nat → Nat} {ew : Nat → Nat} : (Ab.mk E P S Y ra fi ch kd hd pu ri wr wh fo ev ew).E = E := rfl
theorem Ab.mk_P {E : Nat} {P : Nat} {S : Nat} {Y : Nat} {ra : Int32} {fi : Int32} {ch : Nat → Int32} {kd : Nat → Nat} {hd : Nat → Int32} {pu : Nat → Int32} {ri : Nat → Int32} {wr : Nat → Int32} {wh : Nat → Nat} {fo : Nat → Nat} {ev : Nat → Nat} {ew : Nat → Nat} : (Ab.mk E P S Y ra fi ch kd hd pu ri wr wh fo ev ew).P = P := rfl
theorem Ab.mk_S {E : Nat} {P : Nat} {S : Nat} {Y : Nat} {ra : Int32} {fi : Int32} {ch : Nat → Int32} {kd : Nat → Nat} {hd : Nat → Int32} {pu : Nat → Int32} {ri : Nat → Int32} {wr : Nat → Int32} {wh : Nat → Nat} {fo : Nat → Nat} {ev : Nat → Nat} {ew : Nat → Nat} : (Ab.mk E P S Y ra fi ch kd hd pu ri wr wh fo ev ew).S = S := rfl
theorem Ab.mk_Y {E : Nat} {P : Nat} {S : Nat} {Y : Nat} {ra : Int32} {fi : Int32} {ch : Nat → Int32} {kd : Nat → Nat} {hd : Nat → Int32} {pu : Nat → Int32} {ri : Nat → Int32} {wr : Nat → Int32} {wh : Nat → Nat} {fo : Nat → Nat} {ev : Nat → Nat} {ew : Nat → Nat} : (Ab.mk E P S Y ra fi ch kd hd pu ri wr wh fo ev ew).Y = Y := rfl
theorem Ab.mk_ra {E : Nat} {P : Nat} {S : Nat} {Y : Nat} {ra : Int32} {fi : Int32} {ch : Nat → Int32} {kd : Nat → Nat} {hd : Nat → Int32} {pu : Nat → Int32} {ri : Nat → Int32} {wr : Nat → Int32} {wh : Nat → Nat} {fo : Nat → Nat} {ev : Nat → Nat} {ew : Nat → Nat} : (Ab.mk E P S Y ra fi ch kd hd pu ri wr wh fo ev ew).ra = ra := rfl
theorem Ab.mk_fi {E : Nat} {P : Nat} {S : Nat} {Y : Nat} {ra : Int32} {fi : Int32} {ch : Nat → Int32} {kd : Nat → Nat} {hd : Nat → Int32} {pu : Nat → Int32} {ri : Nat → Int32} {wr : Nat → Int32} {wh : Nat → Nat} {fo : Nat → Nat} {ev : Nat → Nat} {ew : Nat → Nat} : (Ab.mk E P S Y ra fi ch kd hd pu ri wr wh fo ev ew).fi = fi := rfl
theorem Ab.mk_ch {E : Nat} {P : Nat} {S : Nat} {Y : Nat} {ra : Int32} {fi : Int32} {ch : Nat → Int32} {kd : Nat → Nat} {hd : Nat → Int32} {pu : Nat → Int32} {ri : Nat → Int32} {wr : Nat → Int32} {wh : Nat → Nat} {fo : Nat → Nat} {ev : Nat → Nat} {ew : Nat → Nat} : (Ab.mk E P S Y ra fi ch kd hd pu ri wr wh fo ev ew).ch = ch := rfl
theorem Ab.mk_kd {E : Nat} {P : Nat} {S : Nat} {Y : Nat} {ra : Int32} {fi : Int32} {ch : Nat → Int32} {kd : Nat → Nat} {hd : Nat → Int32} {pu : Nat → Int32} {ri : Nat → Int32} {wr : Nat → Int32} {wh : Nat → Nat} {fo : Nat → Nat} {ev : Nat → Nat} {ew : Nat → Nat} : (Ab.mk E P S Y ra fi ch kd hd pu ri wr wh fo ev ew).kd = kd := rfl
theorem Ab.mk_hd {E : Nat} {P : Nat} {S : Nat} {Y : Nat} {ra : Int32} {fi : Int32} {ch : Nat → Int32} {kd : Nat → Nat} {hd : Nat → Int32} {pu : Nat → Int32} {ri : Nat → Int32} {wr : Nat → Int32} {wh : Nat → Nat} {fo : Nat → Nat} {ev : Nat → Nat} {ew : Nat → Nat} : (Ab.mk E P S Y ra fi ch kd hd pu ri wr wh fo ev ew).hd = hd := rfl
theorem Ab.mk_pu {E : Nat} {P : Nat} {S : Nat} {Y : Nat} {ra : Int32} {fi : Int32} {ch : Nat → Int32} {kd : Nat → Nat} {hd : Nat → Int32} {pu : Nat → Int32} {ri : Nat → Int32} {wr : Nat → Int32} {wh : Nat → Nat} {fo : Nat → Nat} {ev : Nat → Nat} {ew : Nat → Nat} : (Ab.mk E P S Y ra fi ch kd hd pu ri wr wh fo ev ew).pu = pu := rfl
theorem Ab.mk_ri {E : Nat} {P : Nat} {S : Nat} {Y : Nat} {ra : Int32} {fi : Int32} {ch : Nat → Int32} {kd : Nat → Nat} {hd : Nat → Int32} {pu : Nat → Int32} {ri : Nat → Int32} {wr : Nat → Int32} {wh : Nat → Nat} {fo : Nat → Nat} {ev : Nat → Nat} {ew : Nat → Nat} : (Ab.mk E P S Y ra fi ch kd hd pu ri wr wh fo ev ew).ri = ri := rfl
theorem Ab.mk_wr {E : Nat} {P : Nat} {S : Nat} {Y : Nat} {ra : Int32} {fi : Int32} {ch : Nat → Int32} {kd : Nat → Nat} {hd : Nat → Int32} {pu : Nat → Int32} {ri : Nat → Int32} {wr : Nat → Int32} {wh : Nat → Nat} {fo : Nat → Nat} {ev : Nat → Nat} {ew : Nat → Nat} : (Ab.mk E P S Y ra fi ch kd hd pu ri wr wh fo ev ew).wr = wr := rfl
theorem Ab.mk_wh {E : Nat} {P : Nat} {S : Nat} {Y : Nat} {ra : Int32} {fi : Int32} {ch : Nat → Int32} {kd : Nat → Nat} {hd : Nat → Int32} {pu : Nat → Int32} {ri : Nat → Int32} {wr : Nat → Int32} {wh : Nat → Nat} {fo : Nat → Nat} {ev : Nat → Nat} {ew : Nat → Nat} : (Ab.mk E P S Y ra fi ch kd hd pu ri wr wh fo ev ew).wh = wh := rfl
theorem Ab.mk_fo {E : Nat} {P : Nat} {S : Nat} {Y : Nat} {ra : Int32} {fi : Int32} {ch : Nat → Int32} {kd : Nat → Nat} {hd : Nat → Int32} {pu : Nat → Int32} {ri : Nat → Int32} {wr : Nat → Int32} {wh : Nat → Nat} {fo : Nat → Nat} {ev : Nat → Nat} {ew : Nat → Nat} : (Ab.mk E P S Y ra fi ch kd hd pu ri wr wh fo ev ew).fo = fo := rfl
theorem Ab.mk_ev {E : Nat} {P : Nat} {S : Nat} {Y : Nat} {ra : Int32} {fi : Int32} {ch : Nat → Int32} {kd : Nat → Nat} {hd : Nat → Int32} {pu : Nat → Int32} {ri : Nat → Int32} {wr : Nat → Int32} {wh : Nat → Nat} {fo : Nat → Nat} {ev : Nat → Nat} {ew : Nat → Nat} : (Ab.mk E P S Y ra fi ch kd hd pu ri wr wh fo ev ew).ev = ev := rfl
theorem Ab.mk_ew {E : Nat} {P : Nat} {S : Nat} {Y : Nat} {ra : Int32} {fi : Int32} {ch : Nat → Int32} {kd : Nat → Nat} {hd : Nat → Int32} {pu : Nat → Int32} {ri : Nat → Int32} {wr : Nat → Int32} {wh : Nat → Nat} {fo : Nat → Nat} {ev : Nat → Nat} {ew : Nat → Nat} : (Ab.mk E P S Y ra fi ch kd hd pu ri wr wh fo ev ew).ew = ew := rfl
def Ab.co (A : Ab) (i : Nat) : Nat := 36 * A.fo i + 6 * A.ev i + A.ew i
def Ok (A : Ab) : Prop := (A.E ≤ 6) ∧ (A.P ≤ 5) ∧ (A.S ≤ 12) ∧ (A.Y ≤ 999) ∧ (0 ≤ A.ra.toInt ∧ A.ra.toInt ≤ 20) ∧ (∀ e, e < A.E → 0 ≤ (A.ch e).toInt ∧ (A.ch e).toInt ≤ 20) ∧ (∀ p, p < A.P → 1 ≤ A.kd p ∧ A.kd p ≤ 5) ∧ (∀ i, i < A.S → A.wh i < A.P) ∧ (∀ i, i < A.S → A.fo i ≤ 4) ∧ (∀ i, i < A.S → A.ev i < A.E) ∧ (∀ i, i < A.S → A.ew i < A.E)
theorem Ok.hE {A : Ab} (h : Ok A) : A.E ≤ 6 := h.1
theorem Ok.hP {A : Ab} (h : Ok A) : A.P ≤ 5 := h.2.1
theorem Ok.hS {A : Ab} (h : Ok A) : A.S ≤ 12 := h.2.2.1
theorem Ok.hY {A : Ab} (h : Ok A) : A.Y ≤ 999 := h.2.2.2.1
theorem Ok.hra {A : Ab} (h : Ok A) : 0 ≤ A.ra.toInt ∧ A.ra.toInt ≤ 20 := h.2.2.2.2.1
theorem Ok.hch {A : Ab} (h : Ok A) : ∀ e, e < A.E → 0 ≤ (A.ch e).toInt ∧ (A.ch e).toInt ≤ 20 := h.2.2.2.2.2.1
theorem Ok.hkd {A : Ab} (h : Ok A) : ∀ p, p < A.P → 1 ≤ A.kd p ∧ A.kd p ≤ 5 := h.2.2.2.2.2.2.1
theorem Ok.hwh {A : Ab} (h : Ok A) : ∀ i, i < A.S → A.wh i < A.P := h.2.2.2.2.2.2.2.1
theorem Ok.hfo {A : Ab} (h : Ok A) : ∀ i, i < A.S → A.fo i ≤ 4 := h.2.2.2.2.2.2.2.2.1
theorem Ok.hev {A : Ab} (h : Ok A) : ∀ i, i < A.S → A.ev i < A.E := h.2.2.2.2.2.2.2.2.2.1
theorem Ok.hew {A : Ab} (h : Ok A) : ∀ i, i < A.S → A.ew i < A.E := h.2.2.2.2.2.2.2.2.2.2
theorem Ok.mk {A : Ab} (hE_ : A.E ≤ 6) (hP_ : A.P ≤ 5) (hS_ : A.S ≤ 12) (hY_ : A.Y ≤ 999) (hra_ : 0 ≤ A.ra.toInt ∧ A.ra.toInt ≤ 20) (hch_ : ∀ e, e < A.E → 0 ≤ (A.ch e).toInt ∧ (A.ch e).toInt ≤ 20) (hkd_ : ∀ p, p < A.P → 1 ≤ A.kd p ∧ A.kd p ≤ 5) (hwh_ : ∀ i, i < A.S → A.wh i < A.P) (hfo_ : ∀ i, i < A.S → A.fo i ≤ 4) (hev_ : ∀ i, i < A.S → A.ev i < A.E) (hew_ : ∀ i, i < A.S → A.ew i < A.E) : Ok A := ⟨hE_, hP_, hS_, hY_, hra_, hch_, hkd_, hwh_, hfo_, hev_, hew_⟩
/-- the class's republic at a -/
def RC (s : zG) (a : Nat) (A : Ab) : Prop := (s.1 a 0 = A.ra) ∧ (s.1 a 1 = A.fi) ∧ (s.1 a 2 = nI A.E) ∧ (s.1 a 3 = nI A.P) ∧ (s.1 a 4 = nI A.S) ∧ (s.1 a 5 = nI A.Y) ∧ (∀ e, e < A.E → s.1 (a + 1) e = A.ch e) ∧ (∀ p, p < A.P → s.1 (a + 2) p = nI (A.kd p)) ∧ (∀ p, p < A.P → s.1 (a + 3) p = A.hd p) ∧ (∀ p, p < A.P → s.1 (a + 4) p = A.pu p) ∧ (∀ p, p < A.P → s.1 (a + 5) p = A.ri p) ∧ (∀ p, p < A.P → s.1 (a + 6) p = A.wr p) ∧ (∀ i, i < A.S → s.1 (a + 7) i = nI (A.wh i)) ∧ (∀ i, i < A.S → s.1 (a + 8) i = nI (A.co i))
theorem RC.f0 {s : zG} {a : Nat} {A : Ab} (h : RC s a A) : s.1 a 0 = A.ra := h.1
theorem RC.f1 {s : zG} {a : Nat} {A : Ab} (h : RC s a A) : s.1 a 1 = A.fi := h.2.1
theorem RC.f2 {s : zG} {a : Nat} {A : Ab} (h : RC s a A) : s.1 a 2 = nI A.E := h.2.2.1
theorem RC.f3 {s : zG} {a : Nat} {A : Ab} (h : RC s a A) : s.1 a 3 = nI A.P := h.2.2.2.1
theorem RC.f4 {s : zG} {a : Nat} {A : Ab} (h : RC s a A) : s.1 a 4 = nI A.S := h.2.2.2.2.1
theorem RC.f5 {s : zG} {a : Nat} {A : Ab} (h : RC s a A) : s.1 a 5 = nI A.Y := h.2.2.2.2.2.1
theorem RC.ch {s : zG} {a : Nat} {A : Ab} (h : RC s a A) : ∀ e, e < A.E → s.1 (a + 1) e = A.ch e := h.2.2.2.2.2.2.1
theorem RC.kd {s : zG} {a : Nat} {A : Ab} (h : RC s a A) : ∀ p, p < A.P → s.1 (a + 2) p = nI (A.kd p) := h.2.2.2.2.2.2.2.1
theorem RC.hd {s : zG} {a : Nat} {A : Ab} (h : RC s a A) : ∀ p, p < A.P → s.1 (a + 3) p = A.hd p := h.2.2.2.2.2.2.2.2.1
theorem RC.pu {s : zG} {a : Nat} {A : Ab} (h : RC s a A) : ∀ p, p < A.P → s.1 (a + 4) p = A.pu p := h.2.2.2.2.2.2.2.2.2.1
theorem RC.ri {s : zG} {a : Nat} {A : Ab} (h : RC s a A) : ∀ p, p < A.P → s.1 (a + 5) p = A.ri p := h.2.2.2.2.2.2.2.2.2.2.1
theorem RC.wr {s : zG} {a : Nat} {A : Ab} (h : RC s a A) : ∀ p, p < A.P → s.1 (a + 6) p = A.wr p := h.2.2.2.2.2.2.2.2.2.2.2.1
theorem RC.wh {s : zG} {a : Nat} {A : Ab} (h : RC s a A) : ∀ i, i < A.S → s.1 (a + 7) i = nI (A.wh i) := h.2.2.2.2.2.2.2.2.2.2.2.2.1
theorem RC.co {s : zG} {a : Nat} {A : Ab} (h : RC s a A) : ∀ i, i < A.S → s.1 (a + 8) i = nI (A.co i) := h.2.2.2.2.2.2.2.2.2.2.2.2.2
theorem RC.mk {s : zG} {a : Nat} {A : Ab} (f0_ : s.1 a 0 = A.ra) (f1_ : s.1 a 1 = A.fi) (f2_ : s.1 a 2 = nI A.E) (f3_ : s.1 a 3 = nI A.P) (f4_ : s.1 a 4 = nI A.S) (f5_ : s.1 a 5 = nI A.Y) (ch_ : ∀ e, e < A.E → s.1 (a + 1) e = A.ch e) (kd_ : ∀ p, p < A.P → s.1 (a + 2) p = nI (A.kd p)) (hd_ : ∀ p, p < A.P → s.1 (a + 3) p = A.hd p) (pu_ : ∀ p, p < A.P → s.1 (a + 4) p = A.pu p) (ri_ : ∀ p, p < A.P → s.1 (a + 5) p = A.ri p) (wr_ : ∀ p, p < A.P → s.1 (a + 6) p = A.wr p) (wh_ : ∀ i, i < A.S → s.1 (a + 7) i = nI (A.wh i)) (co_ : ∀ i, i < A.S → s.1 (a + 8) i = nI (A.co i)) : RC s a A := ⟨f0_, f1_, f2_, f3_, f4_, f5_, ch_, kd_, hd_, pu_, ri_, wr_, wh_, co_⟩
/-- the reference's, kinds and heeds aside -/
def RM7 (f : Nat → Int32) (A : Ab) : Prop := (f 69 = nI A.S) ∧ (f 70 = nI A.Y) ∧ (f 71 = nI A.E) ∧ (f 72 = nI A.P) ∧ (f 73 = A.ra) ∧ (f 74 = A.fi) ∧ (f 75 = nI (if A.E = 0 then 0 else 1)) ∧ (∀ e, e < A.E → f (48 + e) = A.ch e) ∧ (∀ p, p < A.P → f (54 + p) = A.pu p) ∧ (∀ p, p < A.P → f (59 + p) = A.ri p) ∧ (∀ p, p < A.P → f (64 + p) = A.wr p) ∧ (∀ i, i < A.S → f (4 * i) = nI (A.wh i)) ∧ (∀ i, i < A.S → f (4 * i + 1) = nI (A.fo i)) ∧ (∀ i, i < A.S → f (4 * i + 2) = nI (A.ev i)) ∧ (∀ i, i < A.S → f (4 * i + 3) = nI (A.ew i))
theorem RM7.g69 {f : Nat → Int32} {A : Ab} (h : RM7 f A) : f 69 = nI A.S := h.1
theorem RM7.g70 {f : Nat → Int32} {A : Ab} (h : RM7 f A) : f 70 = nI A.Y := h.2.1
theorem RM7.g71 {f : Nat → Int32} {A : Ab} (h : RM7 f A) : f 71 = nI A.E := h.2.2.1
theorem RM7.g72 {f : Nat → Int32} {A : Ab} (h : RM7 f A) : f 72 = nI A.P := h.2.2.2.1
theorem RM7.g73 {f : Nat → Int32} {A : Ab} (h : RM7 f A) : f 73 = A.ra := h.2.2.2.2.1
theorem RM7.g74 {f : Nat → Int32} {A : Ab} (h : RM7 f A) : f 74 = A.fi := h.2.2.2.2.2.1
theorem RM7.g75 {f : Nat → Int32} {A : Ab} (h : RM7 f A) : f 75 = nI (if A.E = 0 then 0 else 1) := h.2.2.2.2.2.2.1
theorem RM7.ch {f : Nat → Int32} {A : Ab} (h : RM7 f A) : ∀ e, e < A.E → f (48 + e) = A.ch e := h.2.2.2.2.2.2.2.1
theorem RM7.pu {f : Nat → Int32} {A : Ab} (h : RM7 f A) : ∀ p, p < A.P → f (54 + p) = A.pu p := h.2.2.2.2.2.2.2.2.1
theorem RM7.ri {f : Nat → Int32} {A : Ab} (h : RM7 f A) : ∀ p, p < A.P → f (59 + p) = A.ri p := h.2.2.2.2.2.2.2.2.2.1
theorem RM7.wr {f : Nat → Int32} {A : Ab} (h : RM7 f A) : ∀ p, p < A.P → f (64 + p) = A.wr p := h.2.2.2.2.2.2.2.2.2.2.1
theorem RM7.wh {f : Nat → Int32} {A : Ab} (h : RM7 f A) : ∀ i, i < A.S → f (4 * i) = nI (A.wh i) := h.2.2.2.2.2.2.2.2.2.2.2.1
theorem RM7.fo {f : Nat → Int32} {A : Ab} (h : RM7 f A) : ∀ i, i < A.S → f (4 * i + 1) = nI (A.fo i) := h.2.2.2.2.2.2.2.2.2.2.2.2.1
theorem RM7.ev {f : Nat → Int32} {A : Ab} (h : RM7 f A) : ∀ i, i < A.S → f (4 * i + 2) = nI (A.ev i) := h.2.2.2.2.2.2.2.2.2.2.2.2.2.1
theorem RM7.ew {f : Nat → Int32} {A : Ab} (h : RM7 f A) : ∀ i, i < A.S → f (4 * i + 3) = nI (A.ew i) := h.2.2.2.2.2.2.2.2.2.2.2.2.2.2
theorem RM7.mk {f : Nat → Int32} {A : Ab} (g69_ : f 69 = nI A.S) (g70_ : f 70 = nI A.Y) (g71_ : f 71 = nI A.E) (g72_ : f 72 = nI A.P) (g73_ : f 73 = A.ra) (g74_ : f 74 = A.fi) (g75_ : f 75 = nI (if A.E = 0 then 0 else 1)) (ch_ : ∀ e, e < A.E → f (48 + e) = A.ch e) (pu_ : ∀ p, p < A.P → f (54 + p) = A.pu p) (ri_ : ∀ p, p < A.P → f (59 + p) = A.ri p) (wr_ : ∀ p, p < A.P → f (64 + p) = A.wr p) (wh_ : ∀ i, i < A.S → f (4 * i) = nI (A.wh i)) (fo_ : ∀ i, i < A.S → f (4 * i + 1) = nI (A.fo i)) (ev_ : ∀ i, i < A.S → f (4 * i + 2) = nI (A.ev i)) (ew_ : ∀ i, i < A.S → f (4 * i + 3) = nI (A.ew i)) : RM7 f A := ⟨g69_, g70_, g71_, g72_, g73_, g74_, g75_, ch_, pu_, ri_, wr_, wh_, fo_, ev_, ew_⟩
def RM (f : Nat → Int32) (A : Ab) : Prop := (RM7 f A) ∧ (∀ p, p < A.P → f (77 + p) = nI (A.kd p)) ∧ (∀ p, p < A.P → f (82 + p) = A.hd p)
theorem RM.to {f : Nat → Int32} {A : Ab} (h : RM f A) : RM7 f A := h.1
theorem RM.kd {f : Nat → Int32} {A : Ab} (h : RM f A) : ∀ p, p < A.P → f (77 + p) = nI (A.kd p) := h.2.1
theorem RM.hd {f : Nat → Int32} {A : Ab} (h : RM f A) : ∀ p, p < A.P → f (82 + p) = A.hd p := h.2.2
theorem RM.mk {f : Nat → Int32} {A : Ab} (to_ : RM7 f A) (kd_ : ∀ p, p < A.P → f (77 + p) = nI (A.kd p)) (hd_ : ∀ p, p < A.P → f (82 + p) = A.hd p) : RM f A := ⟨to_, kd_, hd_⟩
def cnt (n : Nat) (P : Nat → Prop) [DecidablePred P] : Nat := match n with
  | 0 => 0
  | n + 1 => cnt n P + (if P n then 1 else 0)
theorem cnt_s (n : Nat) (P : Nat → Prop) [DecidablePred P] : cnt (n + 1) P = cnt n P + (if P n then 1 else 0) := rfl
theorem cnt_le (n : Nat) (P : Nat → Prop) [DecidablePred P] : cnt n P ≤ n := by
  induction n with
  | zero => exact Nat.le_refl 0
  | succ n ih =>
    rw [cnt_s]
    split <;> omega
def sumI (n : Nat) (f : Nat → Int32) : Int32 := match n with
  | 0 => nI 0
  | n + 1 => sumI n f + f n
theorem sumI_s (n : Nat) (f : Nat → Int32) : sumI (n + 1) f = sumI n f + f n := rfl
theorem sumI_0 (f : Nat → Int32) : sumI 0 f = nI 0 := rfl
def sumJ (n : Nat) (f : Nat → Int64) : Int64 := match n with
  | 0 => 0
  | n + 1 => sumJ n f + f n
theorem sumJ_s (n : Nat) (f : Nat → Int64) : sumJ (n + 1) f = sumJ n f + f n := rfl
def Ab.his (A : Ab) (p : Nat) : Nat := cnt A.S (fun i => A.wh i = p)
/-- bits of a long -/
def tb (x : Int64) (i : Nat) : Bool := x.toBitVec.getLsbD i
theorem tb_and (x y : Int64) (i : Nat) : tb (x &&& y) i = (tb x i && tb y i) := by simp [tb]
theorem tb_or (x y : Int64) (i : Nat) : tb (x ||| y) i = (tb x i || tb y i) := by simp [tb]
theorem tb_xor (x y : Int64) (i : Nat) : tb (x ^^^ y) i = (tb x i ^^ tb y i) := by simp [tb]
theorem tb_m1 {i : Nat} (h : i < 64) : tb (-1) i = true := by
  have h1 : (-1 : Int64).toBitVec = BitVec.allOnes 64 := by decide
  rw [tb, h1, BitVec.getLsbD_allOnes, decide_eq_true h]
theorem tb_0 (i : Nat) : tb 0 i = false := by simp [tb]
theorem tb_ext {x y : Int64} (h : ∀ i, i < 64 → tb x i = tb y i) : x = y := by
  rw [← Int64.toBitVec_inj]
  exact BitVec.eq_of_getLsbD_eq (fun i hi => h i hi)
/-- all sets of E events -/
def aS (E : Nat) : Int64 := Int64.ofNat (2 ^ 2 ^ E - 1)
theorem tb_aS {E i : Nat} (hE : E ≤ 6) (hi : i < 64) : tb (aS E) i = decide (i < 2 ^ E) := by
  have h : ∀ e, e < 7 → ∀ j, j < 64 → tb (aS e) j = decide (j < 2 ^ e) := by decide +kernel
  exact h E (by omega) i hi
theorem tb_zo2 {e i : Nat} (he : e < 6) (hi : i < 64) : tb (zo2 e) i = i.testBit e := by
  have h : ∀ e, e < 6 → ∀ j, j < 64 → tb (zo2 e) j = j.testBit e := by decide +kernel
  exact h e he i hi
/-- is a wording true by a set -/
def tru (c t : Nat) : Bool := if c / 36 = 0 then t.testBit (c / 6 % 6) else if c / 36 = 1 then !t.testBit (c / 6 % 6) else if c / 36 = 2 then (t.testBit (c / 6 % 6) && t.testBit (c % 6)) else if c / 36 = 3 then (t.testBit (c / 6 % 6) || t.testBit (c % 6)) else (t.testBit (c / 6 % 6) ^^ t.testBit (c % 6))
def sO (E c : Nat) : Int64 := if c / 36 = 0 then zo2 (c / 6 % 6) &&& aS E else if c / 36 = 1 then (zo2 (c / 6 % 6) ^^^ (-1)) &&& aS E else if c / 36 = 2 then (zo2 (c / 6 % 6) &&& zo2 (c % 6)) &&& aS E else if c / 36 = 3 then (zo2 (c / 6 % 6) ||| zo2 (c % 6)) &&& aS E else (zo2 (c / 6 % 6) ^^^ zo2 (c % 6)) &&& aS E
theorem tb_sO {E c i : Nat} (hE : E ≤ 6) (hi : i < 64) : tb (sO E c) i = (tru c i && decide (i < 2 ^ E)) := by
  have h1 := tb_zo2 (e := c / 6 % 6) (Nat.mod_lt _ (by decide)) hi
  have h2 := tb_zo2 (e := c % 6) (Nat.mod_lt _ (by decide)) hi
  unfold sO tru
  repeat' split
  all_goals simp only [tb_and, tb_or, tb_xor, tb_m1 hi, h1, h2, tb_aS hE hi, Bool.xor_true]
theorem bv_1 {w : Nat} (hw : 0 < w) (v : BitVec w) : (v &&& 1#w = 1#w) = (v.getLsbD 0 = true) := by
  rw [BitVec.and_one_eq_setWidth_ofBool_getLsbD]
  cases v.getLsbD 0 with
  | true =>
    refine propext ⟨fun _ => rfl, fun _ => ?_⟩
    apply BitVec.eq_of_toNat_eq
    simp
  | false =>
    refine propext ⟨fun h => ?_, fun h => absurd h (by decide)⟩
    have h2 := congrArg BitVec.toNat h
    simp at h2
    omega
theorem isIn_s : ∀ t, t < 64 → (((nI t).toInt64.toUInt64 &&& Int64.toUInt64 63).toBitVec % 64#64).toNat = t := by decide +kernel
theorem isIn_p {x : Int64} {t : Nat} (h : t < 64) : ((x.toUInt64 >>> ((nI t).toInt64.toUInt64 &&& Int64.toUInt64 63)).toInt64 &&& 1 = 1) = (tb x t = true) := by
  have e : ((x.toUInt64 >>> ((nI t).toInt64.toUInt64 &&& Int64.toUInt64 63)).toInt64 &&& 1 = 1) = ((x.toBitVec >>> t) &&& 1#64 = 1#64) := by
    rw [← Int64.toBitVec_inj]
    show ((x.toBitVec >>> (((nI t).toInt64.toUInt64 &&& Int64.toUInt64 63).toBitVec % 64#64).toNat) &&& 1#64 = 1#64) = _
    rw [isIn_s t h]
  rw [e, bv_1 (by decide), BitVec.getLsbD_ushiftRight]
  simp [tb]
theorem has_s : ∀ t, t < 32 → ((nI t &&& 31).toBitVec.smod 32#32).toNat = t := by decide +kernel
theorem has_p {x t : Nat} (hx : x < 2 ^ 31) (h : t < 32) : (nI x >>> (nI t &&& 31) &&& 1 = 1) = (x.testBit t = true) := by
  have e : (nI x >>> (nI t &&& 31) &&& 1 = 1) = ((BitVec.sshiftRight (BitVec.ofNat 32 x) t) &&& 1#32 = 1#32) := by
    rw [← Int32.toBitVec_inj]
    show ((BitVec.sshiftRight (BitVec.ofNat 32 x) ((nI t &&& 31).toBitVec.smod 32#32).toNat) &&& 1#32 = 1#32) = _
    rw [has_s t h]
  have hm : (BitVec.ofNat 32 x).msb = false := by
    rw [BitVec.msb_eq_decide]
    simp
    omega
  rw [e, bv_1 (by decide), BitVec.getLsbD_sshiftRight]
  simp only [hm, Nat.zero_add, Nat.add_zero]
  rw [BitVec.getLsbD_ofNat]
  simp
  intro q
  omega
/-- odds, bare fine, newness, full fine, gain -/
def Ab.od (A : Ab) (c : Nat) : Int32 := oddsF (c / 36) (A.ch (c / 6 % 6)) (A.ch (c % 6))
def Ab.bf (A : Ab) (c : Nat) : Int32 := (nI 400 - A.od c) * A.ra / nI 100
abbrev Ab.nw (A : Ab) (i c : Nat) : Prop := ∀ j, j < i → A.co j ≠ c
def Ab.nf (A : Ab) (i c : Nat) : Int32 := (if A.nw i c then A.fi else nI 0)
def fk (k : Nat) (x : Int32) : Int32 := if k = 2 then x / nI 2 else if k = 3 then nI 2 * x else if k = 5 then nI 0 else x
def Ab.ff (A : Ab) (p c i : Nat) : Int32 := fk (A.kd p) (A.bf c + A.nf i c)
def Ab.gn (A : Ab) (p : Nat) : Int32 := if A.kd p = 5 then nI 0 else A.hd p
/-- is the i-th true, fined; its fine, its gain, sums -/
def Ab.tr (A : Ab) (i t : Nat) : Bool := tru (A.co i) t
abbrev Ab.fd (A : Ab) (i t : Nat) : Prop := A.tr i t = true ∧ (A.kd (A.wh i) = 4 → ∀ j, j < A.S → A.wh j = A.wh i → A.tr j t = true)
def Ab.fn (A : Ab) (i t : Nat) : Int32 := if A.fd i t then A.ff (A.wh i) (A.co i) i else nI 0
def Ab.fs (A : Ab) (p t : Nat) : Int32 := sumI A.S (fun i => if A.wh i = p then A.fn i t else nI 0)
def Ab.gs (A : Ab) (p t : Nat) : Int32 := sumI A.S (fun i => if A.wh i = p ∧ A.tr i t = true then A.gn (A.wh i) else nI 0)
def Ab.nt (A : Ab) (p t : Nat) : Int32 := A.gs p t - A.fs p t
theorem zU_i (f : Nat → Nat → Int32) (a b : Nat) (x : Int32) : zU f a b x a b = x := by simp [zU]
theorem zUl_i (f : Nat → Nat → Int64) (a b : Nat) (x : Int64) : zUl f a b x a b = x := by simp [zUl]
theorem zU_o {f : Nat → Nat → Int32} {a b p q : Nat} {x : Int32} (h : p ≠ a ∨ q ≠ b) : zU f a b x p q = f p q := by
  unfold zU
  rw [if_neg (by omega)]
theorem zUl_o {f : Nat → Nat → Int64} {a b p q : Nat} {x : Int64} (h : p ≠ a ∨ q ≠ b) : zUl f a b x p q = f p q := by
  unfold zUl
  rw [if_neg (by omega)]
theorem RC.fr {s s' : zG} {a : Nat} {A : Ab} (h : RC s a A) (e : ∀ b, a ≤ b → b ≤ a + 8 → s'.1 b = s.1 b) : RC s' a A := by
  unfold RC
  rw [e a (by omega) (by omega), e (a + 1) (by omega) (by omega), e (a + 2) (by omega) (by omega), e (a + 3) (by omega) (by omega), e (a + 4) (by omega) (by omega), e (a + 5) (by omega) (by omega), e (a + 6) (by omega) (by omega), e (a + 7) (by omega) (by omega), e (a + 8) (by omega) (by omega)]
  exact h
theorem rc_u {f : Nat → Nat → Int32} {g : Nat → Nat → Int64} {a b c : Nat} {x : Int32} {A : Ab} (h : a < c ∨ c + 8 < a) : RC (zU f a b x, g) c A = RC (f, g) c A := by
  refine propext ⟨fun r => r.fr (fun q q1 q2 => ?_), fun r => r.fr (fun q q1 q2 => ?_)⟩
  · exact (zU_other f b x (by omega)).symm
  · exact zU_other f b x (by omega)
theorem rc_l {f : Nat → Nat → Int32} {g : Nat → Nat → Int64} {a b c : Nat} {x : Int64} {A : Ab} : RC (f, zUl g a b x) c A = RC (f, g) c A := rfl
theorem rc_e {s : zG} {c : Nat} {A : Ab} : RC (s.1, s.2) c A = RC s c A := rfl
theorem Ok.c1 {A : Ab} {i : Nat} (h : Ok A) (hi : i < A.S) : A.co i < 180 ∧ A.co i / 36 = A.fo i ∧ A.co i / 6 % 6 = A.ev i ∧ A.co i % 6 = A.ew i ∧ A.co i / 6 % 6 < A.E ∧ A.co i % 6 < A.E := by
  have h1 := h.hfo i hi
  have h2 := h.hev i hi
  have h3 := h.hew i hi
  have h4 := h.hE
  unfold Ab.co
  omega
theorem Ok.p2 {A : Ab} (h : Ok A) : 2 ^ A.E ≤ 64 ∧ 1 ≤ 2 ^ A.E := ⟨Nat.le_trans (Nat.pow_le_pow_right (by decide) h.hE) (by decide), Nat.one_le_two_pow⟩
theorem lgz_eq (x y : Int64) : (lg_cmp x y = nI 0) = (x = y) := propext (lg_cmp_eq x y)
theorem lgz_lt (x y : Int64) : (lg_cmp x y < nI 0) = (x < y) := propext (lg_cmp_lt x y)
theorem lgz_le (x y : Int64) : (lg_cmp x y ≤ nI 0) = (x ≤ y) := propext (lg_cmp_le x y)
theorem lgz_gt (x y : Int64) : (nI 0 < lg_cmp x y) = (y < x) := propext (lg_cmp_gt x y)
theorem lgz_ge (x y : Int64) : (nI 0 ≤ lg_cmp x y) = (y ≤ x) := propext (lg_cmp_ge x y)
theorem z1_s (ls : zL) (i : Nat) (v : Value) : z1 ls i v i = v := if_pos rfl
theorem z1_n {ls : zL} {i j : Nat} {v : Value} (h : j ≠ i ∧ j + 1 ≠ i) : z1 ls i v j = ls j := by
  unfold z1
  rw [if_neg h.1, if_neg (fun q => h.2 q.1)]
theorem z1_p {ls : zL} {i j : Nat} {v : Value} (h1 : j + 1 = i) : z1 ls i v j = if (ls j).category = 2 then .null else ls j := by
  unfold z1
  rw [if_neg (by omega)]
  simp only [h1, true_and]
theorem z2_s (ls : zL) (i : Nat) (v : Value) : z2 ls i v i = v := if_pos rfl
theorem z2_n {ls : zL} {i j : Nat} {v : Value} (h : j ≠ i ∧ j ≠ i + 1 ∧ j + 1 ≠ i) : z2 ls i v j = ls j := by
  unfold z2
  rw [if_neg h.1, if_neg h.2.1, if_neg (fun q => h.2.2 q.1)]
theorem z2_p {ls : zL} {i j : Nat} {v : Value} (h1 : j + 1 = i) : z2 ls i v j = if (ls j).category = 2 then .null else ls j := by
  unfold z2
  rw [if_neg (by omega), if_neg (by omega)]
  simp only [h1, true_and]
theorem nI_m1 {a : Nat} (h : a < 2 ^ 31) : (nI a = -nI 1) = False := by
  refine eq_false (fun e => ?_)
  have h1 := congrArg Int32.toInt e
  rw [nI_toInt h, show (-nI 1).toInt = -1 from by decide] at h1
  omega
theorem m1_le {a : Nat} (h : a < 2 ^ 31) : (nI a ≤ -nI 1) = False := by
  refine eq_false (fun e => ?_)
  have h1 := Int32.le_iff_toInt_le.mp e
  rw [nI_toInt h, show (-nI 1).toInt = -1 from by decide] at h1
  omega
theorem m1_lt {a : Nat} (h : a < 2 ^ 31) : (-nI 1 < nI a) = True := by
  refine eq_true ?_
  rw [Int32.lt_iff_toInt_lt, nI_toInt h, show (-nI 1).toInt = -1 from by decide]
  omega
theorem nI_mM {a : Nat} (h : a < 2 ^ 31) : (nI a = -nI 1000000) = False := by
  refine eq_false (fun e => ?_)
  have h1 := congrArg Int32.toInt e
  rw [nI_toInt h, show (-nI 1000000).toInt = -1000000 from by decide] at h1
  omega
theorem mM_lt {a : Nat} (h : a < 2 ^ 31) : (-nI 1000000 < nI a) = True := by
  refine eq_true ?_
  rw [Int32.lt_iff_toInt_lt, nI_toInt h, show (-nI 1000000).toInt = -1000000 from by decide]
  omega
