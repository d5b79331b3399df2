/-! SOUND, 2: reads and writes of cells -/
theorem zin_vp {i : Int32} {n : Nat} (h : zin i n = true) : vp_in i n := by
  simp only [zin, Bool.not_eq_true', Bool.or_eq_false_iff, decide_eq_false_iff_not] at h
  exact fun q => q.elim h.1 h.2
theorem zkI_of {c : zC} {t : Nat} {i : Int32} (h : zkI c t i = true) : ∃ n f, c = .inl (t, n, .inl f) ∧ zin i n = true := by
  unfold zkI at h
  split at h
  · rename_i u n f
    simp only [Bool.and_eq_true] at h
    exact ⟨n, f, by rw [Nat.eq_of_beq_eq_true h.1], h.2⟩
  · cases h
theorem zkJ_of {c : zC} {i : Int32} (h : zkJ c i = true) : ∃ n f, c = .inl (1, n, .inr (.inl f)) ∧ zin i n = true := by
  unfold zkJ at h
  split at h
  · rename_i u n f
    simp only [Bool.and_eq_true] at h
    exact ⟨n, f, by rw [Nat.eq_of_beq_eq_true h.1], h.2⟩
  · cases h
theorem zkA_of {c : zC} {i : Int32} (h : zkA c i = true) : ∃ u n f b, c = .inl (u, n, .inr (.inr f)) ∧ (u = 2 ∨ u = 3) ∧ zin i n = true ∧ f i.toNatClampNeg = some b ∧ 8 ≤ b := by
  unfold zkA at h
  split at h
  · rename_i u n f
    simp only [Bool.and_eq_true, Bool.or_eq_true] at h
    obtain ⟨⟨h1, h2⟩, h3⟩ := h
    split at h3
    · rename_i b hb
      exact ⟨u, n, f, b, rfl, h1.imp (fun q => Nat.eq_of_beq_eq_true q) (fun q => Nat.eq_of_beq_eq_true q), h2, hb, Nat.le_of_ble_eq_true h3⟩
    · cases h3
  · cases h
theorem zkO_of {c : zC} {ci b : Nat} (h : zkO c ci b = true) : ∃ fs, c = .inr (ci, fs) ∧ b < fs.length := by
  unfold zkO at h
  split at h
  · rename_i u fs
    simp only [Bool.and_eq_true, Nat.blt_eq] at h
    exact ⟨fs, by rw [Nat.eq_of_beq_eq_true h.1], h.2⟩
  · cases h
theorem zP.sing {G : zE} {h : zH} {H : Heap} (hP : zP G h H) {a : Nat} (ha : znew h a = true) : va_P G.2.2.2.1 vwCl [(G.1 + (a - 8), zce G (h.2.2 a))] H := by
  intro k q hk
  cases k with
  | zero => cases hk; exact (hP.one ha).2.2
  | succ k => cases hk
theorem zad_of_new {G : zE} {h : zH} {H : Heap} (hP : zP G h H) {a : Nat} (ha : znew h a = true) : zad G a = .ref (G.1 + (a - 8)) := zad_new G (hP.one ha).1
section ZS
variable {p : Program} {l : Launch} {e : Env} {R : Room} {s : State} {m : MethodId} {args : Array Value} {below : List Frame} {meth : Method} {c : Code} {H : Heap} {locs : List Loc} {cells slots : Nat} {Q : State → Prop}
variable {G : zE} {cc : ByteArray} {pc : Nat} {sl : Array Slot} {rest : List Value} {h : zH}
theorem y_iald (hx : p.tables.exec = Jvm.exec) (hb : c.code = cc) (hK : zK G s) (hX : zX G s s.heap) (hP : zP G h H) (hS : va_S (zA G.1) s.heap H locs) {a : Nat} {i : Int32} (hk : ((znew h a || Nat.ble a 4) && zkI (h.2.2 a) 0 i) = true) (hd : decode cc pc = .ok (.iaload, 1))
    (kk : W p l e R s m args below meth c H locs cells slots Q (F0 m (pc + 1) sl (.int (zgI (h.2.2 a) i.toNatClampNeg) :: rest))) : W p l e R s m args below meth c H locs cells slots Q (F0 m pc sl (.int i :: zad G a :: rest)) := by
  simp only [Bool.and_eq_true, Bool.or_eq_true] at hk
  obtain ⟨n, f, ec, hi⟩ := zkI_of hk.2
  rw [ec] at kk
  rcases hk.1 with ha | ha
  · have h1 := hP.sing ha
    rw [ec] at h1
    rw [zad_of_new hP ha]
    exact va_iald (q0 := 0) (t0 := 0) hx hb hK.1 h1 rfl rfl (zin_vp hi) hd kk
  · rw [Nat.ble_eq] at ha
    have e0 := hP.2.1 a (by omega)
    rw [ec] at e0
    rw [zad_old G (by omega)]
    obtain ⟨⟨t0, a0, b0⟩, ⟨t1, a1, b1, -⟩, -, ⟨t3, a3, b3, -⟩, ⟨t4, a4, b4, -⟩, -⟩ := hX
    rcases (show a = 0 ∨ a = 1 ∨ a = 2 ∨ a = 3 ∨ a = 4 by omega) with rfl | rfl | rfl | rfl | rfl
    · cases e0
      rw [a0]
      exact va_ti hx hb b0 hS (zin_vp hi) rfl hd kk
    · cases e0
      rw [a1]
      exact va_ti hx hb b1 hS (zin_vp hi) rfl hd kk
    · cases e0
    · cases e0
      rw [a3]
      exact va_ti hx hb b3 hS (zin_vp hi) rfl hd kk
    · cases e0
      rw [a4]
      exact va_ti hx hb b4 hS (zin_vp hi) rfl hd kk
theorem y_lald (hx : p.tables.exec = Jvm.exec) (hb : c.code = cc) (hK : zK G s) (hX : zX G s s.heap) (hP : zP G h H) (hS : va_S (zA G.1) s.heap H locs) {a : Nat} {i : Int32} (hk : ((znew h a || Nat.beq a 2) && zkJ (h.2.2 a) i) = true) (hd : decode cc pc = .ok (.laload, 1))
    (kk : W p l e R s m args below meth c H locs cells slots Q (F0 m (pc + 1) sl (.long (zgJ (h.2.2 a) i.toNatClampNeg) :: rest))) : W p l e R s m args below meth c H locs cells slots Q (F0 m pc sl (.int i :: zad G a :: rest)) := by
  simp only [Bool.and_eq_true, Bool.or_eq_true] at hk
  obtain ⟨n, f, ec, hi⟩ := zkJ_of hk.2
  rw [ec] at kk
  rcases hk.1 with ha | ha
  · have h1 := hP.sing ha
    rw [ec] at h1
    rw [zad_of_new hP ha]
    exact va_lald (q0 := 0) (t0 := 1) hx hb hK.1 h1 rfl rfl (zin_vp hi) hd kk
  · have ha := Nat.eq_of_beq_eq_true ha
    subst ha
    have e0 := hP.2.1 2 (by omega)
    rw [ec] at e0
    rw [zad_old G (by omega)]
    obtain ⟨-, -, ⟨t2, a2, b2, -⟩, -⟩ := hX
    cases e0
    rw [a2]
    exact va_tl hx hb b2 hS (zin_vp hi) rfl hd kk
theorem y_bald (hx : p.tables.exec = Jvm.exec) (hb : c.code = cc) (hX : zX G s s.heap) (hP : zP G h H) (hS : va_S (zA G.1) s.heap H locs) {a : Nat} {i : Int32} (hk : (Nat.beq a 6 && zkI (h.2.2 a) 4 i) = true) (hd : decode cc pc = .ok (.baload, 1))
    (kk : W p l e R s m args below meth c H locs cells slots Q (F0 m (pc + 1) sl (.int (zgI (h.2.2 a) i.toNatClampNeg) :: rest))) : W p l e R s m args below meth c H locs cells slots Q (F0 m pc sl (.int i :: zad G a :: rest)) := by
  simp only [Bool.and_eq_true] at hk
  obtain ⟨n, f, ec, hi⟩ := zkI_of hk.2
  have ha := Nat.eq_of_beq_eq_true hk.1
  subst ha
  rw [ec] at kk
  have e0 := hP.2.1 6 (by omega)
  rw [ec] at e0
  rw [zad_old G (by omega)]
  obtain ⟨-, -, -, -, -, ⟨t5, u5, a5, b5, c5, d5, e5, f5, g5⟩, -⟩ := hX
  cases e0
  rw [b5]
  exact va_tb hx hb f5 hS (zin_vp hi) rfl hd kk
theorem y_aald (hx : p.tables.exec = Jvm.exec) (hb : c.code = cc) (hK : zK G s) (hP : zP G h H) {a : Nat} {i : Int32} (hk : (znew h a && zkA (h.2.2 a) i) = true) (hd : decode cc pc = .ok (.aaload, 1))
    (kk : W p l e R s m args below meth c H locs cells slots Q (F0 m (pc + 1) sl (zad G (zgA (h.2.2 a) i.toNatClampNeg) :: rest))) : W p l e R s m args below meth c H locs cells slots Q (F0 m pc sl (.int i :: zad G a :: rest)) := by
  simp only [Bool.and_eq_true] at hk
  obtain ⟨u, n, f, b, ec, hu, hi, hf, h8⟩ := zkA_of hk.2
  have h1 := (hP.one hk.1).2.2
  rw [ec] at h1 kk
  have e1 : zgA (.inl (u, n, .inr (.inr f))) i.toNatClampNeg = b := by simp [zgA, hf]
  rw [e1] at kk
  rw [zad_new G (by omega)] at kk
  rw [zad_of_new hP hk.1]
  have hlt := (zin_lt hi).1
  have h2 : H[G.1 + (a - 8)]? = some (arrV (G.2.2.1 u) n (fun j => va_rf ((f j).map (fun a => G.1 + (a - 8))))) := h1
  have hin : ¬ (i < 0 ∨ (arrV (G.2.2.1 u) n (fun j => va_rf ((f j).map (fun a => G.1 + (a - 8))))).slots.size ≤ i.toNatClampNeg) := by rw [arrV_size]; exact zin_vp hi
  have hv : (arrV (G.2.2.1 u) n (fun j => va_rf ((f j).map (fun a => G.1 + (a - 8))))).slots[i.toNatClampNeg]? = some (.ref (G.1 + (b - 8))) := by rw [arrV_read _ _ hlt, hf]; rfl
  rcases hu with rfl | rfl
  · exact W.aald (v := .ref (G.1 + (b - 8))) (ty := .object "ProphetFines$Republic") hx hb h2 ((hK.1.2 2 _ rfl).1 n (fun j => va_rf ((f j).map (fun a => G.1 + (a - 8))))) rfl (fun q => by cases q) hin hv rfl rfl hd kk
  · exact W.aald (v := .ref (G.1 + (b - 8))) (ty := .array .int) hx hb h2 ((hK.1.2 3 _ rfl).1 n (fun j => va_rf ((f j).map (fun a => G.1 + (a - 8))))) rfl (fun q => by cases q) hin hv rfl rfl hd kk
theorem y_alen (hx : p.tables.exec = Jvm.exec) (hb : c.code = cc) (hK : zK G s) (hX : zX G s s.heap) (hP : zP G h H) (hS : va_S (zA G.1) s.heap H locs) {a : Nat} (hk : ((znew h a || Nat.beq a 0) && zisArr (h.2.2 a) || Nat.beq a 6) = true) (hd : decode cc pc = .ok (.arraylength, 1))
    (kk : W p l e R s m args below meth c H locs cells slots Q (F0 m (pc + 1) sl (.int (Int32.ofNat (zlen (h.2.2 a))) :: rest))) : W p l e R s m args below meth c H locs cells slots Q (F0 m pc sl (zad G a :: rest)) := by
  simp only [Bool.and_eq_true, Bool.or_eq_true] at hk
  rcases hk with ⟨ha | ha, hz⟩ | ha
  · have h1 := hP.sing ha
    rw [zad_of_new hP ha]
    unfold zisArr at hz
    split at hz
    · rename_i u n f ec
      rw [ec] at h1 kk
      have hu0 := Nat.eq_of_beq_eq_true hz
      subst hu0
      exact va_alen (q0 := 0) (t0 := 0) hx hb hK.1 h1 rfl rfl rfl hd kk
    · rename_i u n f ec
      rw [ec] at h1 kk
      have hu0 := Nat.eq_of_beq_eq_true hz
      subst hu0
      exact va_alen (q0 := 0) (t0 := 1) hx hb hK.1 h1 rfl rfl rfl hd kk
    · cases hz
  · have ha := Nat.eq_of_beq_eq_true ha
    subst ha
    rw [zad_old G (by omega)]
    obtain ⟨⟨t0, a0, b0⟩, -⟩ := hX
    rw [hP.2.1 0 (by omega)] at kk
    rw [a0]
    exact va_tlen hx hb b0 hS rfl hd kk
  · have ha := Nat.eq_of_beq_eq_true ha
    subst ha
    rw [zad_old G (by omega)]
    obtain ⟨-, -, -, -, -, ⟨t5, u5, a5, b5, c5, d5, e5, f5, g5⟩, -⟩ := hX
    rw [hP.2.1 6 (by omega)] at kk
    rw [b5]
    exact va_tlen hx hb f5 hS rfl hd kk
theorem y_iast (hx : p.tables.exec = Jvm.exec) (hb : c.code = cc) (hK : zK G s) (hP : zP G h H) (hS : va_S (zA G.1) s.heap H locs) {a : Nat} {i q : Int32} (hk : (znew h a && zkI (h.2.2 a) 0 i) = true) (hd : decode cc pc = .ok (.iastore, 1))
    (kk : ∀ (H1 : Heap) (locs1 : List Loc), zP G (zu h a (zsI (h.2.2 a) i.toNatClampNeg q)) H1 → va_S (zA G.1) s.heap H1 locs1 → W p l e R s m args below meth c H1 locs1 cells slots Q (F0 m (pc + 1) sl rest)) : W p l e R s m args below meth c H locs cells slots Q (F0 m pc sl (.int q :: .int i :: zad G a :: rest)) := by
  simp only [Bool.and_eq_true] at hk
  obtain ⟨n, f, ec, hi⟩ := zkI_of hk.2
  have h1 := (hP.one hk.1).2.2
  rw [ec] at h1 kk
  rw [zad_of_new hP hk.1]
  refine W.iast hx hb (show H[G.1 + (a - 8)]? = some (vp_cell (G.2.2.1 0) (n, .inl f)) from h1) ((hK.1.2 0 _ rfl).1 n (fun j => .int (f j))) (fun q => by cases q) (by show ¬ (i < 0 ∨ (arrV _ _ _).slots.size ≤ _); rw [arrV_size]; exact zin_vp hi) rfl rfl hd fun H1 e1 z1 oq => ?_
  refine kk H1 _ (hP.set hk.1 z1 oq ?_) (hS.put z1 oq (Nat.le_add_right _ _))
  show H1[_]? = some (vp_cell _ _)
  rw [e1, vp_cell_i, vp_cell_i, arrV_store]
  congr 2
  funext w
  by_cases hq : w = i.toNatClampNeg
  · subst hq
    simp [updV, upd]
  · simp [updV, upd, hq]
theorem y_last (hx : p.tables.exec = Jvm.exec) (hb : c.code = cc) (hK : zK G s) (hP : zP G h H) (hS : va_S (zA G.1) s.heap H locs) {a : Nat} {i : Int32} {q : Int64} (hk : (znew h a && zkJ (h.2.2 a) i) = true) (hd : decode cc pc = .ok (.lastore, 1))
    (kk : ∀ (H1 : Heap) (locs1 : List Loc), zP G (zu h a (zsJ (h.2.2 a) i.toNatClampNeg q)) H1 → va_S (zA G.1) s.heap H1 locs1 → W p l e R s m args below meth c H1 locs1 cells slots Q (F0 m (pc + 1) sl rest)) : W p l e R s m args below meth c H locs cells slots Q (F0 m pc sl (.long q :: .int i :: zad G a :: rest)) := by
  simp only [Bool.and_eq_true] at hk
  obtain ⟨n, f, ec, hi⟩ := zkJ_of hk.2
  have h1 := (hP.one hk.1).2.2
  rw [ec] at h1 kk
  rw [zad_of_new hP hk.1]
  refine W.last hx hb (show H[G.1 + (a - 8)]? = some (vp_cell (G.2.2.1 1) (n, .inr (.inl f))) from h1) ((hK.1.2 1 _ rfl).1 n (fun j => .long (f j))) (fun q => by cases q) (by show ¬ (i < 0 ∨ (arrV _ _ _).slots.size ≤ _); rw [arrV_size]; exact zin_vp hi) rfl rfl hd fun H1 e1 z1 oq => ?_
  refine kk H1 _ (hP.set hk.1 z1 oq ?_) (hS.put z1 oq (Nat.le_add_right _ _))
  show H1[_]? = some (vp_cell _ _)
  rw [e1, vp_cell_l, vp_cell_l, arrV_store]
  congr 2
  funext w
  by_cases hq : w = i.toNatClampNeg
  · subst hq
    simp [updV, vp_updL]
  · simp [updV, vp_updL, hq]
theorem y_aast (hx : p.tables.exec = Jvm.exec) (hb : c.code = cc) (hK : zK G s) (hP : zP G h H) (hS : va_S (zA G.1) s.heap H locs) {a v n : Nat} {i : Int32} {f : Nat → Option Nat} (ec : h.2.2 a = .inl (2, n, .inr (.inr f))) (hk : (znew h a && zin i n && znew h v && zkO (h.2.2 v) 4 0) = true) (hd : decode cc pc = .ok (.aastore, 1))
    (kk : ∀ (H1 : Heap) (locs1 : List Loc), zP G (zu h a (zsA (h.2.2 a) i.toNatClampNeg v)) H1 → va_S (zA G.1) s.heap H1 locs1 → W p l e R s m args below meth c H1 locs1 cells slots Q (F0 m (pc + 1) sl rest)) : W p l e R s m args below meth c H locs cells slots Q (F0 m pc sl (zad G v :: .int i :: zad G a :: rest)) := by
  simp only [Bool.and_eq_true] at hk
  obtain ⟨⟨⟨ha, hi⟩, hv⟩, ho⟩ := hk
  obtain ⟨fs, ev, -⟩ := zkO_of ho
  have h1 := (hP.one ha).2.2
  have h2 := (hP.one hv).2.2
  rw [ec] at h1 kk
  rw [ev] at h2
  rw [zad_of_new hP ha, zad_of_new hP hv]
  have hlt := (zin_lt hi).1
  have h0 := (zin_lt hi).2
  obtain ⟨r', hr', cellV, g1, g2, g3, -⟩ := h2
  have hcls := (hK.1.1 4 _ rfl).2
  obtain ⟨kA, comp, k1, k2, k3, -⟩ := (hK.1.2 2 _ rfl).2
  have hcomp : comp = G.2.2.2.1.1 4 := Option.some.inj (k3.symm.trans hcls.1)
  subst hcomp
  obtain ⟨kC, hkC, -⟩ := hcls.2
  refine W.aast hx hb (show H[G.1 + (a - 8)]? = some (vp_cell (G.2.2.1 2) (n, .inr (.inr (.inr (.inr (fun j => (f j).map (fun a => G.1 + (a - 8)))))))) from h1) (fun q h => by cases h) (fun h => by cases h) k1 k2 rfl hkC ⟨h0, by show _ < (arrV _ _ _).slots.size; rw [arrV_size]; exact hlt⟩ g1 (fun q h => by rw [g3] at h; cases h) (by rw [g2]; exact hkC) (by rw [g2]; exact va_assign hcls) rfl rfl hd fun H1 e1 z1 oq => ?_
  refine kk H1 _ (hP.set ha z1 oq ?_) (hS.put z1 oq (Nat.le_add_right _ _))
  show H1[_]? = some (vp_cell _ _)
  rw [e1, vp_cell_q, vp_cell_q, arrV_store]
  congr 2
  funext w
  by_cases hq : w = i.toNatClampNeg
  · subst hq
    simp [updV, va_up, va_rf]
  · simp [updV, va_up, hq]
end ZS
