/-! SOUND, 3: objects, statics, what is made -/
def zisRef (t : FieldType) : Bool := match t with
  | .object _ => true
  | .array _ => true
  | _ => false
/-- what is known of the objects of a number -/
def zCl (ci : Nat) : Prop := ∃ (T : u_T) (N : Nat) (ty : Nat → FieldType), vwCl[ci]? = some (zRn ci, T, N) ∧ zTn ci = T ∧ zNn ci = N ∧ (zkt.getD ci []).length = N ∧ (∀ w ∈ u_ws (zRn ci) T N, w ∈ zWd) ∧ (∀ k, k < N → parseFieldDescriptor (T k).2.2.1 = some (ty k)) ∧ (∀ a, a < N → ∀ b, b < N → a ≠ b → (T a).2.1 ≠ (T b).2.1) ∧ (∀ k, k < N → ((zkt.getD ci []).getD k 2 = 0 ∧ ty k = .int) ∨ ((zkt.getD ci []).getD k 2 = 1 ∧ zisRef (ty k) = true)) ∧ Jvm.Cond.instantiable (zRn ci) N ∈ zWd ∧ Jvm.Cond.initialized (zRn ci) ∈ zWd ∧ (∀ k, k < N → (T k).1 = zRn ci)
set_option maxRecDepth 20000 in
theorem zcw_0 : ∀ w ∈ u_ws RX0 TX0 3, w ∈ lw_tbl := by decide +kernel
set_option maxRecDepth 20000 in
theorem zcl_0 : zCl 0 := ⟨TX0, 3, tyX0, rfl, rfl, rfl, rfl, fun w h => zWd_of (zcw_0 w h) (List.all_eq_true.mp (show (u_ws RX0 TX0 3).all goodWord = true by decide +kernel) w h), tyX0_ok, nmX0, by decide +kernel, zWd_of (by decide +kernel) rfl, zWd_of (by decide +kernel) rfl, by decide +kernel⟩
set_option maxRecDepth 20000 in
theorem zcw_1 : ∀ w ∈ u_ws RX1 TX1 4, w ∈ lw_tbl := by decide +kernel
set_option maxRecDepth 20000 in
theorem zcl_1 : zCl 1 := ⟨TX1, 4, tyX1, rfl, rfl, rfl, rfl, fun w h => zWd_of (zcw_1 w h) (List.all_eq_true.mp (show (u_ws RX1 TX1 4).all goodWord = true by decide +kernel) w h), tyX1_ok, nmX1, by decide +kernel, zWd_of (by decide +kernel) rfl, zWd_of (by decide +kernel) rfl, by decide +kernel⟩
set_option maxRecDepth 20000 in
theorem zcw_2 : ∀ w ∈ u_ws RX2 TX2 11, w ∈ lw_tbl := by decide +kernel
set_option maxRecDepth 20000 in
theorem zcl_2 : zCl 2 := ⟨TX2, 11, tyX2, rfl, rfl, rfl, rfl, fun w h => zWd_of (zcw_2 w h) (List.all_eq_true.mp (show (u_ws RX2 TX2 11).all goodWord = true by decide +kernel) w h), tyX2_ok, nmX2, by decide +kernel, zWd_of (by decide +kernel) rfl, zWd_of (by decide +kernel) rfl, by decide +kernel⟩
set_option maxRecDepth 20000 in
theorem zcw_3 : ∀ w ∈ u_ws RX3 TX3 5, w ∈ lw_tbl := by decide +kernel
set_option maxRecDepth 20000 in
theorem zcl_3 : zCl 3 := ⟨TX3, 5, tyX3, rfl, rfl, rfl, rfl, fun w h => zWd_of (zcw_3 w h) (List.all_eq_true.mp (show (u_ws RX3 TX3 5).all goodWord = true by decide +kernel) w h), tyX3_ok, nmX3, by decide +kernel, zWd_of (by decide +kernel) rfl, zWd_of (by decide +kernel) rfl, by decide +kernel⟩
set_option maxRecDepth 20000 in
theorem zcw_4 : ∀ w ∈ u_ws RX4 TX4 14, w ∈ lw_tbl := by decide +kernel
set_option maxRecDepth 20000 in
theorem zcl_4 : zCl 4 := ⟨TX4, 14, tyX4, rfl, rfl, rfl, rfl, fun w h => zWd_of (zcw_4 w h) (List.all_eq_true.mp (show (u_ws RX4 TX4 14).all goodWord = true by decide +kernel) w h), tyX4_ok, nmX4, by decide +kernel, zWd_of (by decide +kernel) rfl, zWd_of (by decide +kernel) rfl, by decide +kernel⟩
set_option maxRecDepth 20000 in
theorem zcw_5 : ∀ w ∈ u_ws RX5 TX5 3, w ∈ lw_tbl := by decide +kernel
set_option maxRecDepth 20000 in
theorem zcl_5 : zCl 5 := ⟨TX5, 3, tyX5, rfl, rfl, rfl, rfl, fun w h => zWd_of (zcw_5 w h) (List.all_eq_true.mp (show (u_ws RX5 TX5 3).all goodWord = true by decide +kernel) w h), tyX5_ok, nmX5, by decide +kernel, zWd_of (by decide +kernel) rfl, zWd_of (by decide +kernel) rfl, by decide +kernel⟩
set_option maxRecDepth 20000 in
theorem zcw_6 : ∀ w ∈ u_ws RX6 TX6 5, w ∈ lw_tbl := by decide +kernel
set_option maxRecDepth 20000 in
theorem zcl_6 : zCl 6 := ⟨TX6, 5, tyX6, rfl, rfl, rfl, rfl, fun w h => zWd_of (zcw_6 w h) (List.all_eq_true.mp (show (u_ws RX6 TX6 5).all goodWord = true by decide +kernel) w h), tyX6_ok, nmX6, by decide +kernel, zWd_of (by decide +kernel) rfl, zWd_of (by decide +kernel) rfl, by decide +kernel⟩
set_option maxRecDepth 20000 in
theorem zcw_7 : ∀ w ∈ u_ws RX7 TX7 10, w ∈ lw_tbl := by decide +kernel
set_option maxRecDepth 20000 in
theorem zcl_7 : zCl 7 := ⟨TX7, 10, tyX7, rfl, rfl, rfl, rfl, fun w h => zWd_of (zcw_7 w h) (List.all_eq_true.mp (show (u_ws RX7 TX7 10).all goodWord = true by decide +kernel) w h), tyX7_ok, nmX7, by decide +kernel, zWd_of (by decide +kernel) rfl, zWd_of (by decide +kernel) rfl, by decide +kernel⟩
set_option maxRecDepth 20000 in
theorem zcw_8 : ∀ w ∈ u_ws RX8 TX8 26, w ∈ lw_tbl := by decide +kernel
set_option maxRecDepth 20000 in
theorem zcl_8 : zCl 8 := ⟨TX8, 26, tyX8, rfl, rfl, rfl, rfl, fun w h => zWd_of (zcw_8 w h) (List.all_eq_true.mp (show (u_ws RX8 TX8 26).all goodWord = true by decide +kernel) w h), tyX8_ok, nmX8, by decide +kernel, zWd_of (by decide +kernel) rfl, zWd_of (by decide +kernel) rfl, by decide +kernel⟩
theorem zcl_ok {ci : Nat} (h : ci < 9) : zCl ci := by
  rcases (show ci = 0 ∨ ci = 1 ∨ ci = 2 ∨ ci = 3 ∨ ci = 4 ∨ ci = 5 ∨ ci = 6 ∨ ci = 7 ∨ ci = 8 by omega) with rfl | rfl | rfl | rfl | rfl | rfl | rfl | rfl | rfl
  · exact zcl_0
  · exact zcl_1
  · exact zcl_2
  · exact zcl_3
  · exact zcl_4
  · exact zcl_5
  · exact zcl_6
  · exact zcl_7
  · exact zcl_8
theorem zgO_of {ci b : Nat} {fs : List Value} (h : b < fs.length) : fs[b]? = some (zgO (.inr (ci, fs)) b) := by
  simp only [zgO, List.getD_eq_getElem?_getD]
  rw [List.getElem?_eq_getElem h]
  rfl
theorem zw_ar_int : Jvm.Cond.arrayClass .int ∈ zWd := zWd_of (by decide +kernel) rfl
theorem zw_ar_long : Jvm.Cond.arrayClass .long ∈ zWd := zWd_of (by decide +kernel) rfl
section ZS
variable {p : Program} {l : Launch} {e : Env} {R : Room} {s : State} {m : MethodId} {args : Array Value} {below : List Frame} {meth : Method} {c : Code} {H : Heap} {locs : List Loc} {cells slots : Nat} {Q : State → Prop}
variable {G : zE} {cc : ByteArray} {pc : Nat} {sl : Array Slot} {rest : List Value} {h : zH} {own : String}
theorem y_get (hx : p.tables.exec = Jvm.exec) (hb : c.code = cc) (hts : ∀ w ∈ zWd, w.before args s = true) (hown : s.vm.findClass own = some m.cls) (hK : zK G s) (hP : zP G h H) {a ci b q : Nat} (hci : ci < 9) (hbN : b < zNn ci) (hk : (znew h a && zkO (h.2.2 a) ci b) = true) (hlink : (Jvm.Cond.fieldLink own q (zTn ci b).1 (zTn ci b).2.1 (zTn ci b).2.2.1).before args s = true) (hd : decode cc pc = .ok (.getfield q, 3))
    (kk : W p l e R s m args below meth c H locs cells slots Q (F0 m (pc + 3) sl (ztv G (zgO (h.2.2 a) b) :: rest))) : W p l e R s m args below meth c H locs cells slots Q (F0 m pc sl (zad G a :: rest)) := by
  obtain ⟨T, N, ty, h1, h2, h3, h4, h5, h6, h7, h8, h9, h10, h11⟩ := zcl_ok hci
  simp only [Bool.and_eq_true] at hk
  obtain ⟨fs, ec, hbl⟩ := zkO_of hk.2
  have hP1 := hP.sing hk.1
  rw [ec] at hP1 kk
  rw [zad_of_new hP hk.1]
  subst h2
  refine va_get (C := zRn ci) (T := zTn ci) (N := N) hx hb hts h5 hown hK.1 hP1 0 rfl h1 b (by rw [← h3]; exact hbN) hlink (fun _ h9 => h9) (v := ztv G (zgO (.inr (ci, fs)) b)) ?_ hd kk
  rw [List.getElem?_map, zgO_of hbl]
  rfl
theorem zfits_of {G : zE} {v : Value} {kd : Nat} {t : FieldType} (h : zfits v kd = true) (hk : (kd = 0 ∧ t = .int) ∨ (kd = 1 ∧ zisRef t = true)) : narrow t (ztv G v) = ztv G v ∧ fits t (ztv G v) = true := by
  cases v with
  | int x =>
    rcases hk with ⟨-, rfl⟩ | ⟨rfl, -⟩
    · exact ⟨rfl, rfl⟩
    · cases h
  | ref a =>
    rcases hk with ⟨rfl, -⟩ | ⟨-, hk⟩
    · cases h
    · simp only [zfits, Bool.and_eq_true, Nat.ble_eq] at h
      rw [ztv_ref, zad_new G (by omega)]
      cases t <;> first | (cases hk; done) | exact ⟨rfl, rfl⟩
  | _ => cases h
theorem y_put (hx : p.tables.exec = Jvm.exec) (hb : c.code = cc) (hts : ∀ w ∈ zWd, w.before args s = true) (hown : s.vm.findClass own = some m.cls) (hK : zK G s) (hP : zP G h H) (hS : va_S (zA G.1) s.heap H locs) {a ci b q : Nat} {v : Value} (hci : ci < 9) (hbN : b < zNn ci) (hk : (znew h a && zkO (h.2.2 a) ci b && zfits v ((zkt.getD ci []).getD b 2)) = true) (hlink : (Jvm.Cond.fieldLink own q (zTn ci b).1 (zTn ci b).2.1 (zTn ci b).2.2.1).before args s = true) (hfin : (zTn ci b).2.2.2 = false ∨ ((zTn ci b).1 = own ∧ meth.name = "<init>")) (hd : decode cc pc = .ok (.putfield q, 3))
    (kk : ∀ (H1 : Heap) (locs1 : List Loc), zP G (zu h a (zsO (h.2.2 a) b v)) H1 → va_S (zA G.1) s.heap H1 locs1 → W p l e R s m args below meth c H1 locs1 cells slots Q (F0 m (pc + 3) sl rest)) : W p l e R s m args below meth c H locs cells slots Q (F0 m pc sl (ztv G v :: zad G a :: rest)) := by
  obtain ⟨T, N, ty, h1, h2, h3, h4, h5, h6, h7, h8, h9, h10, h11⟩ := zcl_ok hci
  simp only [Bool.and_eq_true] at hk
  obtain ⟨⟨ha, ho⟩, hv⟩ := hk
  obtain ⟨fs, ec, hbl⟩ := zkO_of ho
  have hone := (hP.one ha).2.2
  rw [ec] at hone kk
  rw [zad_of_new hP ha]
  subst h2
  subst h3
  have hbN' := hbN
  obtain ⟨hn, hf⟩ := zfits_of (G := G) hv (h8 b hbN)
  have hap := va_apart (own := own) hts h5 ty h6 h7 hK.1 h1
  obtain ⟨r, g1, cell, q1, q2, q3, q4⟩ := hone
  have hr : r = (zRn ci, zTn ci, zNn ci) := Option.some.inj (g1.symm.trans h1)
  subst hr
  obtain ⟨hSl, hfc, kC, hkC, hkind⟩ := hK.1.1 ci _ h1
  obtain ⟨cf, kf, fi, f, hi, hsl⟩ := hSl b hbN
  have hlay := hts _ (h5 _ (u_in_lay hbN))
  have hst := (u_facts hfc hkC (u_lays hts h5 hbN) hi).1
  have hlm : b < (fs.map (ztv G)).length := by rw [List.length_map]; exact hbl
  have fin : ∀ (H1 : Heap), H1[G.1 + (a - 8)]? = some (cell.setSlot f.slot (ztv G v)) → H1.size = H.size → (∀ q : Nat, q ≠ G.1 + (a - 8) → H1[q]? = H[q]?) → W p l e R s m args below meth c H1 (locs ++ [⟨G.1 + (a - 8), f.slot⟩]) cells slots Q (F0 m (pc + 3) sl rest) := by
    intro H1 e1 e2 e3
    rw [hsl] at e1
    refine kk H1 _ (hP.set ha e2 e3 ?_) (hS.put e2 e3 (Nat.le_add_right _ _))
    refine ⟨_, h1, ?_⟩
    show t_OB (G.1 + (a - 8)) _ _ _ H1 (vp_V ((fs.set b v).map (ztv G)))
    rw [List.map_set]
    exact t_OB.to (V := updV (vp_V (fs.map (ztv G))) b (ztv G v)) ⟨_, e1, q2, q3, t_set q4 hap hbN (ztv G v)⟩ (fun j _ => vp_updV_set hlm (ztv G v) j)
  by_cases hfi : (zTn ci b).2.2.2 = true
  · unfold u_lay at hlay
    rw [if_pos hfi] at hlay
    have hdn : (zTn ci b).1 = own ∧ meth.name = "<init>" := by
      rcases hfin with q | q
      · rw [hfi] at q; cases q
      · exact q
    have hcf : m.cls = cf := by
      obtain ⟨_, _, c', _, _, _, -, -, hf', -, -, -, hown2, -⟩ := Cond.laysFinal_spec hlay
      have e1 : c' = cf := by have := hi.symm.trans hf'; simp at this; exact this.1.symm
      rw [hdn.1] at hown2
      rw [← e1]; exact Option.some.inj (hown.symm.trans hown2)
    have h6' := u_fits hfc hkC hkind (Or.inr hlay) hi (h6 b hbN) hn hf
    exact W.putFinK hx hb hown hlink hi hst hcf hdn.2 (by rw [q2]; exact h6') q1 q3 (by rw [hsl]; exact k2_hasslot (q4 b hbN)) rfl rfl hd fin
  · unfold u_lay at hlay
    rw [if_neg hfi] at hlay
    have h6' := u_store hfc hkC hkind hlay hi (h6 b hbN) hn hf
    exact W.putK hx hb (f := f) ⟨hown, hlink, ⟨_, _, _, hi⟩, hst⟩ (by rw [q2]; exact h6') q1 q3 (by rw [hsl]; exact k2_hasslot (q4 b hbN)) rfl rfl hd fin
/-- the old text's fields -/
theorem y_gets (hx : p.tables.exec = Jvm.exec) (hb : c.code = cc) (hown : s.vm.findClass own = some m.cls) (hX : zX G s s.heap) (hS : va_S (zA G.1) s.heap H locs) {b q : Nat} (hlink : (Jvm.Cond.fieldLink own q "java/lang/String" (if b = 0 then "coder" else "value") (if b = 0 then "B" else "[B")).before args s = true) (hd : decode cc pc = .ok (.getfield q, 3))
    (kk : W p l e R s m args below meth c H locs cells slots Q (F0 m (pc + 3) sl (ztv G (if b = 0 then .int 0 else .ref 6) :: rest))) : W p l e R s m args below meth c H locs cells slots Q (F0 m pc sl (zad G 5 :: rest)) := by
  obtain ⟨-, -, -, -, -, ⟨t5, u5, a5, b5, c5, d5, e5, f5, g5⟩, -⟩ := hX
  rw [zad_old G (by omega), a5]
  by_cases h0 : b = 0
  · rw [if_pos h0, if_pos h0] at hlink
    rw [if_pos h0] at kk
    exact vk_getf hx hb d5 hS hown hlink (fun _ h => h) hd kk
  · rw [if_neg h0, if_neg h0] at hlink
    rw [if_neg h0, ztv_ref, zad_old G (by omega), b5] at kk
    exact vk_getf hx hb e5 hS hown hlink (fun _ h => h) hd kk
/-- statics -/
theorem y_stat (hx : p.tables.exec = Jvm.exec) (hb : c.code = cc) (hown : s.vm.findClass own = some m.cls) (hX : zX G s s.heap) (hS : va_S (zA G.1) s.heap H locs) {a q : Nat} (ha : (1 ≤ a ∧ a ≤ 4) ∨ a = 7 ∨ a = 8) (hlink : (Jvm.Cond.fieldLink own q (zsn a).1 (zsn a).2.1 (zsn a).2.2).before args s = true ∨ (Jvm.Cond.fieldLinkNest own q (zsn a).1 (zsn a).2.1 (zsn a).2.2 "ProphetFines").before args s = true) (hd : decode cc pc = .ok (.getstatic q, 3))
    (kk : W p l e R s m args below meth c H locs cells slots Q (F0 m (pc + 3) sl (ztv G (if a = 8 then .int 1 else .ref a) :: rest))) : W p l e R s m args below meth c H locs cells slots Q (F0 m pc sl rest) := by
  obtain ⟨-, ⟨t1, a1, b1, c1⟩, ⟨t2, a2, b2, c2⟩, ⟨t3, a3, b3, c3⟩, ⟨t4, a4, b4, c4⟩, -, h6, h7, h8⟩ := hX
  rcases (show a = 1 ∨ a = 2 ∨ a = 3 ∨ a = 4 ∨ a = 7 ∨ a = 8 by omega) with rfl | rfl | rfl | rfl | rfl | rfl
  · rw [if_neg (by omega), ztv_ref, zad_old G (by omega), a1] at kk
    rcases hlink with hl | hl
    · exact va_gets hx hb c1 hS hown hl (fun _ h => h) hd kk
    · exact va_getsN hx hb c1 hS hown hl (fun _ h => h) hd kk
  · rw [if_neg (by omega), ztv_ref, zad_old G (by omega), a2] at kk
    rcases hlink with hl | hl
    · exact va_gets hx hb c2 hS hown hl (fun _ h => h) hd kk
    · exact va_getsN hx hb c2 hS hown hl (fun _ h => h) hd kk
  · rw [if_neg (by omega), ztv_ref, zad_old G (by omega), a3] at kk
    rcases hlink with hl | hl
    · exact va_gets hx hb c3 hS hown hl (fun _ h => h) hd kk
    · exact va_getsN hx hb c3 hS hown hl (fun _ h => h) hd kk
  · rw [if_neg (by omega), ztv_ref, zad_old G (by omega), a4] at kk
    rcases hlink with hl | hl
    · exact va_gets hx hb c4 hS hown hl (fun _ h => h) hd kk
    · exact va_getsN hx hb c4 hS hown hl (fun _ h => h) hd kk
  · rw [if_neg (by omega), ztv_ref, zad_old G (by omega)] at kk
    rcases hlink with hl | hl
    · exact va_gets hx hb h7 hS hown hl (fun _ h => h) hd kk
    · exact va_getsN hx hb h7 hS hown hl (fun _ h => h) hd kk
  · rw [if_pos rfl] at kk
    rcases hlink with hl | hl
    · exact va_gets hx hb h6 hS hown hl (fun _ h => h) hd kk
    · exact va_getsN hx hb h6 hS hown hl (fun _ h => h) hd kk
theorem zS_push {H1 : Heap} (hP : zP G h H) (hS : va_S (zA G.1) s.heap H locs) (hz : H.size ≤ H1.size) (hq : ∀ q : Nat, q < H.size → H1[q]? = H[q]?) : va_S (zA G.1) s.heap H1 locs :=
  ⟨Nat.le_trans hS.1 hz, fun q h1 h2 => (hq q (Nat.lt_of_lt_of_le h1 hS.1)).trans (hS.2.1 q h1 h2), hS.2.2⟩
theorem y_new (hx : p.tables.exec = Jvm.exec) (hb : c.code = cc) (hts : ∀ w ∈ zWd, w.before args s = true) (hown : s.vm.findClass own = some m.cls) (hK : zK G s) (hP : zP G h H) (hS : va_S (zA G.1) s.heap H locs) {ci q : Nat} (hci : ci < 9) (hlink : (Jvm.Cond.classLink own q (zRn ci)).before args s = true) (hcells : cells + 1 ≤ R.cells) (hslots : slots + (zdf ci).length ≤ R.slots) (hd : decode cc pc = .ok (.new q, 3))
    (kk : ∀ (H1 : Heap), zP G (zp h (.inr (ci, zdf ci)) (zdf ci).length) H1 → va_S (zA G.1) s.heap H1 locs → W p l e R s m args below meth c H1 locs (cells + 1) (slots + (zdf ci).length) Q (F0 m (pc + 3) sl (zad G (8 + h.1) :: rest))) : W p l e R s m args below meth c H locs cells slots Q (F0 m pc sl rest) := by
  obtain ⟨T, N, ty, h1, h2, h3, h4, h5, h6, h7, h8, h9, h10, h11⟩ := zcl_ok hci
  have hlen : (zdf ci).length = N := by unfold zdf; rw [List.length_map]; exact h4
  rw [hlen] at kk hslots
  have hKn := hK.1.1 ci _ h1
  rw [zad_new G (by omega), show 8 + h.1 - 8 = h.1 by omega, ← hP.1] at kk
  refine W.newcK hx hb hown hlink (hts _ h9) (hts _ h10) rfl hd hcells hslots hKn.2.1 rfl fun H1 kC hkC e1 z1 o1 => ?_
  refine kk H1 (hP.push z1 o1 ?_) (zS_push hP hS (by omega) o1)
  refine ⟨_, h1, ?_⟩
  rw [← hP.1]
  refine (u_born ty hts h5 hKn hkC e1 h6).to (fun j hj => ?_)
  have hj2 : j < (zkt.getD ci []).length := by rw [h4]; exact hj
  have hj3 : (zkt.getD ci []).getD j 2 = (zkt.getD ci [])[j] := by rw [List.getD_eq_getElem?_getD, List.getElem?_eq_getElem hj2]; rfl
  have e2 : vp_V ((zdf ci).map (ztv G)) j = ztv G (if (zkt.getD ci []).getD j 2 = 0 then .int 0 else .null) := by
    unfold vp_V zdf
    rw [List.map_map, List.getD_eq_getElem?_getD, List.getElem?_map, List.getElem?_eq_getElem hj2, hj3]
    rfl
  rw [e2]
  rcases h8 j hj with ⟨q1, q2⟩ | ⟨q1, q2⟩
  · rw [q2, if_pos q1]; rfl
  · rw [if_neg (by rw [q1]; decide)]
    generalize ty j = t at q2
    cases t <;> first | (cases q2; done) | rfl
theorem y_newI (hx : p.tables.exec = Jvm.exec) (hb : c.code = cc) (hts : ∀ w ∈ zWd, w.before args s = true) (hK : zK G s) (hP : zP G h H) (hS : va_S (zA G.1) s.heap H locs) {n : Int32} (hn : ¬ n < 0) (hN : n.toNatClampNeg ≤ 4000) (hcells : cells + 1 ≤ R.cells) (hslots : slots + n.toNatClampNeg ≤ R.slots) (hd : decode cc pc = .ok (.newarray .int, 2))
    (kk : ∀ (H1 : Heap), zP G (zp h (.inl (0, n.toNatClampNeg, .inl (fun _ => 0))) n.toNatClampNeg) H1 → va_S (zA G.1) s.heap H1 locs → W p l e R s m args below meth c H1 locs (cells + 1) (slots + n.toNatClampNeg) Q (F0 m (pc + 2) sl (zad G (8 + h.1) :: rest))) : W p l e R s m args below meth c H locs cells slots Q (F0 m pc sl (.int n :: rest)) := by
  rw [zad_new G (by omega), show 8 + h.1 - 8 = h.1 by omega, ← hP.1] at kk
  have harr : (Jvm.Cond.arrayClass (newarray.typeOf .int)).before args s = true := hts (.arrayClass .int) zw_ar_int
  have hby : n.toNatClampNeg * componentBytes (newarray.typeOf .int) ≤ 536870912 := by show n.toNatClampNeg * 4 ≤ _; omega
  refine va_newaK (atype := .int) (N := n.toNatClampNeg) (h := H.size) hx hb harr rfl hd rfl hn rfl hby hcells hslots rfl fun H1 cA e1 z1 o1 hAr hNm => ?_
  have hc : cA = G.2.2.1 0 := Option.some.inj (hNm.symm.trans (hK.1.2 0 _ rfl).2)
  subst hc
  refine kk H1 (hP.push z1 o1 ?_) (zS_push hP hS (by omega) o1)
  show H1[G.1 + h.1]? = _
  rw [← hP.1]
  exact e1
theorem y_newL (hx : p.tables.exec = Jvm.exec) (hb : c.code = cc) (hts : ∀ w ∈ zWd, w.before args s = true) (hK : zK G s) (hP : zP G h H) (hS : va_S (zA G.1) s.heap H locs) {n : Int32} (hn : ¬ n < 0) (hN : n.toNatClampNeg ≤ 4000) (hcells : cells + 1 ≤ R.cells) (hslots : slots + n.toNatClampNeg ≤ R.slots) (hd : decode cc pc = .ok (.newarray .long, 2))
    (kk : ∀ (H1 : Heap), zP G (zp h (.inl (1, n.toNatClampNeg, .inr (.inl (fun _ => 0)))) n.toNatClampNeg) H1 → va_S (zA G.1) s.heap H1 locs → W p l e R s m args below meth c H1 locs (cells + 1) (slots + n.toNatClampNeg) Q (F0 m (pc + 2) sl (zad G (8 + h.1) :: rest))) : W p l e R s m args below meth c H locs cells slots Q (F0 m pc sl (.int n :: rest)) := by
  rw [zad_new G (by omega), show 8 + h.1 - 8 = h.1 by omega, ← hP.1] at kk
  have harr : (Jvm.Cond.arrayClass (newarray.typeOf .long)).before args s = true := hts (.arrayClass .long) zw_ar_long
  have hby : n.toNatClampNeg * componentBytes (newarray.typeOf .long) ≤ 536870912 := by show n.toNatClampNeg * 8 ≤ _; omega
  refine va_newaK (atype := .long) (N := n.toNatClampNeg) (h := H.size) hx hb harr rfl hd rfl hn rfl hby hcells hslots rfl fun H1 cA e1 z1 o1 hAr hNm => ?_
  have hc : cA = G.2.2.1 1 := Option.some.inj (hNm.symm.trans (hK.1.2 1 _ rfl).2)
  subst hc
  refine kk H1 (hP.push z1 o1 ?_) (zS_push hP hS (by omega) o1)
  show H1[G.1 + h.1]? = _
  rw [← hP.1]
  exact e1
theorem y_anew (hx : p.tables.exec = Jvm.exec) (hb : c.code = cc) (hown : s.vm.findClass own = some m.cls) (hK : zK G s) (hP : zP G h H) (hS : va_S (zA G.1) s.heap H locs) {n : Int32} {q : Nat} (hlink : (Jvm.Cond.classLink own q "ProphetFines$Republic").before args s = true) (hn : ¬ n < 0) (hN : n.toNatClampNeg ≤ 4000) (hcells : cells + 1 ≤ R.cells) (hslots : slots + n.toNatClampNeg ≤ R.slots) (hd : decode cc pc = .ok (.anewarray q, 3))
    (kk : ∀ (H1 : Heap), zP G (zp h (.inl (2, n.toNatClampNeg, .inr (.inr (fun _ => none)))) n.toNatClampNeg) H1 → va_S (zA G.1) s.heap H1 locs → W p l e R s m args below meth c H1 locs (cells + 1) (slots + n.toNatClampNeg) Q (F0 m (pc + 3) sl (zad G (8 + h.1) :: rest))) : W p l e R s m args below meth c H locs cells slots Q (F0 m pc sl (.int n :: rest)) := by
  rw [zad_new G (by omega), show 8 + h.1 - 8 = h.1 by omega, ← hP.1] at kk
  refine W.anew hx hb hown hlink (va_AO.use hK.2.2.1) rfl hd rfl hn (by omega) hcells hslots fun cA kA comp f1 f2 f3 f4 => ?_
  generalize hH1 : H.push ({ cls := cA, slots := Array.replicate n.toNatClampNeg .null, vm := .none } : Cell) = H1
  have z1 : H1.size = H.size + 1 := by rw [← hH1, Array.size_push]
  have e1 : H1[H.size]? = some (arrV cA n.toNatClampNeg (fun _ => .null)) := by rw [← hH1, Array.getElem?_push_size, ← arrV_new]
  have o1 : ∀ q : Nat, q < H.size → H1[q]? = H[q]? := fun q hq => by rw [← hH1, Array.getElem?_push, if_neg (Nat.ne_of_lt hq)]
  obtain ⟨kA', comp', r1, r2, r3, r4⟩ := (hK.1.2 2 _ rfl).2
  have hc : cA = G.2.2.1 2 := Option.some.inj (f1.symm.trans r4)
  subst hc
  refine kk H1 (hP.push z1 o1 ?_) (zS_push hP hS (by omega) o1)
  show H1[G.1 + h.1]? = _
  rw [← hP.1]
  exact e1
end ZS

