/-! THE CLAIM OUT OF ONE WALK OF THE LAW'S BODY. Your part is whole_start (and what it stands on); all else here is the same for every law, but numbers. -/
def R_law : String := "ProphetFinesLaw"
def lw_P (b : Addr) (xs : List Int32) (args : Array Value) (s : State) : Prop := args = #[.ref b] ∧ s.IntsAt b xs ∧ xs.length ≤ 384 ∧ (Jvm.Cond.and given_1 narrow_1).before args s = true
def lw_Q (_ : Array Value) (s : State) (o : Outcome) (t : State) : Prop := o = .returned (some (.int 1)) ∧ Framed s o t [] 600000 7302250
def lw_Z (below : List Frame) (a : Array Value) (s : State) : State → Prop := fun t => ∃ o, t.status = .running ∧ Ended t below o ∧ lw_Q a s o t
/-- the law's own end, with 1 on the stack, nothing written that was there before, its room as the claim has it -/
theorem lw_ret {p : Program} {l : Launch} {e : Env} {s : State} {m : MethodId} {below : List Frame} {meth : Method} {c : Code} {b : Nat} (hx : p.tables.exec = Jvm.exec) (hb : c.code = code) (hr : meth.sig.returnType = ret) (hlocks : meth.locks = false) {pc : Nat} {H : Heap} {ls : Array Slot} (hdg : decode code pc = .ok (.ireturn, 1)) : W p l e room_1 s m #[Value.ref b] below meth c H [] 600000 7302250 (lw_Z below #[Value.ref b] s) (F0 m pc ls [.int 1]) := by
  intro T hT X
  obtain ⟨fs, hret, hrun, hended, hW, hframe⟩ := X.leave (v := some (.int 1)) (hlocks := hlocks) (fun h => by rw [hr] at h; cases h)
  have hmeth' : T.vm.method? m = some meth := X.method'
  refine ⟨T.setFrames fs, ?_, .returned (some (.int 1)), hrun, hended, rfl, ⟨_, rfl⟩, hW, hframe⟩
  jvm_step X.here [X.here.top, hx, hb, hdg, hmeth', hr, ret, narrow_b1]
  (try refine ⟨rfl, ?_⟩); (try refine ⟨rfl, ?_⟩)
  first | (intro acts; rw [hret _ acts rfl rfl rfl]) | rw [hret _ _ rfl rfl rfl]
  exact Steps.refl _
/-- what holds at the law's entry: the machine, the code, the tables' words (any of lw_tbl by 'hts w (by decide +kernel)'), the script of L ints xs at the cell b, what the Statement gives of the start (any of its parts by flat_of_before) -/
def lw_At (p : Program) (s : State) (m : MethodId) (meth : Method) (c : Code) (b L : Nat) (xs : Nat → Int32) : Prop :=
  p.tables.exec = Jvm.exec ∧ c.code = code ∧ meth.sig.returnType = ret ∧ c.maxLocals = 4 ∧ s.vm.findClass R_law = some m.cls ∧ (∀ w ∈ lw_tbl, w.before #[Value.ref b] s = true) ∧ va_X b L xs s s.heap ∧ b < s.heap.size ∧ meth.locks = false ∧ (Jvm.Cond.and given_1 narrow_1).before #[Value.ref b] s = true


theorem z_arr {s : State} {args : Array Value} {ty : FieldType} (h : (Jvm.Cond.arrayClass ty).before args s = true) : ∃ c, ArrOfT s c ty ∧ s.vm.findClass ("[" ++ ty.toString) = some c := by
  obtain ⟨c, k, comp, h1, h2, h3⟩ := Cond.arrayClass_spec h
  exact ⟨c, fun n z => ⟨fun q h => (by cases h), k, h2, comp, h3⟩, h1⟩
theorem z_arrO {s : State} {args : Array Value} {C : String} (h : (Jvm.Cond.arrayOver (.object C)).before args s = true) : ∃ c, ArrOfT s c (.object C) ∧ va_RA s c (.object C) := by
  obtain ⟨comp, c, k, h1, -, h2, h3, h4⟩ := Cond.arrayOver_spec h
  exact ⟨c, fun n z => ⟨fun q h => (by cases h), k, h2, comp, h3⟩, k, comp, h2, h3, h1, h4⟩
theorem z_arrA {s : State} {args : Array Value} {t : FieldType} (h : (Jvm.Cond.arrayOver (.array t)).before args s = true) : ∃ c, ArrOfT s c (.array t) ∧ va_RA s c (.array t) := by
  obtain ⟨comp, c, k, h1, -, h2, h3, h4⟩ := Jvm.Stand.arrayOver_specB h
  exact ⟨c, fun n z => ⟨fun q h => (by cases h), k, h2, comp, h3⟩, h4⟩
section ZT
variable {args : Array Value} {s : State}
/-- a static row of six ints, six longs, as the Statement gives it -/
theorem z_tabI {B : Nat} {C n : String} {f : Nat → Int32} (hB : B = s.heap.size) (hl : (Jvm.Cond.laysStatic C n "[I").before args s = true) (hini : (Jvm.Cond.initialized C).before args s = true) (harr : (Jvm.Cond.arrayOf (.static C n "[I") .int).before args s = true) (hlen : (Jvm.Cond.eq (.length (.static C n "[I")) (.int 6)).before args s = true) (hel : ∀ j, j < 6 → (Jvm.Cond.eq (.elem (.static C n "[I") (.int (Int32.ofNat j))) (.int (f j))).before args s = true) : ∃ t, va_T .int t 6 (fun j => .int (f j)) (zA B) s s.heap ∧ va_Z C n "[I" (.ref t) (zA B) s s.heap := by
  have hA : ∀ a : Nat, a < s.heap.size → ¬ zA B a := fun a h q => by subst hB; exact Nat.not_le.mpr h q
  obtain ⟨t, h1, h2⟩ := va_Tof (N := 6) (f := fun j => .int (f j)) (by decide) harr (va_eqt hlen) (fun j hj => va_eqt (hel j hj)) hA
  exact ⟨t, h2, va_Zref hl hini h1 hA⟩
theorem z_tabJ {B : Nat} {C n : String} {f : Nat → Int64} (hB : B = s.heap.size) (hl : (Jvm.Cond.laysStatic C n "[J").before args s = true) (hini : (Jvm.Cond.initialized C).before args s = true) (harr : (Jvm.Cond.arrayOf (.static C n "[J") .long).before args s = true) (hlen : (Jvm.Cond.eq (.length (.static C n "[J")) (.int 6)).before args s = true) (hel : ∀ j, j < 6 → (Jvm.Cond.eq (.elem (.static C n "[J") (.int (Int32.ofNat j))) (.long (f j))).before args s = true) : ∃ t, va_T .long t 6 (fun j => .long (f j)) (zA B) s s.heap ∧ va_Z C n "[J" (.ref t) (zA B) s s.heap := by
  have hA : ∀ a : Nat, a < s.heap.size → ¬ zA B a := fun a h q => by subst hB; exact Nat.not_le.mpr h q
  obtain ⟨t, h1, h2⟩ := va_Tof (N := 6) (f := fun j => .long (f j)) (by decide) harr (va_eqt hlen) (fun j hj => va_eqtl (hel j hj)) hA
  exact ⟨t, h2, va_Zref hl hini h1 hA⟩
end ZT
theorem z_six {P : Nat → Prop} (h0 : P 0) (h1 : P 1) (h2 : P 2) (h3 : P 3) (h4 : P 4) (h5 : P 5) : ∀ j, j < 6 → P j := by
  intro j hj
  rcases (show j = 0 ∨ j = 1 ∨ j = 2 ∨ j = 3 ∨ j = 4 ∨ j = 5 by omega) with rfl | rfl | rfl | rfl | rfl | rfl <;> assumption
set_option maxHeartbeats 4000000 in
set_option maxRecDepth 100000 in
theorem z_begin {s : State} {b L : Nat} {xs : Nat → Int32} (hts : ∀ w ∈ lw_tbl, w.before #[Value.ref b] s = true) (hX : va_X b L xs s s.heap) (hbl : b < s.heap.size) (hgv : (Jvm.Cond.and given_1 narrow_1).before #[Value.ref b] s = true) : ∃ G : zE, G.1 = s.heap.size ∧ G.2.1 0 = .ref b ∧ G.2.2.2.2.1 = L ∧ G.2.2.2.2.2 = xs ∧ zK G s ∧ zX G s s.heap := by
  have hs := flat_of_before _ hgv
  have hA : ∀ a : Nat, a < s.heap.size → ¬ zA s.heap.size a := fun a h q => Nat.not_le.mpr h q
  obtain ⟨t1, t1T, t1Z⟩ := z_tabI (args := #[Value.ref b]) (f := zo1) (C := "ProphetFines") (n := "WIDER_KIND") (rfl : s.heap.size = s.heap.size) (hts _ (by decide +kernel)) (hts _ (by decide +kernel)) (hs _ (by decide +kernel)) (hs _ (by decide +kernel)) (z_six (hs _ (by decide +kernel)) (hs _ (by decide +kernel)) (hs _ (by decide +kernel)) (hs _ (by decide +kernel)) (hs _ (by decide +kernel)) (hs _ (by decide +kernel)))
  obtain ⟨t2, t2T, t2Z⟩ := z_tabJ (args := #[Value.ref b]) (f := zo2) (C := "ProphetFines") (n := "SETS_WITH") (rfl : s.heap.size = s.heap.size) (hts _ (by decide +kernel)) (hts _ (by decide +kernel)) (hs _ (by decide +kernel)) (hs _ (by decide +kernel)) (z_six (hs _ (by decide +kernel)) (hs _ (by decide +kernel)) (hs _ (by decide +kernel)) (hs _ (by decide +kernel)) (hs _ (by decide +kernel)) (hs _ (by decide +kernel)))
  obtain ⟨t3, t3T, t3Z⟩ := z_tabI (args := #[Value.ref b]) (f := zo3) (C := "ProphetFines$Asked") (n := "SIZE_BODIES") (rfl : s.heap.size = s.heap.size) (hts _ (by decide +kernel)) (hts _ (by decide +kernel)) (hs _ (by decide +kernel)) (hs _ (by decide +kernel)) (z_six (hs _ (by decide +kernel)) (hs _ (by decide +kernel)) (hs _ (by decide +kernel)) (hs _ (by decide +kernel)) (hs _ (by decide +kernel)) (hs _ (by decide +kernel)))
  obtain ⟨t4, t4T, t4Z⟩ := z_tabI (args := #[Value.ref b]) (f := zo4) (C := "ProphetFines$Asked") (n := "MARK_BODIES") (rfl : s.heap.size = s.heap.size) (hts _ (by decide +kernel)) (hts _ (by decide +kernel)) (hs _ (by decide +kernel)) (hs _ (by decide +kernel)) (z_six (hs _ (by decide +kernel)) (hs _ (by decide +kernel)) (hs _ (by decide +kernel)) (hs _ (by decide +kernel)) (hs _ (by decide +kernel)) (hs _ (by decide +kernel)))
  have hcs : va_Z "java/lang/String" "COMPACT_STRINGS" "Z" (.int 1) (zA s.heap.size) s s.heap := va_Zof (hts _ (by decide +kernel)) (hts _ (by decide +kernel)) (va_eqi (hs _ (by decide +kernel))) hA
  have hsi : va_Zq "jdk/internal/util/Preconditions" "SIOOBE_FORMATTER" "Ljava/util/function/BiFunction;" (zA s.heap.size) s s.heap := va_Zqof (hts _ (by decide +kernel)) (hts _ (by decide +kernel)) (hs _ (by decide +kernel)) hA
  obtain ⟨o7, h7Z, h7⟩ : ∃ o7 : Value, va_Z "jdk/internal/util/Preconditions" "SIOOBE_FORMATTER" "Ljava/util/function/BiFunction;" o7 (zA s.heap.size) s s.heap ∧ (o7 = .null ∨ ∃ t, o7 = .ref t) := by
    rcases hsi with h | ⟨t, h⟩
    · exact ⟨_, h, Or.inl rfl⟩
    · exact ⟨_, h, Or.inr ⟨t, rfl⟩⟩
  obtain ⟨adK, adV, hSt, hev⟩ := vk_Sof (s := s) (args := #[Value.ref b]) (N := 1) (tm := fun _ => .string "ProphetFines$Tape" 79) (len := [6]) (byt := [[46, 119, 108, 97, 111, 105]]) (A := zA s.heap.size) (by decide) (fun _ _ => hs _ (by decide +kernel)) (fun _ _ => hs _ (by decide +kernel)) (fun _ _ => hs _ (by decide +kernel)) (fun i hi => by
      rw [show i = 0 by omega]
      exact hs _ (by decide +kernel)) (fun i hi => by
      rw [show i = 0 by omega]
      exact z_six (hs _ (by decide +kernel)) (hs _ (by decide +kernel)) (hs _ (by decide +kernel)) (hs _ (by decide +kernel)) (hs _ (by decide +kernel)) (hs _ (by decide +kernel))) (fun i j hi hj hn => absurd (by omega) hn) hA
  obtain ⟨s1, s2, s3, s4⟩ := hSt.1 0 (by decide)
  obtain ⟨c0, iS0, hKn0⟩ := u_known (C := RX0) (T := TX0) (N := 3) (n := 3) hts zcw_0 (hts (.instantiable RX0 3) (by decide +kernel))
  obtain ⟨c1, iS1, hKn1⟩ := u_known (C := RX1) (T := TX1) (N := 4) (n := 4) hts zcw_1 (hts (.instantiable RX1 4) (by decide +kernel))
  obtain ⟨c2, iS2, hKn2⟩ := u_known (C := RX2) (T := TX2) (N := 11) (n := 11) hts zcw_2 (hts (.instantiable RX2 11) (by decide +kernel))
  obtain ⟨c3, iS3, hKn3⟩ := u_known (C := RX3) (T := TX3) (N := 5) (n := 5) hts zcw_3 (hts (.instantiable RX3 5) (by decide +kernel))
  obtain ⟨c4, iS4, hKn4⟩ := u_known (C := RX4) (T := TX4) (N := 14) (n := 14) hts zcw_4 (hts (.instantiable RX4 14) (by decide +kernel))
  obtain ⟨c5, iS5, hKn5⟩ := u_known (C := RX5) (T := TX5) (N := 3) (n := 3) hts zcw_5 (hts (.instantiable RX5 3) (by decide +kernel))
  obtain ⟨c6, iS6, hKn6⟩ := u_known (C := RX6) (T := TX6) (N := 5) (n := 5) hts zcw_6 (hts (.instantiable RX6 5) (by decide +kernel))
  obtain ⟨c7, iS7, hKn7⟩ := u_known (C := RX7) (T := TX7) (N := 10) (n := 10) hts zcw_7 (hts (.instantiable RX7 10) (by decide +kernel))
  obtain ⟨c8, iS8, hKn8⟩ := u_known (C := RX8) (T := TX8) (N := 26) (n := 26) hts zcw_8 (hts (.instantiable RX8 26) (by decide +kernel))
  obtain ⟨aI, aI1, aI2⟩ := z_arr (hts (.arrayClass .int) (by decide +kernel))
  obtain ⟨aJ, aJ1, aJ2⟩ := z_arr (hts (.arrayClass .long) (by decide +kernel))
  have hO := hts (.arrayOver (.object "ProphetFines$Republic")) (by decide +kernel)
  have hAA := hts (.arrayOver (.array .int)) (by decide +kernel)
  obtain ⟨aO, aO1, aO2⟩ := z_arrO hO
  obtain ⟨aA, aA1, aA2⟩ := z_arrA hAA
  refine ⟨(s.heap.size, (fun a => match a with | 0 => .ref b | 1 => .ref t1 | 2 => .ref t2 | 3 => .ref t3 | 4 => .ref t4 | 5 => .ref (adK 0) | 6 => .ref (adV 0) | _ => o7), (fun t => match t with | 0 => aI | 1 => aJ | 2 => aO | _ => aA), ((fun k => match k with | 0 => c0 | 1 => c1 | 2 => c2 | 3 => c3 | 4 => c4 | 5 => c5 | 6 => c6 | 7 => c7 | _ => c8), (fun k => match k with | 0 => iS0 | 1 => iS1 | 2 => iS2 | 3 => iS3 | 4 => iS4 | 5 => iS5 | 6 => iS6 | 7 => iS7 | _ => iS8)), L, xs), rfl, rfl, rfl, rfl, ?_, ?_⟩
  · refine ⟨⟨fun k q hq => ?_, fun k q hq => ?_⟩, fun w hw => ?_, hO, hAA⟩
    · match k, hq with
      | 0, hq => cases hq; exact hKn0
      | 1, hq => cases hq; exact hKn1
      | 2, hq => cases hq; exact hKn2
      | 3, hq => cases hq; exact hKn3
      | 4, hq => cases hq; exact hKn4
      | 5, hq => cases hq; exact hKn5
      | 6, hq => cases hq; exact hKn6
      | 7, hq => cases hq; exact hKn7
      | 8, hq => cases hq; exact hKn8
      | k + 9, hq => simp [vwCl] at hq
    · match k, hq with
      | 0, hq => cases hq; exact ⟨aI1, aI2⟩
      | 1, hq => cases hq; exact ⟨aJ1, aJ2⟩
      | 2, hq => cases hq; exact ⟨aO1, aO2⟩
      | 3, hq => cases hq; exact ⟨aA1, aA2⟩
      | k + 4, hq => simp [zty] at hq
    · rcases zNW_form w hw with ⟨a, i, b, n, d, q, rfl⟩ | ⟨a, i, x, q, rfl⟩
      · exact va_Nw.of rfl (hts _ (zNW_in _ hw))
      · exact va_Nw.of rfl (hts _ (zNW_in _ hw))
  · obtain ⟨scr, g1, g2, g3, g4, g5⟩ := hX
    refine ⟨⟨b, rfl, scr, g1, g2, g3, Nat.le_of_eq g4.symm, by rw [g4], g5, hA b hbl⟩, ⟨t1, rfl, t1T, t1Z⟩, ⟨t2, rfl, t2T, t2Z⟩, ⟨t3, rfl, t3T, t3Z⟩, ⟨t4, rfl, t4T, t4Z⟩, ⟨adK 0, adV 0, rfl, rfl, s1, s2, s3, ?_, vk_R.of (hts _ (by decide +kernel)) (hev 0 (by decide))⟩, hcs, h7Z, h7⟩
    exact s4
set_option maxHeartbeats 4000000 in
/-- the law's run on the small machine is enough -/
theorem z_whole {p : Program} {e : Env} {s : State} {m : MethodId} {below : List Frame} {meth : Method} {c : Code} (l : Launch) {b L : Nat} {xs : Nat → Int32} (C0 : lw_At p s m meth c b L xs) {d : Nat} (hd : d ≤ 1000) (hR : zR d 226 0 (ze [.ref 0] 0) [] (0, 0, zold L xs) (fun v h' => v = some (.int 1) ∧ h'.1 ≤ 600000 ∧ h'.2.1 ≤ 7302250)) : W p l e room_1 s m #[Value.ref b] below meth c s.heap [] 0 0 (lw_Z below #[Value.ref b] s) (entryFrame m ([Value.ref b] : List Value).toArray 4) := by
  obtain ⟨hx, hb, hr, hml, hown, hts, hX, hbl, hlocks, hgv⟩ := C0
  obtain ⟨G, gB, g0, gL, gx, hK, hZ⟩ := z_begin hts hX hbl hgv
  obtain ⟨n, ⟨v, h'⟩, er, rfl, hc, hsl⟩ := hR
  have C : zCx G p room_1 s m #[Value.ref b] meth c d 226 := ⟨hx, hb, hml, hown, fun w hw => hts w (List.mem_filter.mp hw).1, (fun hq => absurd hq (by decide)), hK, hZ, by show d + 1 ≤ 2048; omega, by show 64 * (d + 1) ≤ 84000; omega⟩
  have hP : zP G (0, 0, zold L xs) s.heap := ⟨by rw [gB]; rfl, fun a ha => by rw [gL, gx], fun k hk => absurd hk (Nat.not_lt_zero k)⟩
  have hS : va_S (zA G.1) s.heap s.heap [] := va_S.rf
  have hlv := zLv_entry (n := 4) hZ (as := [.ref 0]) (by decide)
  have e0 : ([.ref 0] : List Value).map (ztv G) = [Value.ref b] := by
    show [zad G 0] = _
    rw [zad_old G (by decide), g0]
  rw [e0] at hlv
  rw [lg_entry_eq]
  exact z_run l G n er C hP hS hlv (Nat.zero_le _) (Nat.zero_le _) (by show h'.1 - 0 ≤ 600000; exact hc) (by show h'.2.1 - 0 ≤ 7302250; exact hsl) (fun pc2 H2 locs2 sl2 hP2 hS2 hd2 hk2 => by
    refine va_forget (fun q hq => ?_) ?_
    · have := hS2.2.2 q hq
      rw [← gB]
      exact this
    · exact W.widen (k := 600000) (n := 7302250) hc hsl (lw_ret hx hb hr hlocks hd2))
