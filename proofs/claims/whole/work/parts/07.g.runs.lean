theorem zcl_of {a a' n : Nat} {st as rest : List Value} (h : zcl a n st = some (.inr (.inl (a', as, rest)))) : a' = a ∧ st = as.reverse ++ rest ∧ as.length = n ∧ zcs rest ≤ 8 ∧ zcs as ≤ (zm a).2.2.1 := by
  unfold zcl at h
  split at h
  · rename_i hc
    simp only [Option.some.injEq, Sum.inr.injEq, Sum.inl.injEq, Prod.mk.injEq] at h
    obtain ⟨rfl, rfl, rfl⟩ := h
    refine ⟨rfl, by rw [List.reverse_reverse, List.take_append_drop], by rw [List.length_reverse, List.length_take]; omega, hc.2.1, ?_⟩
    have e : zcs (st.take n).reverse = zcs (st.take n) := by
      unfold zcs
      rw [List.map_reverse, List.sum_reverse]
    rw [e]
    exact hc.2.2
  · cases h
theorem zWd_good {w : Jvm.Cond} (h : w ∈ zWd) : (w.onTables && w.keeps) = true ∨ ∃ ty, w = .arrayClass ty := good_of_word (List.mem_filter.mp h).2
theorem zws_good {a : Nat} (ha : a < 226) : GoodIn zWd (zws a) := by
  intro w hw
  rcases List.mem_cons.mp hw with rfl | hw
  · exact ⟨(zmo_ok ha).2.1, zWd_good (zmo_ok ha).2.1⟩
  · exact ⟨hw, zWd_good hw⟩
theorem zPc_blind {G : zE} {h : zH} {As : List Value} : FrameBlind (va_Pc As (zBx G h)) := fun a U g mk q => ⟨q.1, q.2.1, zK.same (u := U) (U := U.calling g mk a) rfl q.2.2.1, zX.same (u := U) (U := U.calling g mk a) rfl q.2.2.2⟩
theorem zmo_plain {a : Nat} (ha : a < 226) (h1 : a ≠ 218) (h2 : a ≠ 219) : plainName (zm a).1.cls = true := by
  rcases (zmo_ok ha).1 with h | h | h
  · exact h
  · exact absurd h h1
  · exact absurd h h2
theorem z_head {st as rest r0 : List Value} {n : Nat} {b0 : Value} (hst : st = as.reverse ++ rest) (hn : as.length = n + 1) (hdr : st.drop n = b0 :: r0) : ∃ as', as = b0 :: as' := by
  cases as with
  | nil => simp at hn
  | cons x as' =>
    refine ⟨as', ?_⟩
    have hl : as'.reverse.length = n := by simpa using hn
    rw [hst, List.reverse_cons, List.append_assoc, ← hl, List.drop_left] at hdr
    cases hdr
    rfl
theorem z_init_ret {a : Nat} (ha : a < 226) (h : (zm a).1.name = "<init>") : (zm a).2.2.2.1 = none := by
  have := (by decide +kernel : ∀ a, a < 226 → (zm a).1.name = "<init>" → (zm a).2.2.2.1 = none)
  exact this a ha h
section ZS
variable {p : Program} {l : Launch} {e : Env} {R : Room} {s : State} {m : MethodId} {args : Array Value} {below : List Frame} {meth : Method} {c : Code} {H : Heap} {locs : List Loc} {cells slots : Nat} {Q : State → Prop}
variable {G : zE} {d k pc n : Nat} {sl : Array Slot} {ls : zL} {st : List Value} {h : zH}
theorem z_call {o : zO} (C : zCx G p R s m args meth c (d + 1) k) (hf : zf k pc = some o) {a : Nat} {as rest : List Value} (hz : zx o k pc ls st h = some (.inr (.inl (a, as, rest)))) (IH : zRun l G n) {w : Option Value} {h1 : zH} (hr : zrun n d a 0 (ze as 0) [] h = some (w, h1)) (hP : zP G h H) (hS : va_S (zA G.1) s.heap H locs) (hl : zLv G sl (zm k).2.2.1 ls) (hcells : cells + (h1.1 - h.1) ≤ R.cells) (hslots : slots + (h1.2.1 - h.2.1) ≤ R.slots) (kk : ∀ (H1 : Heap) (locs1 : List Loc), zP G h1 H1 → va_S (zA G.1) s.heap H1 locs1 → W p l e R s m args below meth c H1 locs1 (cells + (h1.1 - h.1)) (slots + (h1.2.1 - h.2.1)) Q (F0 m (pc + 3) sl ((w.toList ++ rest).map (ztv G)))) : W p l e R s m args below meth c H locs cells slots Q (F0 m pc sl (st.map (ztv G))) := by
  obtain ⟨hx, hb, hml, hown, hts, hnm, hK, hX, hfr, hlo⟩ := C
  have hok := zf_ok hf
  obtain ⟨i, len, a0, b, iv⟩ := o
  simp only [zok, Bool.and_eq_true, Bool.or_eq_true, decide_eq_true_eq] at hok
  obtain ⟨⟨hd, hlen⟩, hlk⟩ := hok
  have hml' : (zm k).2.2.1 = sl.size := hl.1.symm
  have fin : ∀ (hrun : va_Run p l e R s m args below meth c H locs cells slots (h1.1 - h.1) (h1.2.1 - h.2.1) (F0 m pc sl (st.map (ztv G))) (rest.map (ztv G)) (zQc G w h1 (as.map (ztv G)).toArray) (zA G.1)), W p l e R s m args below meth c H locs cells slots Q (F0 m pc sl (st.map (ztv G))) := fun hrun =>
    y_after (v := w.map (ztv G)) hrun hS (fun st₀ t w' _ hq => ⟨by have := hq.1; cases this; rfl, hq.2⟩) (fun H1 locs1 g1 g2 => by
      have := kk H1 locs1 g1 g2
      rw [List.map_append] at this
      cases w <;> exact this)
  have hU : ∀ U : State, U.heap = H → s.WarmedH U.vm → zBx G h U := fun U hU hW => ⟨by rw [hU]; exact hP, zK.warm hW hK, by rw [hU]; exact zX.warm hW (hX.kept hS.2.1)⟩
  cases i with
  | invokestatic q =>
    have hlen : len = 3 := by simpa [zln] using hlen
    subst hlen
    simp only [zx] at hz
    simp only [zokl] at hlk
    by_cases c1 : a0 = 1001
    · rw [if_pos c1] at hz
      exfalso
      repeat' split at hz
      all_goals cases hz
    rw [if_neg c1] at hz hlk
    by_cases c2 : a0 = 218
    · rw [if_pos c2] at hz
      exfalso
      repeat' split at hz
      all_goals cases hz
    rw [if_neg c2] at hz
    by_cases c3 : a0 = 219
    · rw [if_pos c3] at hz
      exfalso
      repeat' split at hz
      all_goals cases hz
    rw [if_neg c3] at hz
    by_cases c4 : a0 < 226
    · rw [if_pos c4] at hz
      rw [if_neg (by omega)] at hlk
      obtain ⟨rfl, hst, hn, hcs, hwd⟩ := zcl_of hz
      have M := zmo_ok c4
      have hM := z_met IH c4 (zmo_plain c4 c2 c3) hwd hr
      simp only [Bool.and_eq_true] at hlk
      have hR : (zrm d (h1.1 - h.1) (h1.2.1 - h.2.1)).frames + 1 ≤ R.frames ∧ 8 + ((zm a).2.2.1 + 11) + (zrm d (h1.1 - h.1) (h1.2.1 - h.2.1)).locals ≤ R.locals := by
        have := M.2.2.2.2.1
        show d + 1 + 1 ≤ R.frames ∧ 8 + ((zm a).2.2.1 + 11) + 64 * (d + 1) ≤ R.locals
        omega
      have hp : PreS s H (va_Pc (as.map (ztv G)) (zBx G h)) (as.map (ztv G)) := ⟨zPc_blind, fun U hh hW => ⟨rfl, hU U hh hW⟩⟩
      have hstk : (F0 m pc sl (st.map (ztv G))).stack = (as.map (ztv G)).reverse ++ rest.map (ztv G) := by
        show st.map (ztv G) = _
        rw [hst, List.map_append, List.map_reverse]
      have hW8 : 2 * (F0 m pc sl (st.map (ztv G))).monitorRoom + ((rest.map (ztv G)).map fun v => v.category).sum ≤ 8 := by
        rw [zcs_tv hX]
        show 2 * 0 + _ ≤ 8
        omega
      by_cases hb0 : b = 0
      · rw [if_pos hb0] at hlk
        exact fin (va_runS ⟨hx, hb, hml, hown, hts⟩ hM ⟨callB_of (zm a).2.2.2.2.1 hts (zws_good c4) rfl rfl rfl (hts _ M.2.2.1) (hts _ (zlk_w (of_decide_eq_true hlk.2))) M.2.2.2.1 hR, hts _ (M.2.2.2.2.2.1 hlk.1)⟩ hp rfl (by rw [List.length_map]; exact hn) hml'.symm hstk hW8 hd ⟨hcells, hslots⟩)
      · rw [if_neg hb0] at hlk
        exact fin (va_runSN ⟨hx, hb, hml, hown, hts⟩ hM ⟨va_cnB (zm a).2.2.2.2.1 hts (zws_good c4) rfl rfl rfl (hK.2.1 _ (of_decide_eq_true hlk.2)) (hts _ M.2.2.1) M.2.2.2.1 hR, hts _ (M.2.2.2.2.2.1 hlk.1), trivial⟩ hp rfl (by rw [List.length_map]; exact hn) hml'.symm hstk hW8 hd ⟨hcells, hslots⟩)
    · rw [if_neg c4] at hz
      cases hz
  | invokespecial q =>
    have hlen : len = 3 := by simpa [zln] using hlen
    subst hlen
    simp only [zx] at hz
    simp only [zokl] at hlk
    by_cases c1 : a0 = 1000
    · rw [if_pos c1] at hz
      exfalso
      repeat' split at hz
      all_goals cases hz
    rw [if_neg c1] at hz hlk
    by_cases c4 : a0 < 226
    · rw [if_pos c4] at hz
      split at hz
      · rename_i b0 r0 hdr
        split at hz
        · cases hz
        · rename_i hb7
          obtain ⟨rfl, hst, hn, hcs, hwd⟩ := zcl_of hz
          have M := zmo_ok c4
          simp only [Bool.and_eq_true, Bool.not_eq_true'] at hlk
          have hst0 : zstat.contains a = false := hlk.1.2
          have hM := z_met IH c4 (zmo_plain c4 (fun q => by subst q; cases hst0) (fun q => by subst q; cases hst0)) hwd hr
          have hR : (zrm d (h1.1 - h.1) (h1.2.1 - h.2.1)).frames + 1 ≤ R.frames ∧ 8 + ((zm a).2.2.1 + 11) + (zrm d (h1.1 - h.1) (h1.2.1 - h.2.1)).locals ≤ R.locals := by
            have := M.2.2.2.2.1
            show d + 1 + 1 ≤ R.frames ∧ 8 + ((zm a).2.2.1 + 11) + 64 * (d + 1) ≤ R.locals
            omega
          have hb7' : b0 ≠ 7 := fun q => by subst q; exact hb7 rfl
          obtain ⟨t, et⟩ := zad_form hX hb7'
          obtain ⟨as', rfl⟩ : ∃ as', as = .ref b0 :: as' := z_head hst hn hdr
          have hn' : as'.length = (zm a).2.2.2.2.1 := by simpa using hn
          have ea : (Value.ref b0 :: as').map (ztv G) = .ref t :: as'.map (ztv G) := by rw [List.map_cons, ztv_ref, et]
          rw [ea] at hM fin
          have hp : PreS s H (va_Pc (.ref t :: as'.map (ztv G)) (zBx G h)) (.ref t :: as'.map (ztv G)) := ⟨zPc_blind, fun U hh hW => ⟨rfl, hU U hh hW⟩⟩
          have hstk : (F0 m pc sl (st.map (ztv G))).stack = (as'.map (ztv G)).reverse ++ .ref t :: rest.map (ztv G) := by
            show st.map (ztv G) = _
            rw [hst, List.reverse_cons, List.append_assoc, List.map_append, List.map_reverse, List.map_append, List.map_cons, List.map_nil, ztv_ref, et]
            rfl
          have hW8 : 2 * (F0 m pc sl (st.map (ztv G))).monitorRoom + ((rest.map (ztv G)).map fun v => v.category).sum ≤ 8 := by
            rw [zcs_tv hX]
            show 2 * 0 + _ ≤ 8
            omega
          have hret : (zm a).2.2.2.1 = none := z_init_ret c4 (of_decide_eq_true hlk.1.1)
          by_cases hb0 : b = 0
          · rw [if_pos hb0] at hlk
            exact fin (va_runI (maxL := (zm a).2.2.1) (bytes := (zm a).2.1) ⟨hx, hb, hml, hown, hts⟩ hM ⟨callB_of (zm a).2.2.2.2.1 hts (zws_good c4) (by rw [← hret]; rfl) rfl rfl (hts _ M.2.2.1) (hts _ (zlk_w (of_decide_eq_true hlk.2))) M.2.2.2.1 hR, of_decide_eq_true hlk.1.1, hts _ (M.2.2.2.2.2.2.1 hst0)⟩ hp rfl (by rw [List.length_map]; exact hn') hml'.symm hstk hW8 hd ⟨hcells, hslots⟩)
          · rw [if_neg hb0] at hlk
            exact fin (va_runIN (maxL := (zm a).2.2.1) (bytes := (zm a).2.1) ⟨hx, hb, hml, hown, hts⟩ hM ⟨va_cnB (zm a).2.2.2.2.1 hts (zws_good c4) (by rw [← hret]; rfl) rfl rfl (hK.2.1 _ (of_decide_eq_true hlk.2)) (hts _ M.2.2.1) M.2.2.2.1 hR, of_decide_eq_true hlk.1.1, hts _ (M.2.2.2.2.2.2.1 hst0)⟩ hp rfl (by rw [List.length_map]; exact hn') hml'.symm hstk hW8 hd ⟨hcells, hslots⟩)
      · cases hz
    · rw [if_neg c4] at hz
      cases hz
  | invokevirtual q =>
    have hlen : len = 3 := by simpa [zln] using hlen
    subst hlen
    simp only [zx] at hz
    simp only [zokl] at hlk
    by_cases c4 : a0 < 226
    · rw [if_pos c4] at hz
      rw [if_neg (by omega)] at hlk
      split at hz
      · rename_i v0 r0 hdr
        split at hz
        · rename_i hrc
          obtain ⟨rfl, hst, hn, hcs, hwd⟩ := zcl_of hz
          have M := zmo_ok c4
          simp only [Bool.and_eq_true, Bool.not_eq_true', decide_eq_true_eq] at hlk
          obtain ⟨⟨⟨⟨hni, hst0⟩, hc9⟩, rfl⟩, hli⟩ := hlk
          have hM := z_met IH c4 (zmo_plain c4 (fun q => by subst q; cases hst0) (fun q => by subst q; cases hst0)) hwd hr
          have hR : (zrm d (h1.1 - h.1) (h1.2.1 - h.2.1)).frames + 1 ≤ R.frames ∧ 8 + ((zm a).2.2.1 + 11) + (zrm d (h1.1 - h.1) (h1.2.1 - h.2.1)).locals ≤ R.locals := by
            have := M.2.2.2.2.1
            show d + 1 + 1 ≤ R.frames ∧ 8 + ((zm a).2.2.1 + 11) + 64 * (d + 1) ≤ R.locals
            omega
          obtain ⟨t, b0, rfl, et, hcell⟩ : ∃ t b0, v0 = .ref b0 ∧ zad G b0 = .ref t ∧ ∃ cellB : Cell, H[t]? = some cellB ∧ cellB.vm.isStatics = false ∧ s.vm.findClass (zm a).1.cls = some cellB.cls := by
            cases v0 with
            | ref b0 =>
              simp only [zrc] at hrc
              by_cases c9 : (zm a).2.2.2.2.2 = 9
              · rw [c9] at hrc
                have hb5 : b0 = 5 := Nat.eq_of_beq_eq_true hrc
                subst hb5
                obtain ⟨-, -, -, -, -, ⟨t5, u5, a5, b5, c5, d5, e5, f5, g5⟩, -⟩ := hX
                refine ⟨t5, 5, rfl, (zad_old G (by omega)).trans a5, ?_⟩
                obtain ⟨cell, k1, k2, k3, -⟩ := c5.kept hS.2.1
                exact ⟨cell, k1, k2, by rw [M.2.2.2.2.2.2.2.2.2 c9]; exact k3⟩
              · rw [if_neg (by simpa using c9)] at hrc
                simp only [Bool.and_eq_true] at hrc
                obtain ⟨fs, ec, -⟩ := zkO_of hrc.2
                have h8 : (zm a).2.2.2.2.2 < 9 := by omega
                obtain ⟨T, N, ty, k1, -⟩ := zcl_ok h8
                have hP1 := hP.sing hrc.1
                rw [ec] at hP1
                refine ⟨_, b0, rfl, zad_of_new hP hrc.1, ?_⟩
                have := va_recv hK.1 hP1 (ci := (zm a).2.2.2.2.2) (q0 := 0) k1 rfl
                rw [M.2.2.2.2.2.2.2.2.1 h8] at this
                exact this
            | _ => cases hrc
          obtain ⟨as', rfl⟩ : ∃ as', as = .ref b0 :: as' := z_head hst hn hdr
          have hn' : as'.length = (zm a).2.2.2.2.1 := by simpa using hn
          have ea : (Value.ref b0 :: as').map (ztv G) = .ref t :: as'.map (ztv G) := by rw [List.map_cons, ztv_ref, et]
          rw [ea] at hM fin
          have hp : PreV s H (zm a).1.cls t (va_Pc (.ref t :: as'.map (ztv G)) (zBx G h)) (as'.map (ztv G)) := ⟨zPc_blind, hcell, fun U hh hW => ⟨rfl, hU U hh hW⟩⟩
          have hstk : (F0 m pc sl (st.map (ztv G))).stack = (as'.map (ztv G)).reverse ++ .ref t :: rest.map (ztv G) := by
            show st.map (ztv G) = _
            rw [hst, List.reverse_cons, List.append_assoc, List.map_append, List.map_reverse, List.map_append, List.map_cons, List.map_nil, ztv_ref, et]
            rfl
          have hW8 : 2 * (F0 m pc sl (st.map (ztv G))).monitorRoom + ((rest.map (ztv G)).map fun v => v.category).sum ≤ 8 := by
            rw [zcs_tv hX]
            show 2 * 0 + _ ≤ 8
            omega
          exact fin (va_runV ⟨hx, hb, hml, hown, hts⟩ hM ⟨callB_of (zm a).2.2.2.2.1 hts (zws_good c4) rfl rfl rfl (hts _ M.2.2.1) (hts _ (zlk_w hli)) M.2.2.2.1 hR, hts _ (M.2.2.2.2.2.2.1 hst0), hts _ (M.2.2.2.2.2.2.2.1 hst0 hni)⟩ hp rfl (by rw [List.length_map]; exact hn') hml'.symm hstk hW8 hd ⟨hcells, hslots⟩)
        · cases hz
      · cases hz
    · rw [if_neg c4] at hz
      cases hz
  | newarray ty =>
    exfalso
    cases ty <;> simp only [zx, reduceCtorEq] at hz <;> (try (repeat' split at hz)) <;> simp only [Option.some.injEq, Sum.inr.injEq, reduceCtorEq] at hz
  | _ =>
    exfalso
    simp only [zx, zb, zbl, zbs, zun, reduceCtorEq] at hz <;> (try (repeat' split at hz)) <;> simp only [Option.some.injEq, Sum.inr.injEq, reduceCtorEq] at hz
end ZS
theorem z_run (l : Launch) (G : zE) : ∀ n, zRun l G n := by
  intro n
  induction n with
  | zero => intro d k pc ls st h v h' e; cases e
  | succ n IH =>
    intro d k pc ls st h v h' er p e R s m args below meth c H locs sl c0 s0 Q C hP hS hl hc0 hs0 hRc hRs hret
    rw [zrun] at er
    cases hf : zf k pc with
    | none => rw [hf] at er; cases er
    | some o =>
      rw [hf] at er
      dsimp only at er
      cases hx : zx o k pc ls st h with
      | none => rw [hx] at er; cases er
      | some w =>
        rw [hx] at er
        rcases w with ⟨pc', ls', st', h1⟩ | ⟨a, as, rest⟩ | v1
        · dsimp only at er
          have g1 := zx_grow hx
          have g2 := zrun_grow n er
          refine z_next C hf hx hP hS hl (by omega) (by omega) (fun H1 locs1 sl1 k1 k2 k3 => ?_)
          have e1 : h.1 - c0 + (h1.1 - h.1) = h1.1 - c0 := by omega
          have e2 : h.2.1 - s0 + (h1.2.1 - h.2.1) = h1.2.1 - s0 := by omega
          rw [e1, e2]
          exact IH er C k1 k2 k3 (by omega) (by omega) hRc hRs hret
        · cases d with
          | zero => cases er
          | succ d =>
            dsimp only at er
            cases hc : zrun n d a 0 (ze as 0) [] h with
            | none => rw [hc] at er; cases er
            | some u =>
              obtain ⟨w, h1⟩ := u
              rw [hc] at er
              dsimp only at er
              have g1 := zrun_grow n hc
              have g2 := zrun_grow n er
              refine z_call C hf hx IH hc hP hS hl (by omega) (by omega) (fun H1 locs1 k1 k2 => ?_)
              have e1 : h.1 - c0 + (h1.1 - h.1) = h1.1 - c0 := by omega
              have e2 : h.2.1 - s0 + (h1.2.1 - h.2.1) = h1.2.1 - s0 := by omega
              rw [e1, e2]
              exact IH er C k1 k2 hl (by omega) (by omega) hRc hRs hret
        · cases er
          obtain ⟨i, len, a, b, iv⟩ := o
          have hok := zf_ok hf
          simp only [zok, Bool.and_eq_true, Bool.or_eq_true, decide_eq_true_eq] at hok
          obtain ⟨⟨hd, hlen⟩, -⟩ := hok
          obtain ⟨rfl, rfl, hk, h1⟩ := zx_ret hx
          have hlen : len = 1 := by
            rcases hlen with q | q
            · rw [h1] at q; cases q
            · exact q.trans h1
          subst hlen
          exact hret pc H locs sl hP hS hd hk
