/-! a method's entry; the calls' steps -/
theorem mm_lg_len (v : Value) (vs : List Value) : (lg_sl (v :: vs)).length = (if v.category = 2 then 2 else 1) + (lg_sl vs).length := by
  unfold lg_sl
  rw [List.flatMap_cons, List.length_append]
  by_cases h : v.category = 2
  · rw [if_pos h, if_pos h]; rfl
  · rw [if_neg h, if_neg h]; rfl
def mm_slP (ad : Nat → Nat) (lg : List Nat) (i : Nat) (As l : List Value) : Prop := l.length = (lg_sl (As.map (mm_tv ad))).length ∧ (∀ (j : Nat) (v : Value), l[j]? = some v → mm_un v = false → (i + j, mm_tv ad v) ∈ lv_args i (As.map (mm_tv ad))) ∧ (∀ (j : Nat) (x : Int64), l[j]? = some (.long x) → lg.contains (i + j) = true) ∧ ∀ n, mm_so n As → ∀ (j : Nat) (v : Value), l[j]? = some v → mm_vo n v
theorem mm_sl1 {ad : Nat → Nat} {lg : List Nat} {i : Nat} {v : Value} {As l : List Value} (hc : ¬ (mm_tv ad v).category = 2) (hl : ∀ x, ¬ v = .long x) (h : mm_slP ad lg (i + 1) As l) : mm_slP ad lg i (v :: As) (v :: l) := by
  obtain ⟨h1, h2, h3, h4⟩ := h
  refine ⟨?_, ?_, ?_, ?_⟩
  · rw [List.map_cons, mm_lg_len, if_neg hc, List.length_cons, h1]; omega
  · intro j w hj hu
    rw [List.map_cons]
    unfold lv_args
    rw [if_neg hc]
    cases j with
    | zero => cases hj; exact List.mem_cons_self
    | succ j =>
      have := h2 j w hj hu
      rw [show i + (j + 1) = i + 1 + j by omega]
      exact List.mem_cons_of_mem _ this
  · intro j x hj
    cases j with
    | zero => exact absurd (Option.some.inj hj) (hl x)
    | succ j => rw [show i + (j + 1) = i + 1 + j by omega]; exact h3 j x hj
  · intro n hn j w hj
    cases j with
    | zero => cases hj; exact hn.1
    | succ j => exact h4 n hn.2 j w hj
theorem mm_sl_spec (ad : Nat → Nat) (lg : List Nat) : ∀ (As : List Value) (i : Nat) (l : List Value), mm_sl lg i As = some l → mm_slP ad lg i As l
  | [], i, l, h => by
    cases h
    exact ⟨rfl, fun j v hj => by simp at hj, fun j v hj => by simp at hj, fun _ _ j v hj => by simp at hj⟩
  | .int x :: As, i, l, h => by
    simp only [mm_sl, Option.map_eq_some_iff] at h
    obtain ⟨l', h1, rfl⟩ := h
    exact mm_sl1 (by show ¬ (1 = 2); decide) (fun _ q => by cases q) (mm_sl_spec ad lg As (i + 1) l' h1)
  | .ref x :: As, i, l, h => by
    simp only [mm_sl, Option.map_eq_some_iff] at h
    obtain ⟨l', h1, rfl⟩ := h
    exact mm_sl1 (by show ¬ (1 = 2); decide) (fun _ q => by cases q) (mm_sl_spec ad lg As (i + 1) l' h1)
  | .null :: As, i, l, h => by
    simp only [mm_sl, Option.map_eq_some_iff] at h
    obtain ⟨l', h1, rfl⟩ := h
    exact mm_sl1 (by show ¬ (1 = 2); decide) (fun _ q => by cases q) (mm_sl_spec ad lg As (i + 1) l' h1)
  | .float x :: As, i, l, h => by cases h
  | .double x :: As, i, l, h => by cases h
  | .retAddr x :: As, i, l, h => by cases h
  | .long x :: As, i, l, h => by
    simp only [mm_sl] at h
    by_cases hg : lg.contains i = true
    · rw [if_pos hg] at h
      simp only [Option.map_eq_some_iff] at h
      obtain ⟨l', h1, rfl⟩ := h
      obtain ⟨g1, g2, g3, g4⟩ := mm_sl_spec ad lg As (i + 2) l' h1
      have hc : (mm_tv ad (.long x)).category = 2 := rfl
      refine ⟨?_, ?_, ?_, ?_⟩
      · rw [List.map_cons, mm_lg_len, if_pos hc, List.length_cons, List.length_cons, g1]; omega
      · intro j w hj hu
        rw [List.map_cons]
        unfold lv_args
        rw [if_pos hc]
        match j, hj with
        | 0, hj => cases hj; exact List.mem_cons_self
        | 1, hj => cases hj; cases hu
        | j + 2, hj =>
          have := g2 j w hj hu
          rw [show i + (j + 2) = i + 2 + j by omega]
          exact List.mem_cons_of_mem _ this
      · intro j y hj
        match j, hj with
        | 0, hj => exact hg
        | 1, hj => cases hj
        | j + 2, hj => rw [show i + (j + 2) = i + 2 + j by omega]; exact g3 j y hj
      · intro n hn j w hj
        match j, hj with
        | 0, hj => cases hj; trivial
        | 1, hj => cases hj; trivial
        | j + 2, hj => exact g4 n hn.2 j w hj
    · rw [if_neg hg] at h; cases h
theorem mm_in_rel {C : mm_M} {ad : Nat → Nat} {n : Nat} {As l : List Value} (h : mm_in C As = some l) (hs : mm_so n As) : mm_relL C ad n ((lg_sl (As.map (mm_tv ad)) ++ List.replicate (C.2.2.2.1 - (lg_sl (As.map (mm_tv ad))).length) Slot.unset).toArray) l := by
  unfold mm_in at h
  split at h
  · rename_i l0 h0
    split at h
    · rename_i hle
      cases h
      obtain ⟨g1, g2, g3, g4⟩ := mm_sl_spec ad _ As 0 l0 h0
      have hv := lv_entry (As.map (mm_tv ad)) (n := C.2.2.2.1) (by rw [← g1]; exact hle)
      have hin : ∀ (j : Nat) (v : Value), (l0 ++ List.replicate (C.2.2.2.1 - l0.length) uu)[j]? = some v → l0[j]? = some v ∨ v = uu := by
        intro j v hj
        by_cases hl : j < l0.length
        · rw [List.getElem?_append_left hl] at hj; exact Or.inl hj
        · rw [List.getElem?_append_right (by omega)] at hj
          exact Or.inr (List.eq_of_mem_replicate (List.mem_of_getElem? hj))
      refine ⟨by rw [List.length_append, List.length_replicate]; omega, ⟨hv.1, hv.2.1⟩, ?_, ?_, ?_⟩
      · intro j v hj hu
        rcases hin j v hj with hj | rfl
        · have := g2 j v hj hu
          rw [Nat.zero_add] at this
          exact hv.2.2 _ this
        · cases hu
      · intro j x hj
        rcases hin j _ hj with hj | hj
        · have := g3 j x hj
          rw [Nat.zero_add] at this
          exact this
        · cases hj
      · intro j v hj
        rcases hin j v hj with hj | rfl
        · exact g4 n hs j v hj
        · trivial
    · cases h
  · cases h
section MP
variable {p : Program} {l : Launch} {e : Env} {R : Room} {s : State} {m : MethodId} {args : Array Value} {below : List Frame} {meth : Method} {c : Code} {D : va_G} {aC : Nat → ClassId} {A : Nat → Prop} {ad0 : Nat → Nat} {n0 s0 dd : Nat} {M : mm_M} {Q : State → Prop}
variable {pc : Nat} {ls st : List Value} {H H1 : mm_H} {C : mm_M} {As st1 : List Value} {v : Option Value} {fr lo i r : Nat}
theorem mm_words (hts : ∀ w ∈ mm_gd, w.before args s = true) (w1 : Cond.code C.2.1 C.2.2.1 C.2.2.2.1 C.2.2.2.2.1 ∈ mm_gd) : ∀ w ∈ (Cond.code C.2.1 C.2.2.1 C.2.2.2.1 C.2.2.2.2.1 :: mm_gd), ∀ (a' : Array Value) (U : State), s.WarmedH U.vm → w.before a' U = true := by
  intro w hw a' U hW
  have hg : w ∈ mm_gd := by
    rcases List.mem_cons.mp hw with rfl | h
    · exact w1
    · exact h
  exact word_at hW (mm_good hg) (hts w hg)
theorem mm_npar {y : MethodName} {n : Nat} (h : (parseMethodDescriptor y.desc).map (fun d => d.parameters.length) = some n) : ∀ sig, parseMethodDescriptor y.desc = some sig → n = sig.parameters.length := by
  intro sig hs
  rw [hs] at h
  exact (Option.some.inj h).symm
theorem mm_p_cv (X : mm_cx D aC A M p R s m args meth c dd) (hd : decode M.2.2.1 pc = .ok (.invokevirtual i, 3)) (hf : mm_find (mm_lks M.1) i = some (0, C)) (hk : C.2.2.2.2.2.2.1 = 0 ∨ C.2.2.2.2.2.2.1 = 3) (hp : mm_pop C.2.2.2.2.2.1 [] st = some (As, .ref r :: st1)) (hO : mm_isO H r C.1) (hc : mm_cat st1 ≤ 8) (hM : ∀ ad sz, mm_Mt l D aC C ad (.ref r :: As) H v H1 fr lo sz) (hfr : fr + 1 ≤ R.frames) (hlo : 8 + (C.2.2.2.1 + 11) + lo ≤ R.locals) (hex : mm_ex H H1) (hRc : H1.1.1 - n0 ≤ R.cells ∧ H1.1.2.1 - s0 ≤ R.slots) (k : mm_Wp p l e R s m args below meth c D aC A ad0 n0 s0 M Q (pc + 3) ls (v.toList ++ st1) H1) : mm_Wp p l e R s m args below meth c D aC A ad0 n0 s0 M Q pc ls st H := by
  obtain ⟨hlk, hmk⟩ := mm_lk_ok hf
  obtain ⟨w1, w2, w3, w4, w5, w6, w7, ⟨w8, w9, w10⟩, w11⟩ := mm_mok_spec hmk
  have hlink : Cond.methodLink (mm_nm M.1) i C.2.1 ∈ mm_gd := by
    rcases hlk with ⟨_, q⟩ | ⟨q, _⟩
    · exact q
    · cases q
  have X0 := X
  obtain ⟨hx, hb, hml, hrt, hown, hts, hlks, hin, hK, hNs, hA, hAO, hR⟩ := X
  obtain ⟨hst, hlen⟩ := mm_pop0 hp
  subst hst
  intro ad Hp locs rl hH hL hs
  have hs2 := (mm_so_app.mp hs).2
  have g0 := hH.2.1
  have x1 := hex.1
  have x2 := hex.2.1
  have hC : C.1 < 12 := by
    have h9 := hH.2.2.2.2.2.1.2 r hO.2.2 hO.2.1
    unfold mm_co at h9
    rw [hO.1] at h9
    exact h9.1
  rw [show (As.reverse ++ .ref r :: st1).map (mm_tv ad) = (As.map (mm_tv ad)).reverse ++ .ref (ad r) :: st1.map (mm_tv ad) by rw [List.map_append, List.map_reverse]; rfl]
  have hne : ¬ C.2.2.2.2.2.2.1 = 1 := by rcases hk with q | q <;> rw [q] <;> decide
  rw [if_neg hne] at w3
  have w4' : Cond.selects (mm_nm C.1) C.2.1 C.2.1 ∈ mm_gd := w4.resolve_left (by rcases hk with q | q <;> rw [q] <;> decide)
  refine mm_callw (va_runV (C := mm_nm C.1) (bytes := C.2.2.1) (maxL := C.2.2.2.1) (ret := C.2.2.2.2.1) (n := C.2.2.2.2.2.1) (As := As.map (mm_tv ad)) (rest := st1.map (mm_tv ad)) ⟨hx, hb, hml, hown, hts⟩ (hM ad Hp.size) ⟨⟨rfl, rfl, hfr, hlo, mm_words hts w1, List.mem_cons_self, hts _ w1, by rw [w5]; exact hts _ w2, ⟨w8, w9⟩, mm_npar w10, hts _ hlink⟩, hts _ w3, hts _ w4'⟩ ⟨mm_blind, va_recv hK hH.2.2.1 (mm_cls_ok hC).1 (by rw [mm_ws_get aC ad H hO.2.2 hO.2.1, mm_ce_o hO.1]), fun U hU hW => ⟨rfl, by rw [hU], mm_ent_of X0 hH hU hW⟩⟩ rfl (by rw [List.length_map]; exact hlen) hL.2.1.1 rfl (lv_room (by rw [mm_cat_map]; exact hc)) hd ⟨by omega, by omega⟩) hH.2.2.2.2.1 (mm_free X0 hH) (fun ad' H2 locs2 q1 q2 q3 q4 q5 q6 => mm_after hH hL hs2.2 hex k q1 q2 q3 q4 q5 q6)
theorem mm_p_cs {n : Nat} (X : mm_cx D aC A M p R s m args meth c dd) (hd : decode M.2.2.1 pc = .ok (.invokestatic i, 3)) (hf : mm_find (mm_lks M.1) i = some (n, C)) (hk : C.2.2.2.2.2.2.1 = 1) (hp : mm_pop C.2.2.2.2.2.1 [] st = some (As, st1)) (hc : mm_cat st1 ≤ 8) (hM : ∀ ad sz, mm_Mt l D aC C ad As H v H1 fr lo sz) (hfr : fr + 1 ≤ R.frames) (hlo : 8 + (C.2.2.2.1 + 11) + lo ≤ R.locals) (hex : mm_ex H H1) (hRc : H1.1.1 - n0 ≤ R.cells ∧ H1.1.2.1 - s0 ≤ R.slots) (k : mm_Wp p l e R s m args below meth c D aC A ad0 n0 s0 M Q (pc + 3) ls (v.toList ++ st1) H1) : mm_Wp p l e R s m args below meth c D aC A ad0 n0 s0 M Q pc ls st H := by
  obtain ⟨hlk, hmk⟩ := mm_lk_ok hf
  obtain ⟨w1, w2, w3, w4, w5, w6, w7, ⟨w8, w9, w10⟩, w11⟩ := mm_mok_spec hmk
  have X0 := X
  obtain ⟨hx, hb, hml, hrt, hown, hts, hlks, hin, hK, hNs, hA, hAO, hR⟩ := X
  obtain ⟨hst, hlen⟩ := mm_pop0 hp
  subst hst
  intro ad Hp locs rl hH hL hs
  have hs2 := (mm_so_app.mp hs).2
  have g0 := hH.2.1
  have x1 := hex.1
  have x2 := hex.2.1
  rw [show (As.reverse ++ st1).map (mm_tv ad) = (As.map (mm_tv ad)).reverse ++ st1.map (mm_tv ad) by rw [List.map_append, List.map_reverse]]
  rw [if_pos hk] at w3
  have hpre : PreS s Hp (mm_Pc D aC ad H As Hp.size) (As.map (mm_tv ad)) := ⟨mm_blind, fun U hU hW => ⟨rfl, by rw [hU], mm_ent_of X0 hH hU hW⟩⟩
  rcases hlk with ⟨_, hlink⟩ | ⟨_, hlink⟩
  · exact mm_callw (va_runS (bytes := C.2.2.1) (maxL := C.2.2.2.1) (ret := C.2.2.2.2.1) (n := C.2.2.2.2.2.1) (As := As.map (mm_tv ad)) (rest := st1.map (mm_tv ad)) ⟨hx, hb, hml, hown, hts⟩ (hM ad Hp.size) ⟨⟨rfl, rfl, hfr, hlo, mm_words hts w1, List.mem_cons_self, hts _ w1, by rw [w5]; exact hts _ w2, ⟨w8, w9⟩, mm_npar w10, hts _ hlink⟩, hts _ w3⟩ hpre rfl (by rw [List.length_map]; exact hlen) hL.2.1.1 rfl (lv_room (by rw [mm_cat_map]; exact hc)) hd ⟨by omega, by omega⟩) hH.2.2.2.2.1 (mm_free X0 hH) (fun ad' H2 locs2 q1 q2 q3 q4 q5 q6 => mm_after hH hL hs2 hex k q1 q2 q3 q4 q5 q6)
  · exact mm_callw (va_runSN (host := "RoomsCaught") (bytes := C.2.2.1) (maxL := C.2.2.2.1) (ret := C.2.2.2.2.1) (n := C.2.2.2.2.2.1) (As := As.map (mm_tv ad)) (rest := st1.map (mm_tv ad)) ⟨hx, hb, hml, hown, hts⟩ (hM ad Hp.size) ⟨⟨⟨rfl, rfl, hfr, hlo, mm_words hts w1, List.mem_cons_self⟩, hts _ w1, by rw [w5]; exact hts _ w2, ⟨w8, w9⟩, mm_npar w10, va_Nw.use rfl (hNs _ hlink)⟩, hts _ w3, trivial⟩ hpre rfl (by rw [List.length_map]; exact hlen) hL.2.1.1 rfl (lv_room (by rw [mm_cat_map]; exact hc)) hd ⟨by omega, by omega⟩) hH.2.2.2.2.1 (mm_free X0 hH) (fun ad' H2 locs2 q1 q2 q3 q4 q5 q6 => mm_after hH hL hs2 hex k q1 q2 q3 q4 q5 q6)
theorem mm_p_ci {n : Nat} (X : mm_cx D aC A M p R s m args meth c dd) (hd : decode M.2.2.1 pc = .ok (.invokespecial i, 3)) (hf : mm_find (mm_lks M.1) i = some (n, C)) (hk : C.2.2.2.2.2.2.1 = 2) (hrn : C.2.2.2.2.1 = none) (hp : mm_pop C.2.2.2.2.2.1 [] st = some (As, .ref r :: st1)) (hc : mm_cat st1 ≤ 8) (hM : ∀ ad sz, mm_Mt l D aC C ad (.ref r :: As) H v H1 fr lo sz) (hfr : fr + 1 ≤ R.frames) (hlo : 8 + (C.2.2.2.1 + 11) + lo ≤ R.locals) (hex : mm_ex H H1) (hRc : H1.1.1 - n0 ≤ R.cells ∧ H1.1.2.1 - s0 ≤ R.slots) (k : mm_Wp p l e R s m args below meth c D aC A ad0 n0 s0 M Q (pc + 3) ls (v.toList ++ st1) H1) : mm_Wp p l e R s m args below meth c D aC A ad0 n0 s0 M Q pc ls st H := by
  obtain ⟨hlk, hmk⟩ := mm_lk_ok hf
  obtain ⟨w1, w2, w3, w4, w5, w6, w7, ⟨w8, w9, w10⟩, w11⟩ := mm_mok_spec hmk
  have X0 := X
  obtain ⟨hx, hb, hml, hrt, hown, hts, hlks, hin, hK, hNs, hA, hAO, hR⟩ := X
  obtain ⟨hst, hlen⟩ := mm_pop0 hp
  subst hst
  intro ad Hp locs rl hH hL hs
  have hs2 := (mm_so_app.mp hs).2
  have g0 := hH.2.1
  have x1 := hex.1
  have x2 := hex.2.1
  rw [show (As.reverse ++ .ref r :: st1).map (mm_tv ad) = (As.map (mm_tv ad)).reverse ++ .ref (ad r) :: st1.map (mm_tv ad) by rw [List.map_append, List.map_reverse]; rfl]
  rw [if_neg (by rw [hk]; decide)] at w3
  have hpre : PreS s Hp (mm_Pc D aC ad H (.ref r :: As) Hp.size) (.ref (ad r) :: As.map (mm_tv ad)) := ⟨mm_blind, fun U hU hW => ⟨rfl, by rw [hU], mm_ent_of X0 hH hU hW⟩⟩
  have hM' := hM ad Hp.size
  unfold mm_Mt at hM'
  have ww := mm_words hts w1
  rw [hrn] at hM' ww w1
  rcases hlk with ⟨_, hlink⟩ | ⟨_, hlink⟩
  · exact mm_callw (va_runI (bytes := C.2.2.1) (maxL := C.2.2.2.1) (n := C.2.2.2.2.2.1) (As := As.map (mm_tv ad)) (rest := st1.map (mm_tv ad)) ⟨hx, hb, hml, hown, hts⟩ hM' ⟨⟨rfl, rfl, hfr, hlo, ww, List.mem_cons_self, hts _ w1, by rw [w5]; exact hts _ w2, ⟨w8, w9⟩, mm_npar w10, hts _ hlink⟩, w6 hk, hts _ w3⟩ hpre rfl (by rw [List.length_map]; exact hlen) hL.2.1.1 rfl (lv_room (by rw [mm_cat_map]; exact hc)) hd ⟨by omega, by omega⟩) hH.2.2.2.2.1 (mm_free X0 hH) (fun ad' H2 locs2 q1 q2 q3 q4 q5 q6 => mm_after hH hL hs2.2 hex k q1 q2 q3 q4 q5 q6)
  · exact mm_callw (va_runIN (host := "RoomsCaught") (bytes := C.2.2.1) (maxL := C.2.2.2.1) (n := C.2.2.2.2.2.1) (As := As.map (mm_tv ad)) (rest := st1.map (mm_tv ad)) ⟨hx, hb, hml, hown, hts⟩ hM' ⟨⟨⟨rfl, rfl, hfr, hlo, ww, List.mem_cons_self⟩, hts _ w1, by rw [w5]; exact hts _ w2, ⟨w8, w9⟩, mm_npar w10, va_Nw.use rfl (hNs _ hlink)⟩, w6 hk, hts _ w3⟩ hpre rfl (by rw [List.length_map]; exact hlen) hL.2.1.1 rfl (lv_room (by rw [mm_cat_map]; exact hc)) hd ⟨by omega, by omega⟩) hH.2.2.2.2.1 (mm_free X0 hH) (fun ad' H2 locs2 q1 q2 q3 q4 q5 q6 => mm_after hH hL hs2.2 hex k q1 q2 q3 q4 q5 q6)
end MP
