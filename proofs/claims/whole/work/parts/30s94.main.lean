/-! Math's three; then all runs -/
theorem mm_bad0 {C : mm_M} {n d : Nat} {a : Value} {rest : List Value} {H : mm_H} {r : Option Value × mm_H} (hd0 : decode C.2.2.1 0 = .ok (.iload_n 0, 1)) (h : mm_run n d C 0 (a :: rest) [] H = some r) : ∃ x, a = .int x := by
  cases n with
  | zero => cases h
  | succ n =>
    rw [mm_run_nx, mm_S_of hd0 (Or.inr rfl)] at h
    cases a with
    | int x => exact ⟨x, rfl⟩
    | _ => cases (show (none : mm_R) = some r from h)
theorem mm_bad1 {C : mm_M} {n d : Nat} {x : Int32} {a : Value} {rest : List Value} {H : mm_H} {r : Option Value × mm_H} (hd0 : decode C.2.2.1 0 = .ok (.iload_n 0, 1)) (hd1 : decode C.2.2.1 1 = .ok (.iload_n 1, 1)) (h : mm_run n d C 0 (.int x :: a :: rest) [] H = some r) : ∃ y, a = .int y := by
  match n, h with
  | 0, h => cases h
  | 1, h =>
    rw [mm_run_nx, mm_S_of hd0 (Or.inr rfl)] at h
    cases (show (none : mm_R) = some r from h)
  | n + 2, h =>
    rw [mm_run_nx, mm_S_of hd0 (Or.inr rfl)] at h
    have h1 : mm_run (n + 1) d C 1 (.int x :: a :: rest) [.int x] H = some r := h
    rw [mm_run_nx, mm_S_of hd1 (Or.inr rfl)] at h1
    cases a with
    | int y => exact ⟨y, rfl⟩
    | _ => cases (show (none : mm_R) = some r from h1)
theorem mm_in1 {C : mm_M} {a : Value} {As ll : List Value} (h : mm_in C (a :: As) = some ll) : ∃ rest, ll = a :: rest := by
  unfold mm_in at h
  split at h
  · rename_i l0 h0
    split at h
    · cases h
      cases a with
      | int x => simp only [mm_sl, Option.map_eq_some_iff] at h0; obtain ⟨z, -, rfl⟩ := h0; exact ⟨_, rfl⟩
      | ref x => simp only [mm_sl, Option.map_eq_some_iff] at h0; obtain ⟨z, -, rfl⟩ := h0; exact ⟨_, rfl⟩
      | null => simp only [mm_sl, Option.map_eq_some_iff] at h0; obtain ⟨z, -, rfl⟩ := h0; exact ⟨_, rfl⟩
      | long x =>
        simp only [mm_sl] at h0
        split at h0
        · simp only [Option.map_eq_some_iff] at h0; obtain ⟨z, -, rfl⟩ := h0; exact ⟨_, rfl⟩
        · cases h0
      | float x => cases h0
      | double x => cases h0
      | retAddr x => cases h0
    · cases h
  · cases h
theorem mm_max_E (d : Nat) (x y : Int32) (H : mm_H) : mm_E d mJ9_max_7cf53 0 [.int x, .int y] [] H = some (some (.int (if x < y then y else x)), H) := by
  obtain ⟨z, F, I, L⟩ := H
  simp only [eJ9_max_7cf53_0, eJ9_max_7cf53_1, eJ9_max_7cf53_2, eJ9_max_7cf53_5, eJ9_max_7cf53_6, eJ9_max_7cf53_9, eJ9_max_7cf53_10]
  by_cases h : x < y
  · rw [if_pos h, if_pos h]
  · rw [if_neg h, if_neg h]
theorem mm_min_E (d : Nat) (x y : Int32) (H : mm_H) : mm_E d mJ9_min_7cf53 0 [.int x, .int y] [] H = some (some (.int (if y < x then y else x)), H) := by
  obtain ⟨z, F, I, L⟩ := H
  simp only [eJ9_min_7cf53_0, eJ9_min_7cf53_1, eJ9_min_7cf53_2, eJ9_min_7cf53_5, eJ9_min_7cf53_6, eJ9_min_7cf53_9, eJ9_min_7cf53_10]
  by_cases h : y < x
  · rw [if_pos h, if_pos h]
  · rw [if_neg h, if_neg h]
theorem mm_abs_E (d : Nat) (x : Int32) (H : mm_H) : mm_E d mJ9_abs_0f7a4 0 [.int x] [] H = some (some (.int (if 0 ≤ x then x else -x)), H) := by
  obtain ⟨z, F, I, L⟩ := H
  simp only [eJ9_abs_0f7a4_0, eJ9_abs_0f7a4_1, eJ9_abs_0f7a4_4, eJ9_abs_0f7a4_5, eJ9_abs_0f7a4_6, eJ9_abs_0f7a4_9, eJ9_abs_0f7a4_10]
  by_cases h : 0 ≤ x
  · rw [if_pos h, if_pos h]
  · rw [if_neg h, if_neg h]
theorem mm_two {C : mm_M} {n d : Nat} {As ll : List Value} {H : mm_H} {r : Option Value × mm_H} (hd0 : decode C.2.2.1 0 = .ok (.iload_n 0, 1)) (hd1 : decode C.2.2.1 1 = .ok (.iload_n 1, 1)) (h : mm_run n d C 0 ll [] H = some r) (hi : mm_in C As = some ll) (hn : As.length = 2) (hm : C.2.2.2.1 = 2) : ∃ x y, As = [.int x, .int y] ∧ ll = [.int x, .int y] := by
  match As, hn with
  | [a, b], _ =>
    obtain ⟨rest, rfl⟩ := mm_in1 hi
    obtain ⟨x, rfl⟩ := mm_bad0 hd0 h
    have hb : ∃ rest', rest = b :: rest' := by
      unfold mm_in at hi
      split at hi
      · rename_i l0 h0
        split at hi
        · have hi := Option.some.inj hi
          simp only [mm_sl, Option.map_eq_some_iff] at h0
          obtain ⟨z, h0, rfl⟩ := h0
          have e9 : rest = z ++ List.replicate (C.2.2.2.1 - (Value.int x :: z).length) uu := by
            rw [List.cons_append] at hi
            exact (List.cons.inj hi).2.symm
          have hz : ∃ r9, z = b :: r9 := by
            cases b with
            | int x => simp only [mm_sl, Option.map_eq_some_iff] at h0; obtain ⟨z, -, rfl⟩ := h0; exact ⟨_, rfl⟩
            | ref x => simp only [mm_sl, Option.map_eq_some_iff] at h0; obtain ⟨z, -, rfl⟩ := h0; exact ⟨_, rfl⟩
            | null => simp only [mm_sl, Option.map_eq_some_iff] at h0; obtain ⟨z, -, rfl⟩ := h0; exact ⟨_, rfl⟩
            | long x =>
              simp only [mm_sl] at h0
              split at h0
              · simp only [Option.map_eq_some_iff] at h0; obtain ⟨z, -, rfl⟩ := h0; exact ⟨_, rfl⟩
              · cases h0
            | float x => cases h0
            | double x => cases h0
            | retAddr x => cases h0
          obtain ⟨r9, rfl⟩ := hz
          exact ⟨_, e9⟩
        · cases hi
      · cases hi
    obtain ⟨rest', rfl⟩ := hb
    obtain ⟨y, rfl⟩ := mm_bad1 hd0 hd1 h
    refine ⟨x, y, rfl, ?_⟩
    have hi2 : (if 2 ≤ C.2.2.2.1 then some ([Value.int x, Value.int y] ++ List.replicate (C.2.2.2.1 - 2) uu) else none) = some (Value.int x :: Value.int y :: rest') := hi
    rw [hm, if_pos (by decide)] at hi2
    exact (Option.some.inj hi2).symm
section MP
variable {p : Program} {l : Launch} {e : Env} {R : Room} {s : State} {m : MethodId} {args : Array Value} {below : List Frame} {meth : Method} {c : Code} {D : va_G} {aC : Nat → ClassId} {A : Nat → Prop} {ad0 : Nat → Nat} {n0 s0 dd : Nat} {M : mm_M} {Q : State → Prop}
variable {pc : Nat} {ls st : List Value} {H H0 : mm_H}
theorem mm_w15 {C : mm_M} (hm : mm_mok C) (hk : C.2.2.2.2.2.2.1 = 1) : Cond.static C.2.1 ∈ mm_gd ∧ Cond.initialized (mm_nm C.1) ∈ mm_gd ∧ Cond.code C.2.1 C.2.2.1 C.2.2.2.1 C.2.2.2.2.1 ∈ mm_gd := by
  obtain ⟨w1, w2, w3, -⟩ := mm_mok_spec hm
  rw [if_pos hk] at w3
  exact ⟨w3, w2, w1⟩
theorem mm_p_math {n d i : Nat} {C : mm_M} {As ll st1 : List Value} {v : Option Value} {H1 : mm_H} (X : mm_cx D aC A M p R s m args meth c dd) (hd : decode M.2.2.1 pc = .ok (.invokestatic i, 3)) (hf : mm_find (mm_lks M.1) i = some (n, C)) (h15 : C.1 = 15) (hk : C.2.2.2.2.2.2.1 = 1) (hp : mm_pop C.2.2.2.2.2.1 [] st = some (As, st1)) (hc : mm_cat st1 ≤ 8) {nn : Nat} (hi : mm_in C As = some ll) (hr : mm_run nn d C 0 ll [] H = some (v, H1)) (hRc : H1.1.1 - n0 ≤ R.cells ∧ H1.1.2.1 - s0 ≤ R.slots) (k : mm_Wp p l e R s m args below meth c D aC A ad0 n0 s0 M Q (pc + 3) ls (v.toList ++ st1) H1) : mm_Wp p l e R s m args below meth c D aC A ad0 n0 s0 M Q pc ls st H := by
  obtain ⟨hn0, h3⟩ := mm_15 hf h15
  obtain ⟨hlk, hmk⟩ := mm_lk_ok hf
  obtain ⟨x1, x2, x3⟩ := mm_w15 hmk hk
  have hlink : Cond.methodLink (mm_nm M.1) i C.2.1 ∈ mm_gd := by
    rcases hlk with ⟨_, q⟩ | ⟨q, _⟩
    · exact q
    · have hn0 : n = 0 := hn0
      have q : n = 1 := q
      omega
  obtain ⟨hx, hb, hml, hrt, hown, hts, hlks, hin, hK, hNs, hA, hAO, hR⟩ := X
  obtain ⟨hst, hlen⟩ := mm_pop0 hp
  have hE := mm_E_iff.mpr ⟨nn, hr⟩
  rcases h3 with rfl | rfl | rfl
  · have hl1 : As.length = 1 := hlen
    match As, hl1 with
    | [a], _ =>
      obtain ⟨rest, rfl⟩ := mm_in1 hi
      obtain ⟨x, rfl⟩ := mm_bad0 dJ9_abs_0f7a4_0 hr
      have e9 : rest = [] := by
        have hi2 : some [Value.int x] = some (Value.int x :: rest) := hi
        have := Option.some.inj hi2
        cases this
        rfl
      subst e9
      rw [mm_abs_E] at hE
      cases hE
      subst hst
      intro ad Hp locs rl hH hL hs
      have hcm := mm_cat_map ad st1
      have q1 : 1 ≤ R.frames := by omega
      have q2 : ((st1.map (mm_tv ad)).map fun v => v.category).sum + 13 ≤ R.locals := by rw [hcm]; omega
      have kk := k ad Hp locs rl hH hL ⟨trivial, hs.2⟩
      refine va_mabs hx hb (hml.trans hL.2.1.1.symm) hown (hts _ hlink) (hts _ x1) (hts _ x2) (hts _ x3) q1 q2 hRc.1 hRc.2 hd ?_
      rw [Int32.zero_sub]
      exact kk
  · obtain ⟨x, y, rfl, rfl⟩ := mm_two dJ9_max_7cf53_0 dJ9_max_7cf53_1 hr hi hlen rfl
    rw [mm_max_E] at hE
    cases hE
    subst hst
    intro ad Hp locs rl hH hL hs
    have hcm := mm_cat_map ad st1
    have q1 : 1 ≤ R.frames := by omega
    have q2 : ((st1.map (mm_tv ad)).map fun v => v.category).sum + 13 ≤ R.locals := by rw [hcm]; omega
    exact va_mmax hx hb (hml.trans hL.2.1.1.symm) hown (hts _ hlink) (hts _ x1) (hts _ x2) (hts _ x3) q1 q2 hRc.1 hRc.2 hd (k ad Hp locs rl hH hL ⟨trivial, hs.2.2⟩)
  · obtain ⟨x, y, rfl, rfl⟩ := mm_two dJ9_min_7cf53_0 dJ9_min_7cf53_1 hr hi hlen rfl
    rw [mm_min_E] at hE
    cases hE
    subst hst
    intro ad Hp locs rl hH hL hs
    have hcm := mm_cat_map ad st1
    have q1 : 1 ≤ R.frames := by omega
    have q2 : ((st1.map (mm_tv ad)).map fun v => v.category).sum + 13 ≤ R.locals := by rw [hcm]; omega
    exact va_mmin hx hb (hml.trans hL.2.1.1.symm) hown (hts _ hlink) (hts _ x1) (hts _ x2) (hts _ x3) q1 q2 hRc.1 hRc.2 hd (k ad Hp locs rl hH hL ⟨trivial, hs.2.2⟩)
end MP
