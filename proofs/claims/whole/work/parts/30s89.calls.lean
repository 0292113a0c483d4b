/-! calls -/
theorem mm_AOA_moved {t : FieldType} {u U : State} (hvm : u.vm.Alike U.vm) (h : (Cond.arrayOver (.array t)).before #[] u = true) : (Cond.arrayOver (.array t)).before #[] U = true := by
  unfold Cond.before Cond.holds at h ⊢
  simp only [Cond.value, beq_iff_eq] at h ⊢
  cases hc : u.vm.findClass (FieldType.array t).toString with
  | none => simp [hc] at h
  | some comp =>
    simp only [hc, Option.bind_some, Option.bind_eq_some_iff, Option.map_eq_some_iff] at h
    obtain ⟨ci, hi, k, hk, hb⟩ := h
    obtain ⟨k', hk', he⟩ := hvm.2.2 _ _ hk
    have hbe : U.vm.bare = u.vm.bare := by first | exact hvm.bare_eq | exact hvm.bare_eq.symm
    have b1 := va_idx_bare U.vm comp
    have b2 := va_idx_bare u.vm comp
    rw [hbe] at b1
    have hi2 := (b1.symm.trans b2).trans hi
    have hkind : k'.kind = k.kind := by rw [he]
    have f1 : U.vm.findClass (FieldType.array t).toString = some comp := by rw [hvm.findClass]; exact hc
    have f2 : U.vm.findClass ("[" ++ (FieldType.array t).toString) = u.vm.findClass ("[" ++ (FieldType.array t).toString) := by rw [hvm.findClass]
    rw [f1, Option.bind_some]
    refine (congrArg (fun o : Option Nat => o.bind (fun c => (U.vm.classes[c]?).map fun (k : Class) => match k.kind with | .array _ ty => decide (ty = FieldType.array t) && decide (U.vm.findClass ("[" ++ (FieldType.array t).toString) = some c) | _ => false)) hi2).trans ?_
    rw [Option.bind_some, hk', Option.map_some, hkind, f2]
    exact congrArg some hb
theorem mm_ao_moved {u U : State} (hvm : u.vm.Alike U.vm) (h : mm_ao u) : mm_ao U := ⟨va_AO.moved hvm h.1, mm_AOA_moved hvm h.2.1, mm_AOA_moved hvm h.2.2⟩
theorem mm_ns_warm {s U : State} (hW : s.WarmedH U.vm) (h : ∀ w ∈ mm_ns, va_Nw w s) : ∀ w ∈ mm_ns, va_Nw w U := by
  intro w hw
  have h1 := h w hw
  have h2 : mm_isN w = true := (List.mem_filter.mp hw).2
  cases w with
  | methodLinkNest a i x y => exact va_Nw.warmM hW h1
  | _ => cases h2
theorem mm_ns_same {u U : State} (hv : u.vm = U.vm) (h : ∀ w ∈ mm_ns, va_Nw w u) : ∀ w ∈ mm_ns, va_Nw w U := by
  intro w hw
  have h1 := h w hw
  have h2 : mm_isN w = true := (List.mem_filter.mp hw).2
  cases w with
  | methodLinkNest a i x y => exact va_Nw.same rfl hv h1
  | _ => cases h2
def mm_ent (D : va_G) (aC : Nat → ClassId) (ad : Nat → Nat) (H : mm_H) (U : State) : Prop := va_P D mm_cl (mm_ws aC ad H) U.heap ∧ va_K D mm_cl (mm_tys aC) U ∧ va_D (fun _ => True) (mm_ws aC ad H) ∧ (∀ w ∈ mm_ns, va_Nw w U) ∧ mm_ao U ∧ mm_ho H ∧ (∀ n, H.1.2.2 1 = .inr (6, n) → va_X (ad 1) n (H.2.2.1 1) U U.heap ∧ ad 1 < U.heap.size ∧ ¬ va_A (mm_ws aC ad H) U.heap.size (ad 1)) ∧ mm_sw (va_A (mm_ws aC ad H) U.heap.size) U U.heap
def mm_Pc (D : va_G) (aC : Nat → ClassId) (ad : Nat → Nat) (H : mm_H) (As : List Value) (sz : Nat) : Array Value → State → Prop := va_Pc (As.map (mm_tv ad)) (fun U => U.heap.size = sz ∧ mm_ent D aC ad H U)
def mm_Qc (D : va_G) (aC : Nat → ClassId) (ad : Nat → Nat) (H : mm_H) (v : Option Value) (H1 : mm_H) : Array Value → State → Outcome → State → Prop := fun _ st o t => ∃ ad' : Nat → Nat, (∀ r, r < H.1.1 → ad' r = ad r) ∧ o = .returned (v.map (mm_tv ad')) ∧ va_P D mm_cl (mm_ws aC ad' H1) t.heap ∧ va_D (va_A (mm_ws aC ad H) st.heap.size) (mm_ws aC ad' H1) ∧ mm_ho H1 ∧ mm_so H1.1.1 v.toList ∧ va_F (va_A (mm_ws aC ad H) st.heap.size) st t
/-- a method's contract, by what the small machine comes to -/
def mm_Mt (l : Launch) (D : va_G) (aC : Nat → ClassId) (C : mm_M) (ad : Nat → Nat) (As : List Value) (H : mm_H) (v : Option Value) (H1 : mm_H) (fr lo sz : Nat) : Prop :=
  Met l C.2.1 (.code C.2.1 C.2.2.1 C.2.2.2.1 C.2.2.2.2.1 :: mm_gd) { frames := fr, cells := H1.1.1 - H.1.1, slots := H1.1.2.1 - H.1.2.1, locals := lo } (mm_Pc D aC ad H As sz) (mm_Qc D aC ad H v H1) (H1.1.1 - H.1.1) (H1.1.2.1 - H.1.2.1) (va_A (mm_ws aC ad H) sz)
theorem mm_blind {D : va_G} {aC : Nat → ClassId} {ad : Nat → Nat} {H : mm_H} {As : List Value} {sz : Nat} : FrameBlind (mm_Pc D aC ad H As sz) := by
  intro a U g mk h
  obtain ⟨h1, h2, h3, h4, h5, h6, h7, h8, h9, h10⟩ := h
  refine ⟨h1, h2, h3, va_K.moved (u := U) (U := U.calling g mk a) (Vm.Alike.refl U.vm) h4, h5, mm_ns_same (u := U) (U := U.calling g mk a) rfl h6, mm_ao_moved (u := U) (U := U.calling g mk a) (Vm.Alike.refl U.vm) h7, h8, fun n hn => ?_, mm_sw_same (s := U) (U := U.calling g mk a) rfl rfl h10⟩
  obtain ⟨q1, q2, q3⟩ := h9 n hn
  exact ⟨va_X.moved (u := U) (U := U.calling g mk a) (Vm.Alike.refl U.vm) q1, q2, q3⟩
def mm_ex (H H' : mm_H) : Prop := H.1.1 ≤ H'.1.1 ∧ H.1.2.1 ≤ H'.1.2.1 ∧ H'.1.2.2 1 = H.1.2.2 1 ∧ H'.2.2.1 1 = H.2.2.1 1
theorem mm_ex_rfl (H : mm_H) : mm_ex H H := ⟨Nat.le_refl _, Nat.le_refl _, rfl, rfl⟩
theorem mm_ex_trans {a b c : mm_H} (h : mm_ex a b) (g : mm_ex b c) : mm_ex a c := ⟨Nat.le_trans h.1 g.1, Nat.le_trans h.2.1 g.2.1, g.2.2.1.trans h.2.2.1, g.2.2.2.trans h.2.2.2⟩
theorem mm_pop_spec : ∀ {n : Nat} {acc st As st' : List Value}, mm_pop n acc st = some (As, st') → ∃ vs, st = vs ++ st' ∧ vs.length = n ∧ As = vs.reverse ++ acc
  | 0, acc, st, As, st', h => by
    cases h
    exact ⟨[], rfl, rfl, rfl⟩
  | n + 1, acc, [], As, st', h => by cases h
  | n + 1, acc, v :: st, As, st', h => by
    obtain ⟨vs, h1, h2, h3⟩ := mm_pop_spec (n := n) (acc := v :: acc) (st := st) h
    exact ⟨v :: vs, by rw [h1]; rfl, by rw [List.length_cons, h2], by rw [h3, List.reverse_cons, List.append_assoc]; rfl⟩
theorem mm_pop0 {n : Nat} {st As st' : List Value} (h : mm_pop n [] st = some (As, st')) : st = As.reverse ++ st' ∧ As.length = n := by
  obtain ⟨vs, h1, h2, h3⟩ := mm_pop_spec h
  rw [List.append_nil] at h3
  exact ⟨by rw [h3, List.reverse_reverse]; exact h1, by rw [h3, List.length_reverse]; exact h2⟩
theorem mm_cv_inv {M : mm_M} {i : Nat} {ls st : List Value} {H : mm_H} {pc : Nat} {o : mm_O} (h : mm_cv M i ls st H pc = some o) : ∃ C As r st', mm_find (mm_lks M.1) i = some (0, C) ∧ (C.2.2.2.2.2.2.1 = 0 ∨ C.2.2.2.2.2.2.1 = 3) ∧ mm_pop C.2.2.2.2.2.1 [] st = some (As, .ref r :: st') ∧ mm_isO H r C.1 ∧ mm_cat st' ≤ 8 ∧ o = .inr (.inl (C, .ref r :: As, st')) := by
  unfold mm_cv at h
  split at h
  · rename_i C hf
    split at h
    · rename_i hk
      split at h
      · rename_i As r st' hp
        split at h
        · rename_i hO
          cases h
          exact ⟨C, As, r, st', hf, hk, hp, hO.1, hO.2, rfl⟩
        · cases h
      · cases h
    · cases h
  · cases h
theorem mm_cs_inv {M : mm_M} {i : Nat} {ls st : List Value} {H : mm_H} {pc : Nat} {o : mm_O} (h : mm_cs M i ls st H pc = some o) : (M.1 = 2 ∧ i = 64 ∧ mm_copy ls st H pc = some o) ∨ ∃ n C As st', mm_find (mm_lks M.1) i = some (n, C) ∧ C.2.2.2.2.2.2.1 = 1 ∧ mm_pop C.2.2.2.2.2.1 [] st = some (As, st') ∧ mm_cat st' ≤ 8 ∧ o = .inr (.inl (C, As, st')) := by
  unfold mm_cs at h
  split at h
  · rename_i h0; exact Or.inl ⟨h0.1, h0.2, h⟩
  · split at h
    · rename_i n C hf
      split at h
      · rename_i hk
        split at h
        · rename_i As st' hp
          split at h
          · rename_i hO
            cases h
            exact Or.inr ⟨n, C, As, st', hf, hk, hp, hO, rfl⟩
          · cases h
        · cases h
      · cases h
    · cases h
theorem mm_ci_inv {M : mm_M} {i : Nat} {ls st : List Value} {H : mm_H} {pc : Nat} {o : mm_O} (h : mm_ci M i ls st H pc = some o) : (mm_oi M.1 i = true ∧ ∃ r st', st = .ref r :: st' ∧ mm_cat st' ≤ 8 ∧ mm_go (pc + 3) ls st' H = some o) ∨ ∃ n C As r st', mm_find (mm_lks M.1) i = some (n, C) ∧ C.2.2.2.2.2.2.1 = 2 ∧ mm_pop C.2.2.2.2.2.1 [] st = some (As, .ref r :: st') ∧ mm_isO H r C.1 ∧ mm_cat st' ≤ 8 ∧ o = .inr (.inl (C, .ref r :: As, st')) := by
  unfold mm_ci at h
  split at h
  · rename_i h0
    split at h
    · split at h
      · rename_i hO
        exact Or.inl ⟨h0, _, _, rfl, hO, h⟩
      · cases h
    · cases h
  · split at h
    · rename_i n C hf
      split at h
      · rename_i hk
        split at h
        · rename_i As r st' hp
          split at h
          · rename_i hO
            cases h
            exact Or.inr ⟨n, C, As, r, st', hf, hk, hp, hO.1, hO.2, rfl⟩
          · cases h
        · cases h
      · cases h
    · cases h
/-- what a method's facts give -/
theorem mm_mok_spec {C : mm_M} (h : mm_mok C) : Cond.code C.2.1 C.2.2.1 C.2.2.2.1 C.2.2.2.2.1 ∈ mm_gd ∧ Cond.initialized (mm_nm C.1) ∈ mm_gd ∧ (if C.2.2.2.2.2.2.1 = 1 then Cond.static C.2.1 else Cond.instanceMethod C.2.1) ∈ mm_gd ∧ ((C.2.2.2.2.2.2.1 = 1 ∨ C.2.2.2.2.2.2.1 = 2) ∨ Cond.selects (mm_nm C.1) C.2.1 C.2.1 ∈ mm_gd) ∧ C.2.1.cls = mm_nm C.1 ∧ (C.2.2.2.2.2.2.1 = 2 → C.2.1.name = "<init>") ∧ (C.1 = 15 ∨ plainName C.2.1.cls = true) ∧ (C.2.1.cls ≠ "java/lang/invoke/MethodHandle" ∧ C.2.1.cls ≠ "java/lang/invoke/VarHandle" ∧ (parseMethodDescriptor C.2.1.desc).map (fun d => d.parameters.length) = some C.2.2.2.2.2.1) ∧ C.2.2.2.1 ≤ 40 := by
  obtain ⟨q, h, hc⟩ := h
  unfold mm_mk at h
  simp only [Bool.and_eq_true, Bool.or_eq_true, decide_eq_true_eq] at h
  obtain ⟨⟨⟨⟨⟨⟨⟨h1, h2⟩, h3⟩, h4⟩, h5⟩, h6⟩, h7⟩, h8⟩ := h
  exact ⟨mm_gd_of hc rfl, mm_at_gd h1, mm_at_gd h2, h3.imp id mm_at_gd, h4, h5, h6, h7, h8⟩
theorem mm_good {w : Cond} (h : w ∈ mm_gd) : (w.onTables && w.keeps) = true ∨ ∃ ty, w = .arrayClass ty := good_of_word (List.mem_filter.mp h).2
section MP
variable {p : Program} {l : Launch} {e : Env} {R : Room} {s : State} {m : MethodId} {args : Array Value} {below : List Frame} {meth : Method} {c : Code} {D : va_G} {aC : Nat → ClassId} {A : Nat → Prop} {ad0 : Nat → Nat} {n0 s0 dd : Nat} {M : mm_M} {Q : State → Prop}
variable {pc pc' : Nat} {ls st ls' st' : List Value} {H H' : mm_H}
/-- behind a call -/
theorem mm_callw {Hp : Heap} {locs : List Loc} {cells slots mc ms : Nat} {rl : Array Slot} {st0 rest : List Value} {ad : Nat → Nat} {v : Option Value} {H1 : mm_H} {a : Array Value} (hr : va_Run p l e R s m args below meth c Hp locs cells slots mc ms (F0 m pc rl st0) rest (mm_Qc D aC ad H v H1 a) (va_A (mm_ws aC ad H) Hp.size)) (hS : va_S A s.heap Hp locs) (hA : ∀ q, va_A (mm_ws aC ad H) Hp.size q → A q)
    (kk : ∀ (ad' : Nat → Nat) (H2 : Heap) (locs2 : List Loc), (∀ r, r < H.1.1 → ad' r = ad r) → va_P D mm_cl (mm_ws aC ad' H1) H2 → va_D A (mm_ws aC ad' H1) → va_S A s.heap H2 locs2 → mm_ho H1 → mm_so H1.1.1 v.toList → W p l e R s m args below meth c H2 locs2 (cells + mc) (slots + ms) Q (F0 m (pc + 3) rl ((v.map (mm_tv ad')).toList ++ rest))) : W p l e R s m args below meth c Hp locs cells slots Q (F0 m pc rl st0) := by
  intro T hT Xs
  obtain ⟨v', st₀, t, T', L, h0, X', hL, e1, e2, ⟨ad', q1, q2, q3, q4, q5, q6, q7⟩, stp⟩ := hr T hT Xs
  cases q2
  rw [h0] at q4
  have q7' : Hp.size ≤ t.heap.size ∧ ∀ q : Nat, q < Hp.size → ¬ va_A (mm_ws aC ad H) Hp.size q → t.heap[q]? = Hp[q]? := by
    have := q7
    unfold va_F at this
    rw [h0] at this
    exact this
  obtain ⟨t2, a1, b1⟩ := kk ad' T'.heap (locs ++ L) q1 (by rw [e1]; exact q3) (q4.weaken (fun _ _ _ hq => hA _ hq)) ⟨Nat.le_trans hS.1 (by rw [e1]; exact q7'.1), fun q g1 g2 => by rw [e1, q7'.2 q (Nat.lt_of_lt_of_le g1 hS.1) (fun z => g2 (hA q z))]; exact hS.2.1 q g1 g2, fun q hq => by
      rcases List.mem_append.mp hq with z | z
      · exact hS.2.2 q z
      · exact hA _ (hL q z)⟩ q5 q6 T' rfl X'
  exact ⟨t2, stp t2 a1, b1⟩
theorem mm_ent_of {Hp : Heap} {locs : List Loc} {ad : Nat → Nat} (X : mm_cx D aC A M p R s m args meth c dd) (hH : mm_relH D aC A ad0 n0 s0 s ad Hp locs H) {U : State} (hU : U.heap = Hp) (hW : s.WarmedH U.vm) : mm_ent D aC ad H U := by
  obtain ⟨hx, hb, hml, hrt, hown, hts, hlk, hin, hK, hNs, hA, hAO, hR⟩ := X
  obtain ⟨-, -, hP, hD, hS, hho, hsc⟩ := hH
  refine ⟨by rw [hU]; exact hP, va_K.moved hW.alike hK, hD.weaken (fun _ _ _ _ => trivial), mm_ns_warm hW hNs, mm_ao_moved hW.alike hAO, hho, fun n hn => ?_, ?_⟩
  rotate_left
  · refine mm_sw_to hsc.2 (by rw [hU]; exact hS.2.1) hW (fun q z => ?_)
    rw [hU] at z
    rcases z with ⟨k, e, z⟩ | z
    · exact hD.2 k _ z
    · exact hA q (Nat.le_trans hS.1 z)
  obtain ⟨q1, q2, q3⟩ := hsc.1 n hn
  have hlt : ad 1 < Hp.size := Nat.lt_of_lt_of_le q2 hS.1
  refine ⟨va_X.moved hW.alike (va_X.kept q1 (by rw [hU]; exact hS.2.1 _ q2 q3)), by rw [hU]; exact hlt, fun z => ?_⟩
  rw [hU] at z
  rcases z with ⟨k, e, z⟩ | z
  · exact q3 (hD.2 k _ z)
  · exact absurd z (by omega)
theorem mm_free {Hp : Heap} {locs : List Loc} {ad : Nat → Nat} (X : mm_cx D aC A M p R s m args meth c dd) (hH : mm_relH D aC A ad0 n0 s0 s ad Hp locs H) : ∀ q, va_A (mm_ws aC ad H) Hp.size q → A q := by
  intro q h
  rcases h with ⟨k, e, z⟩ | z
  · exact hH.2.2.2.1.2 k _ z
  · exact X.2.2.2.2.2.2.2.2.2.2.1 q (Nat.le_trans hH.2.2.2.2.1.1 z)
/-- after a call the picture stands -/
theorem mm_after {Hp : Heap} {locs : List Loc} {rl : Array Slot} {ad : Nat → Nat} {v : Option Value} {H1 : mm_H} {st1 : List Value} (hH : mm_relH D aC A ad0 n0 s0 s ad Hp locs H) (hL : mm_relL M ad H.1.1 rl ls) (hs : mm_so H.1.1 st1) (hex : mm_ex H H1) (k : mm_Wp p l e R s m args below meth c D aC A ad0 n0 s0 M Q (pc + 3) ls (v.toList ++ st1) H1) {ad' : Nat → Nat} {H2 : Heap} {locs2 : List Loc} (q1 : ∀ r, r < H.1.1 → ad' r = ad r) (hP : va_P D mm_cl (mm_ws aC ad' H1) H2) (hD : va_D A (mm_ws aC ad' H1)) (hS : va_S A s.heap H2 locs2) (hho : mm_ho H1) (hv : mm_so H1.1.1 v.toList) : W p l e R s m args below meth c H2 locs2 (H.1.1 - n0 + (H1.1.1 - H.1.1)) (H.1.2.1 - s0 + (H1.1.2.1 - H.1.2.1)) Q (F0 m (pc + 3) rl ((v.map (mm_tv ad')).toList ++ st1.map (mm_tv ad))) := by
  obtain ⟨g1, ⟨g2, g3⟩, -, -, -, ⟨g6, -⟩, g7⟩ := hH
  obtain ⟨x1, x2, x3, x4⟩ := hex
  have kk := k ad' H2 locs2 rl ⟨fun r hr => (q1 r (Nat.lt_of_lt_of_le hr g2)).trans (g1 r hr), ⟨Nat.le_trans g2 x1, Nat.le_trans g3 x2⟩, hP, hD, hS, hho, fun n hn => by
    rw [x3] at hn
    rw [x4, q1 1 (by omega)]
    exact g7.1 n hn, g7.2⟩ (mm_relL_ext hL x1 q1) (mm_so_app.mpr ⟨hv, mm_so_mono x1 hs⟩)
  have e1 : H1.1.1 - n0 = H.1.1 - n0 + (H1.1.1 - H.1.1) := by omega
  have e2 : H1.1.2.1 - s0 = H.1.2.1 - s0 + (H1.1.2.1 - H.1.2.1) := by omega
  have e3 : (v.toList ++ st1).map (mm_tv ad') = (v.map (mm_tv ad')).toList ++ st1.map (mm_tv ad) := by
    rw [List.map_append, mm_so_map q1 hs]
    cases v <;> rfl
  rw [e1, e2, e3] at kk
  exact kk
end MP
