/-! the law, out of what the small machine comes to -/
theorem mm_gd_tbl {w : Cond} (h : w ∈ mm_gd) : w ∈ lw_tbl := (List.mem_filter.mp h).1
theorem mm_known {s : State} {b : Nat} (hts : ∀ w ∈ lw_tbl, w.before #[Value.ref b] s = true) {c : Nat} (hc : c < 12) (hi : Cond.instantiable (mm_nm c) (mm_nf c) ∈ lw_tbl) : ∃ (cC : ClassId) (iS : Nat → Nat), u_Kn s (mm_nm c) (mm_T c) (mm_nf c) cC iS :=
  u_known (ws := lw_tbl) hts (fun w hw => mm_gd_tbl ((mm_cls_ok hc).2.1 w hw)) (hts _ hi)
theorem mm_insts : ∀ c, c < 12 → Cond.instantiable (mm_nm c) (mm_nf c) ∈ lw_tbl := by
  intro c hc
  match c, hc with
  | 0, _ => exact List.mem_of_getElem? (i := 266) (by decide +kernel)
  | 1, _ => exact List.mem_of_getElem? (i := 89) (by decide +kernel)
  | 2, _ => exact List.mem_of_getElem? (i := 288) (by decide +kernel)
  | 3, _ => exact List.mem_of_getElem? (i := 346) (by decide +kernel)
  | 4, _ => exact List.mem_of_getElem? (i := 129) (by decide +kernel)
  | 5, _ => exact List.mem_of_getElem? (i := 97) (by decide +kernel)
  | 6, _ => exact List.mem_of_getElem? (i := 328) (by decide +kernel)
  | 7, _ => exact List.mem_of_getElem? (i := 149) (by decide +kernel)
  | 8, _ => exact List.mem_of_getElem? (i := 219) (by decide +kernel)
  | 9, _ => exact List.mem_of_getElem? (i := 239) (by decide +kernel)
  | 10, _ => exact List.mem_of_getElem? (i := 81) (by decide +kernel)
  | 11, _ => exact List.mem_of_getElem? (i := 1045) (by decide +kernel)
  | n + 12, h => exact absurd h (by omega)
theorem mm_ao7 : Cond.arrayOver (.object RX7) ∈ lw_tbl := List.mem_of_getElem? (i := 95) (by decide +kernel)
theorem mm_aoI : Cond.arrayOver (.array .int) ∈ lw_tbl := List.mem_of_getElem? (i := 294) (by decide +kernel)
theorem mm_aoL : Cond.arrayOver (.array .long) ∈ lw_tbl := List.mem_of_getElem? (i := 272) (by decide +kernel)
theorem mm_arr {s : State} {cA : ClassId} {kA : Class} {comp : ClassId} {ty : FieldType} (h1 : s.vm.classes[cA]? = some kA) (h2 : kA.kind = .array comp ty) : ArrOfT s cA ty := fun N z => ⟨(fun k h => by cases h), kA, h1, comp, h2⟩
/-- the classes and the array classes, as the tables have them -/
theorem mm_worldK {s : State} {b : Nat} (hts : ∀ w ∈ lw_tbl, w.before #[Value.ref b] s = true) : ∃ (D : va_G) (aC : Nat → ClassId), va_K D mm_cl (mm_tys aC) s := by
  have hk : ∀ c, ∃ (q : ClassId × (Nat → Nat)), c < 12 → u_Kn s (mm_nm c) (mm_T c) (mm_nf c) q.1 q.2 := by
    intro c
    by_cases hc : c < 12
    · obtain ⟨cC, iS, h⟩ := mm_known hts hc (mm_insts c hc)
      exact ⟨(cC, iS), fun _ => h⟩
    · exact ⟨(0, fun _ => 0), fun h => absurd h hc⟩
  obtain ⟨f, hf⟩ := Classical.axiomOfChoice hk
  obtain ⟨c0, k0, p0, a0, b0, d0⟩ := Cond.arrayClass_spec (hts _ (mm_gd_tbl mm_w_ai))
  obtain ⟨c1, k1, p1, a1, b1, d1⟩ := Cond.arrayClass_spec (hts _ (mm_gd_tbl mm_w_al))
  obtain ⟨c2, k2, p2, a2, b2, d2⟩ := Cond.arrayClass_spec (hts _ (mm_gd_tbl mm_w_az))
  obtain ⟨p3, c3, k3, a3, -, b3, d3, e3⟩ := Cond.arrayOver_spec (hts _ mm_ao7)
  obtain ⟨p4, c4, k4, a4, b4, d4, e4⟩ := Cond.arrayOver_specA (hts _ mm_aoI)
  obtain ⟨p5, c5, k5, a5, b5, d5, e5⟩ := Cond.arrayOver_specA (hts _ mm_aoL)
  refine ⟨(fun c => (f c).1, fun c => (f c).2), fun t => if t = 0 then c0 else if t = 1 then c1 else if t = 2 then c2 else if t = 3 then c3 else if t = 4 then c4 else c5, ?_, ?_⟩
  · intro c q hq
    have hc : c < 12 := (List.getElem?_eq_some_iff.mp hq).1
    have e := (mm_cls_ok hc).1
    rw [e] at hq
    cases hq
    exact hf c hc
  · intro k q hq
    match k, hq with
    | 0, hq => cases hq; exact ⟨mm_arr b0 d0, a0⟩
    | 1, hq => cases hq; exact ⟨mm_arr b1 d1, a1⟩
    | 2, hq => cases hq; exact ⟨mm_arr b2 d2, a2⟩
    | 3, hq => cases hq; exact ⟨mm_arr b3 d3, k3, p3, b3, d3, a3, e3⟩
    | 4, hq => cases hq; exact ⟨mm_arr b4 d4, e4⟩
    | 5, hq => cases hq; exact ⟨mm_arr b5 d5, e5⟩
    | k + 6, hq => cases hq
/-- the texts at the law's start -/
theorem mm_sw0 {s : State} {b : Nat} (hts : ∀ w ∈ lw_tbl, w.before #[Value.ref b] s = true) (hgv : (Jvm.Cond.and given_1 narrow_1).before #[Value.ref b] s = true) : mm_sw (fun q => s.heap.size ≤ q) s s.heap := by
  have hf := flat_of_before _ hgv
  have hA : ∀ a : Nat, a < s.heap.size → ¬ (fun q => s.heap.size ≤ q) a := fun a h => Nat.not_le.mpr h
  have i3 : ∀ {P : Nat → Prop}, P 0 → P 1 → P 2 → ∀ i : Nat, i < 3 → P i := fun h0 h1 h2 i hi => by
    match i, hi with
    | 0, _ => exact h0
    | 1, _ => exact h1
    | 2, _ => exact h2
    | k + 3, h => exact absurd h (by omega)
  obtain ⟨adK, adV, h1, h2⟩ := vk_Sof (args := #[Value.ref b]) (s := s) (N := 3) (tm := fun i => .string "RoomsCaught$Text" ([51, 57, 59].getD i 0)) (len := [3, 5, 4]) (byt := mm_by) (A := fun q => s.heap.size ≤ q) (i3 (by decide) (by decide) (by decide)) (i3 (hf _ (by decide +kernel)) (hf _ (by decide +kernel)) (hf _ (by decide +kernel))) (i3 (hf _ (by decide +kernel)) (hf _ (by decide +kernel)) (hf _ (by decide +kernel))) (i3 (hf _ (by decide +kernel)) (hf _ (by decide +kernel)) (hf _ (by decide +kernel))) (i3 (hf _ (by decide +kernel)) (hf _ (by decide +kernel)) (hf _ (by decide +kernel)))
    (i3 (fun j hj => by
        have hj : j < 3 := hj
        match j, hj with
        | 0, _ => exact hf _ (by decide +kernel)
        | 1, _ => exact hf _ (by decide +kernel)
        | 2, _ => exact hf _ (by decide +kernel)
        | k + 3, h => exact absurd h (by omega)) (fun j hj => by
        have hj : j < 5 := hj
        match j, hj with
        | 0, _ => exact hf _ (by decide +kernel)
        | 1, _ => exact hf _ (by decide +kernel)
        | 2, _ => exact hf _ (by decide +kernel)
        | 3, _ => exact hf _ (by decide +kernel)
        | 4, _ => exact hf _ (by decide +kernel)
        | k + 5, h => exact absurd h (by omega)) (fun j hj => by
        have hj : j < 4 := hj
        match j, hj with
        | 0, _ => exact hf _ (by decide +kernel)
        | 1, _ => exact hf _ (by decide +kernel)
        | 2, _ => exact hf _ (by decide +kernel)
        | 3, _ => exact hf _ (by decide +kernel)
        | k + 4, h => exact absurd h (by omega)))
    (fun i j hi hj hij => by
      match i, j, hi, hj, hij with
      | 0, 0, _, _, h => exact absurd rfl h
      | 1, 1, _, _, h => exact absurd rfl h
      | 2, 2, _, _, h => exact absurd rfl h
      | 0, 1, _, _, _ => first | exact Or.inl (hf _ (by decide +kernel)) | exact Or.inr (hf _ (by decide +kernel))
      | 0, 2, _, _, _ => first | exact Or.inl (hf _ (by decide +kernel)) | exact Or.inr (hf _ (by decide +kernel))
      | 1, 0, _, _, _ => first | exact Or.inl (hf _ (by decide +kernel)) | exact Or.inr (hf _ (by decide +kernel))
      | 1, 2, _, _, _ => first | exact Or.inl (hf _ (by decide +kernel)) | exact Or.inr (hf _ (by decide +kernel))
      | 2, 0, _, _, _ => first | exact Or.inl (hf _ (by decide +kernel)) | exact Or.inr (hf _ (by decide +kernel))
      | 2, 1, _, _, _ => first | exact Or.inl (hf _ (by decide +kernel)) | exact Or.inr (hf _ (by decide +kernel))
      | k + 3, _, h, _, _ => exact absurd h (by omega)
      | _, k + 3, _, h, _ => exact absurd h (by omega)) hA
  refine ⟨adK, adV, h1, vk_R.of (hts _ (by decide +kernel)) (h2 0 (by decide)), vk_R.of (hts _ (by decide +kernel)) (h2 1 (by decide)), vk_R.of (hts _ (by decide +kernel)) (h2 2 (by decide)), va_Zof (hts _ (by decide +kernel)) (hts _ (by decide +kernel)) (va_eqi (hf _ (by decide +kernel))) hA, va_Zqof (hts _ (by decide +kernel)) (hts _ (by decide +kernel)) (hf _ (by decide +kernel)) hA⟩
theorem mm_law_start {p : Program} {e : Env} {s : State} {m : MethodId} {below : List Frame} {meth : Method} {c : Code} (l : Launch) {b L : Nat} {xs : Nat → Int32} (hwd : mm_wdOK l) {dd : Nat} (hdd : dd ≤ 1000) {H1 : mm_H} (hE : mm_E dd mL_law 0 [.ref 1, uu, uu, uu] [] (mm_H0 L xs) = some (some (.int 1), H1)) (hc1 : H1.1.1 ≤ 600000) (hc2 : H1.1.2.1 ≤ 7302250) (C0 : lw_At p s m meth c b L xs) : W p l e room_1 s m #[Value.ref b] below meth c s.heap [] 0 0 (lw_Z below #[Value.ref b] s) (entryFrame m ([Value.ref b] : List Value).toArray 4) := by
  obtain ⟨hx, hb, hr, hml, hown, hts, hX, hbl, hlocks, hgv⟩ := C0
  obtain ⟨D, aC, hK⟩ := mm_worldK hts
  obtain ⟨n, hn⟩ := mm_E_iff.mp hE
  have hNs : ∀ w ∈ mm_ns, va_Nw w s := by
    intro w hw
    have h2 : mm_isN w = true := (List.mem_filter.mp hw).2
    have h1 := hts w (List.mem_filter.mp hw).1
    cases w with
    | methodLinkNest a i x y => exact va_Nw.of rfl h1
    | _ => cases h2
  have hq1 : dd + 12 ≤ room_1.frames := by show dd + 12 ≤ 2048; omega
  have hq2 : 64 * (dd + 12) ≤ room_1.locals := by show 64 * (dd + 12) ≤ 84000; omega
  have X : mm_cx D aC (fun q => s.heap.size ≤ q) mL_law p room_1 s m #[Value.ref b] meth c dd := ⟨hx, hb, hml, hr, hown, fun w hw => hts w (mm_gd_tbl hw), hlocks, (fun h => by cases h), hK, hNs, (fun _ h => h), ⟨hts _ mm_ao7, hts _ mm_aoI, hts _ mm_aoL⟩, ⟨hq1, hq2⟩⟩
  have k := mm_snd hwd n dd mL_law 0 [.ref 1, uu, uu, uu] [] (mm_H0 L xs) _ hn (Nat.le_refl 2) p e room_1 s m #[Value.ref b] below meth c D aC (fun q => s.heap.size ≤ q) (fun _ => b) 2 0 (lw_Z below #[Value.ref b] s) X (fun pc ls st H h => ?_) ⟨by show H1.1.1 - 2 ≤ 600000; omega, by show H1.1.2.1 - 0 ≤ 7302250; omega⟩
  · rw [lg_entry_eq]
    have hP0 : va_P D mm_cl (mm_ws aC (fun _ => b) (mm_H0 L xs)) s.heap := fun k q h => by simp [mm_ws, mm_H0] at h
    have hD0 : va_D (fun q => s.heap.size ≤ q) (mm_ws aC (fun _ => b) (mm_H0 L xs)) := ⟨fun i j p q h => by simp [mm_ws, mm_H0] at h, fun k q h => by simp [mm_ws, mm_H0] at h⟩
    have hho : mm_ho (mm_H0 L xs) := ⟨Nat.le_refl 2, fun r q1 q2 => absurd q2 (Nat.not_lt.mpr q1)⟩
    have hsc : mm_sc (fun q => s.heap.size ≤ q) (fun _ => b) s (mm_H0 L xs) := by
      refine ⟨fun n hn => ?_, mm_sw0 hts hgv⟩
      have e9 : (Sum.inr (6, L) : Nat ⊕ (Nat × Nat)) = .inr (6, n) := hn
      cases e9
      exact ⟨hX, hbl, Nat.not_le.mpr hbl⟩
    exact k (fun _ => b) s.heap [] _ ⟨fun _ _ => rfl, ⟨Nat.le_refl 2, Nat.le_refl 0⟩, hP0, hD0, va_S.rf, hho, hsc⟩ (mm_in_rel (C := mL_law) (As := [.ref 1]) rfl ⟨⟨Nat.le_refl 1, (by decide : 1 < 2)⟩, trivial⟩) trivial
  · obtain ⟨ins, len, hd, hl, h⟩ := mm_S_inv h
    have hs2 := mm_ret_same h
    rcases mm_st_inr h with rfl | rfl | rfl | rfl | ⟨i, rfl⟩ | ⟨i, rfl⟩ | ⟨i, rfl⟩
    · have e9 : len = 1 := hl.resolve_left (fun q => absurd (show (1 : Nat) = 0 from q) (by decide))
      subst e9
      obtain ⟨v, rfl, ho, -⟩ := mm_iret_inv h
      cases ho
      intro ad Hp locs rl hH hL hs
      refine va_forget (fun q hq => hH.2.2.2.2.1.2.2 q hq) ?_
      refine W.widen (k := 600000) (n := 7302250) (by omega) (by omega) ?_
      exact lw_ret hx hb hr hlocks hd
    · obtain ⟨v, -, ho, -⟩ := mm_lret_inv (M := mL_law) (st := st) (H := H) h
      cases ho
    · obtain ⟨C, -, ⟨v, -, ho⟩ | ⟨-, ho⟩⟩ := mm_aret_inv (M := mL_law) (st := st) (H := H) h <;> cases ho
    · obtain ⟨-, ho, -⟩ := mm_vret_inv (M := mL_law) (st := st) (H := H) h
      cases ho
    · obtain ⟨_, _, _, _, _, _, _, _, _, h⟩ := mm_cv_inv (ls := ls) (pc := pc) h
      cases h
    · rcases mm_cs_inv (ls := ls) (pc := pc) h with ⟨_, _, h⟩ | ⟨_, _, _, _, _, _, _, _, h⟩
      · obtain ⟨_, _, _, _, _, _, _, _, _, _, _, _, _, _, h⟩ := mm_copy_inv h
        exact absurd h mm_go_nr
      · cases h
    · rcases mm_ci_inv (ls := ls) (pc := pc) h with ⟨_, _, _, _, _, h⟩ | ⟨_, _, _, _, _, _, _, _, _, _, h⟩
      · exact absurd h mm_go_nr
      · cases h
