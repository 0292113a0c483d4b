/-! constants, switches, null; new cells -/
theorem mm_ws_ext {aC : Nat → ClassId} {ad ad' : Nat → Nat} {H H' : mm_H} {k : Nat} (h2 : 2 ≤ H.1.1) (hn : H'.1.1 = H.1.1 + k) (hs : ∀ r, 2 ≤ r → r < H.1.1 → ad' r = ad r ∧ mm_ce aC ad' H' r = mm_ce aC ad H r) : mm_ws aC ad' H' = mm_ws aC ad H ++ (List.range k).map (fun i => (ad' (H.1.1 + i), mm_ce aC ad' H' (H.1.1 + i))) := by
  unfold mm_ws
  rw [hn, show H.1.1 + k - 2 = (H.1.1 - 2) + k by omega, List.range_add, List.map_append, List.map_map]
  congr 1
  · apply List.map_congr_left
    intro i hi
    have hi := List.mem_range.mp hi
    obtain ⟨e1, e2⟩ := hs (i + 2) (by omega) (by omega)
    rw [e1, e2]
  · apply List.map_congr_left
    intro i _
    show (ad' (H.1.1 - 2 + i + 2), mm_ce aC ad' H' (H.1.1 - 2 + i + 2)) = _
    rw [show H.1.1 - 2 + i + 2 = H.1.1 + i by omega]
theorem mm_ce_row {aC : Nat → ClassId} {ad : Nat → Nat} {H H' : mm_H} {r : Nat} (hk : H'.1.2.2 r = H.1.2.2 r) (hF : H'.2.1 r = H.2.1 r) (hI : H'.2.2.1 r = H.2.2.1 r) (hL : H'.2.2.2 r = H.2.2.2 r) : mm_ce aC ad H' r = mm_ce aC ad H r := by
  unfold mm_ce mm_fs mm_ac
  rw [hk, hF, hI, hL]
theorem mm_co_mono {H H' : mm_H} {r : Nat} (hn : H.1.1 ≤ H'.1.1) (hk : H'.1.2.2 r = H.1.2.2 r) (hF : H'.2.1 r = H.2.1 r) (h : mm_co H r) : mm_co H' r := by
  unfold mm_co at h ⊢
  rw [hk, hF]
  cases hq : H.1.2.2 r with
  | inl x => rw [hq] at h; exact ⟨h.1, fun k => mm_vo_mono hn (h.2 k)⟩
  | inr x => rw [hq] at h; exact ⟨h.1, fun h3 k => mm_vo_mono hn (h.2 h3 k)⟩
/-- more cells -/
theorem mm_relH_grow {D : va_G} {aC : Nat → ClassId} {A : Nat → Prop} {ad0 ad ad' : Nat → Nat} {n0 s0 : Nat} {s : State} {Hp H1 : Heap} {locs locs1 : List Loc} {H H' : mm_H} (hH : mm_relH D aC A ad0 n0 s0 s ad Hp locs H) (ha : ∀ r, r < H.1.1 → ad' r = ad r) (hn : H.1.1 ≤ H'.1.1) (hs : H.1.2.1 ≤ H'.1.2.1) (hold : ∀ r, r < H.1.1 → H'.1.2.2 r = H.1.2.2 r ∧ H'.2.1 r = H.2.1 r ∧ H'.2.2.1 r = H.2.2.1 r) (hnew : ∀ r, H.1.1 ≤ r → r < H'.1.1 → mm_co H' r) (hP : va_P D mm_cl (mm_ws aC ad' H') H1) (hD : va_D A (mm_ws aC ad' H')) (hS : va_S A s.heap H1 locs1) : mm_relH D aC A ad0 n0 s0 s ad' H1 locs1 H' := by
  obtain ⟨h1, ⟨h2, h3⟩, -, -, -, ⟨h6, h7⟩, h8⟩ := hH
  refine ⟨fun r hr => (ha r (Nat.lt_of_lt_of_le hr h2)).trans (h1 r hr), ⟨Nat.le_trans h2 hn, Nat.le_trans h3 hs⟩, hP, hD, hS, ⟨Nat.le_trans h6 hn, fun r q1 q2 => ?_⟩, fun n hk => ?_, h8.2⟩
  · by_cases hr : r < H.1.1
    · exact mm_co_mono hn (hold r hr).1 (hold r hr).2.1 (h7 r q1 hr)
    · exact hnew r (by omega) q2
  · have hr : 1 < H.1.1 := by omega
    rw [(hold 1 hr).1] at hk
    rw [(hold 1 hr).2.2, ha 1 hr]
    exact h8.1 n hk
theorem mm_new_inv {M : mm_M} {i : Nat} {ls st : List Value} {H : mm_H} {pc : Nat} {o : mm_O} (h : mm_new M i ls st H pc = some o) : ∃ c, mm_find (mm_nws M.1) i = some c ∧ mm_go (pc + 3) ls (.ref H.1.1 :: st) (mm_nO H c) = some o := by
  unfold mm_new at h
  split at h
  · rename_i c hc; exact ⟨c, hc, h⟩
  · cases h
theorem mm_newa_inv {t : Nat} {ls st : List Value} {H : mm_H} {pc : Nat} {o : mm_O} (h : mm_newa t ls st H pc = some o) : ∃ n st', st = .int n :: st' ∧ 0 ≤ n ∧ n.toNatClampNeg ≤ 4096 ∧ mm_go (pc + 2) ls (.ref H.1.1 :: st') (mm_nA H t n.toNatClampNeg) = some o := by
  unfold mm_newa at h
  split at h
  · split at h
    · rename_i hO; exact ⟨_, _, rfl, hO.1, hO.2, h⟩
    · cases h
  · cases h
theorem mm_anew_inv {M : mm_M} {i : Nat} {ls st : List Value} {H : mm_H} {pc : Nat} {o : mm_O} (h : mm_anew M i ls st H pc = some o) : ∃ n st', st = .int n :: st' ∧ (0 ≤ n ∧ n.toNatClampNeg ≤ 4096) ∧ M.1 = 1 ∧ i = 9 ∧ mm_go (pc + 3) ls (.ref H.1.1 :: st') (mm_nA H 3 n.toNatClampNeg) = some o := by
  unfold mm_anew at h
  split at h
  · split at h
    · rename_i hO; exact ⟨_, _, rfl, hO.1, hO.2.1, hO.2.2, h⟩
    · cases h
  · cases h
theorem mm_mnew_inv {M : mm_M} {i d : Nat} {ls st : List Value} {H : mm_H} {pc : Nat} {o : mm_O} (h : mm_mnew M i d ls st H pc = some o) : ∃ k n st', st = .int k :: .int n :: st' ∧ ((0 ≤ n ∧ n.toNatClampNeg ≤ 4096) ∧ (0 ≤ k ∧ k.toNatClampNeg ≤ 4096)) ∧ d = 2 ∧ ((M.1 = 2 ∧ i = 24 ∧ mm_go (pc + 4) ls (.ref H.1.1 :: st') (mm_nM H 0 n.toNatClampNeg k.toNatClampNeg) = some o) ∨ (M.1 = 0 ∧ i = 9 ∧ mm_go (pc + 4) ls (.ref H.1.1 :: st') (mm_nM H 1 n.toNatClampNeg k.toNatClampNeg) = some o)) := by
  unfold mm_mnew at h
  split at h
  · split at h
    · rename_i hO
      split at h
      · rename_i h2; exact ⟨_, _, _, rfl, hO.1, hO.2, Or.inl ⟨h2.1, h2.2, h⟩⟩
      · split at h
        · rename_i h2; exact ⟨_, _, _, rfl, hO.1, hO.2, Or.inr ⟨h2.1, h2.2, h⟩⟩
        · cases h
    · cases h
  · cases h
theorem mm_copy_inv {ls st : List Value} {H : mm_H} {pc : Nat} {o : mm_O} (h : mm_copy ls st H pc = some o) : ∃ n dp r sp q st' n0 n1, st = .int n :: .int dp :: .ref r :: .int sp :: .ref q :: st' ∧ H.1.2.2 q = .inr (0, n0) ∧ H.1.2.2 r = .inr (0, n1) ∧ ((0 ≤ sp ∧ 0 ≤ dp ∧ 0 ≤ n) ∧ sp.toNatClampNeg + n.toNatClampNeg ≤ n0 ∧ dp.toNatClampNeg + n.toNatClampNeg ≤ n1) ∧ (r < H.1.1 ∧ 2 ≤ r ∧ q < H.1.1 ∧ 2 ≤ q) ∧ mm_cat st' ≤ 8 ∧ mm_go (pc + 3) ls st' (H.1, H.2.1, va_up H.2.2.1 r (va_cpy (H.2.2.1 q) (H.2.2.1 r) sp.toNatClampNeg dp.toNatClampNeg n.toNatClampNeg), H.2.2.2) = some o := by
  unfold mm_copy at h
  split at h
  · split at h
    · rename_i n0 n1 hq hr
      split at h
      · rename_i hO; exact ⟨_, _, _, _, _, _, n0, n1, rfl, hq, hr, hO.1, hO.2.1, hO.2.2, h⟩
      · cases h
    · cases h
  · cases h
theorem mm_ge0 {n : Int32} (h : 0 ≤ n) : ¬ n < 0 := Int32.not_lt.mpr h
section MP
variable {p : Program} {l : Launch} {e : Env} {R : Room} {s : State} {m : MethodId} {args : Array Value} {below : List Frame} {meth : Method} {c : Code} {D : va_G} {aC : Nat → ClassId} {A : Nat → Prop} {ad0 : Nat → Nat} {n0 s0 dd : Nat} {M : mm_M} {Q : State → Prop}
variable {pc pc' : Nat} {ls st ls' st' : List Value} {H H' : mm_H}
theorem mm_p_ldc {i : Nat} (X : mm_cx D aC A M p R s m args meth c dd) (hd : decode M.2.2.1 pc = .ok (.ldc i, 2)) (h : mm_st M pc ls st H (.ldc i) = some (.inl (pc', ls', st', H'))) (k : mm_Wp p l e R s m args below meth c D aC A ad0 n0 s0 M Q pc' ls' st' H') : mm_Wp p l e R s m args below meth c D aC A ad0 n0 s0 M Q pc ls st H := by
  simp only [mm_st] at h
  split at h
  · rename_i v hv
    obtain ⟨rfl, rfl, rfl, rfl⟩ := mm_inj2 h
    exact fun ad Hp locs rl hH hL hs => lv_ldc X.1 X.2.1 X.2.2.2.2.1 (X.2.2.2.2.2.1 _ (mm_ct_ok hv)) hd (k ad Hp locs rl hH hL ⟨trivial, hs⟩)
  · cases h
theorem mm_p_ldc_w {i : Nat} (X : mm_cx D aC A M p R s m args meth c dd) (hd : decode M.2.2.1 pc = .ok (.ldc_w i, 3)) (h : mm_st M pc ls st H (.ldc_w i) = some (.inl (pc', ls', st', H'))) (k : mm_Wp p l e R s m args below meth c D aC A ad0 n0 s0 M Q pc' ls' st' H') : mm_Wp p l e R s m args below meth c D aC A ad0 n0 s0 M Q pc ls st H := by
  simp only [mm_st] at h
  split at h
  · rename_i v hv
    obtain ⟨rfl, rfl, rfl, rfl⟩ := mm_inj2 h
    exact fun ad Hp locs rl hH hL hs => lv_ldcw X.1 X.2.1 X.2.2.2.2.1 (X.2.2.2.2.2.1 _ (mm_ct_ok hv)) hd (k ad Hp locs rl hH hL ⟨trivial, hs⟩)
  · cases h
theorem mm_p_ldc2_w {i : Nat} (X : mm_cx D aC A M p R s m args meth c dd) (hd : decode M.2.2.1 pc = .ok (.ldc2_w i, 3)) (h : mm_st M pc ls st H (.ldc2_w i) = some (.inl (pc', ls', st', H'))) (k : mm_Wp p l e R s m args below meth c D aC A ad0 n0 s0 M Q pc' ls' st' H') : mm_Wp p l e R s m args below meth c D aC A ad0 n0 s0 M Q pc ls st H := by
  simp only [mm_st] at h
  split at h
  · rename_i v hv
    obtain ⟨rfl, rfl, rfl, rfl⟩ := mm_inj2 h
    exact fun ad Hp locs rl hH hL hs => lv_ldc2 X.1 X.2.1 X.2.2.2.2.1 (X.2.2.2.2.2.1 _ (mm_cl_ok hv)) hd (k ad Hp locs rl hH hL ⟨trivial, hs⟩)
  · cases h
theorem mm_p_ifnull {off : Int} (X : mm_cx D aC A M p R s m args meth c dd) (hd : decode M.2.2.1 pc = .ok (.ifnull off, 3)) (h : mm_st M pc ls st H (.ifnull off) = some (.inl (pc', ls', st', H'))) (k : mm_Wp p l e R s m args below meth c D aC A ad0 n0 s0 M Q pc' ls' st' H') : mm_Wp p l e R s m args below meth c D aC A ad0 n0 s0 M Q pc ls st H := by
  match st, h with
  | .null :: st1, h =>
    obtain ⟨tgt, ht, h⟩ := mm_jmp_inv h
    obtain ⟨rfl, rfl, rfl, rfl⟩ := mm_inj2 h
    exact fun ad Hp locs rl hH hL hs => lv_ifnullN X.1 X.2.1 hd ht (k ad Hp locs rl hH hL hs.2)
  | .ref x :: st1, h =>
    obtain ⟨rfl, rfl, rfl, rfl⟩ := mm_inj2 h
    exact fun ad Hp locs rl hH hL hs => lv_ifnull X.1 X.2.1 hd (k ad Hp locs rl hH hL hs.2)
theorem mm_p_ifnonnull {off : Int} (X : mm_cx D aC A M p R s m args meth c dd) (hd : decode M.2.2.1 pc = .ok (.ifnonnull off, 3)) (h : mm_st M pc ls st H (.ifnonnull off) = some (.inl (pc', ls', st', H'))) (k : mm_Wp p l e R s m args below meth c D aC A ad0 n0 s0 M Q pc' ls' st' H') : mm_Wp p l e R s m args below meth c D aC A ad0 n0 s0 M Q pc ls st H := by
  match st, h with
  | .ref x :: st1, h =>
    obtain ⟨tgt, ht, h⟩ := mm_jmp_inv h
    obtain ⟨rfl, rfl, rfl, rfl⟩ := mm_inj2 h
    exact fun ad Hp locs rl hH hL hs => lv_ifnonnull X.1 X.2.1 hd ht (k ad Hp locs rl hH hL hs.2)
  | .null :: st1, h =>
    obtain ⟨rfl, rfl, rfl, rfl⟩ := mm_inj2 h
    exact fun ad Hp locs rl hH hL hs => lv_ifnonnullN X.1 X.2.1 hd (k ad Hp locs rl hH hL hs.2)
theorem mm_p_tableswitch {df lo hi : Int} {offs : Array Int} {len : Nat} (X : mm_cx D aC A M p R s m args meth c dd) (hd : decode M.2.2.1 pc = .ok (.tableswitch df lo hi offs, len)) (h : mm_st M pc ls st H (.tableswitch df lo hi offs) = some (.inl (pc', ls', st', H'))) (k : mm_Wp p l e R s m args below meth c D aC A ad0 n0 s0 M Q pc' ls' st' H') : mm_Wp p l e R s m args below meth c D aC A ad0 n0 s0 M Q pc ls st H := by
  match st, h with
  | .int x :: st1, h =>
    replace h : mm_tsw df lo hi offs ls (.int x :: st1) H pc = some (.inl (pc', ls', st', H')) := h
    simp only [mm_tsw] at h
    split at h
    · rename_i h0
      obtain ⟨tgt, ht, h⟩ := mm_jmp_inv h
      obtain ⟨rfl, rfl, rfl, rfl⟩ := mm_inj2 h
      exact fun ad Hp locs rl hH hL hs => lv_tableOut X.1 X.2.1 hd h0 ht (k ad Hp locs rl hH hL hs.2)
    · rename_i h0
      split at h
      · rename_i off ho
        obtain ⟨tgt, ht, h⟩ := mm_jmp_inv h
        obtain ⟨rfl, rfl, rfl, rfl⟩ := mm_inj2 h
        exact fun ad Hp locs rl hH hL hs => lv_tableIn X.1 X.2.1 hd (fun q => h0 (Or.inl q)) (fun q => h0 (Or.inr q)) ho ht (k ad Hp locs rl hH hL hs.2)
      · cases h
theorem mm_p_lookupswitch {df : Int} {ps : Array (Int × Int)} {len : Nat} (X : mm_cx D aC A M p R s m args meth c dd) (hd : decode M.2.2.1 pc = .ok (.lookupswitch df ps, len)) (h : mm_st M pc ls st H (.lookupswitch df ps) = some (.inl (pc', ls', st', H'))) (k : mm_Wp p l e R s m args below meth c D aC A ad0 n0 s0 M Q pc' ls' st' H') : mm_Wp p l e R s m args below meth c D aC A ad0 n0 s0 M Q pc ls st H := by
  match st, h with
  | .int x :: st1, h =>
    replace h : mm_lsw df ps ls (.int x :: st1) H pc = some (.inl (pc', ls', st', H')) := h
    simp only [mm_lsw] at h
    split at h
    · rename_i h0
      obtain ⟨tgt, ht, h⟩ := mm_jmp_inv h
      obtain ⟨rfl, rfl, rfl, rfl⟩ := mm_inj2 h
      exact fun ad Hp locs rl hH hL hs => lv_lookup X.1 X.2.1 hd h0 rfl ht (k ad Hp locs rl hH hL hs.2)
    · cases h
theorem mm_p_copy {i : Nat} (X : mm_cx D aC A M p R s m args meth c dd) (hd : decode M.2.2.1 pc = .ok (.invokestatic i, 3)) (h1 : M.1 = 2) (h2 : i = 64) (h : mm_copy ls st H pc = some (.inl (pc', ls', st', H'))) (k : mm_Wp p l e R s m args below meth c D aC A ad0 n0 s0 M Q pc' ls' st' H') : mm_Wp p l e R s m args below meth c D aC A ad0 n0 s0 M Q pc ls st H := by
  obtain ⟨n, dp, r, sp, q, st1, na, nb, rfl, hq, hr, ⟨⟨a1, a2, a3⟩, a4, a5⟩, ⟨b1, b2, b3, b4⟩, hcat, h⟩ := mm_copy_inv h
  obtain ⟨rfl, rfl, rfl, rfl⟩ := mm_inj2 h
  obtain ⟨hx, hb, hml, hrt, hown, hts, hlk, hin, hK, hNs, hA, hAO, hR⟩ := X
  subst h2
  rw [h1] at hown
  intro ad Hp locs rl hH hL hs
  have hset : (mm_ws aC ad H).set (r - 2) (ad r, .inl (aC 0, nb, .inl (va_cpy (H.2.2.1 q) (H.2.2.1 r) sp.toNatClampNeg dp.toNatClampNeg n.toNatClampNeg))) = mm_ws aC ad (H.1, H.2.1, va_up H.2.2.1 r (va_cpy (H.2.2.1 q) (H.2.2.1 r) sp.toNatClampNeg dp.toNatClampNeg n.toNatClampNeg), H.2.2.2) := mm_ws_set b2 rfl (by
    rw [mm_ce_a (H := (H.1, H.2.1, va_up H.2.2.1 r (va_cpy (H.2.2.1 q) (H.2.2.1 r) sp.toNatClampNeg dp.toNatClampNeg n.toNatClampNeg), H.2.2.2)) hr]
    show Sum.inl (aC 0, nb, Sum.inl (va_up H.2.2.1 r _ r)) = _
    unfold va_up
    rw [if_pos rfl]) (fun z _ hz => mm_ce_I (H := H) (by unfold va_up; rw [if_neg hz]))
  have hcm := mm_cat_map ad st1
  have hnf : nativeFrameWords "java/lang/System" "arraycopy" 5 = 7 := by decide +kernel
  have hf1 : 1 ≤ R.frames := by omega
  have hf2 : ((st1.map (mm_tv ad)).map fun v => v.category).sum + (nativeFrameWords "java/lang/System" "arraycopy" 5 + 11) ≤ R.locals := by
    rw [hcm, hnf]
    omega
  refine va_copyi hx hb (hml.trans hL.2.1.1.symm) hown (hts _ mm_w_c1) (hts _ mm_w_c2) (hts _ mm_w_c3) (hts _ mm_w_c4) hK hH.2.2.1 hH.2.2.2.1 hH.2.2.2.2.1 (q - 2) (r - 2) 0 0 (ty := .int) (by rw [mm_ws_get aC ad H b4 b3, mm_ce_a hq]; rfl) (by rw [mm_ws_get aC ad H b2 b1, mm_ce_a hr]; rfl) rfl rfl rfl (mm_ge0 a1) (mm_ge0 a2) (mm_ge0 a3) a4 a5 (fun _ _ => rfl) hf1 hf2 hd (fun H1 locs1 hP1 hD1 hS1 => ?_)
  rw [hset] at hP1 hD1
  exact k ad H1 locs1 rl (mm_relH_same hH rfl hP1 hD1 hS1 (by show va_up H.2.2.1 r _ 1 = _; unfold va_up; rw [if_neg (Nat.ne_of_lt (Nat.lt_of_lt_of_le (by decide : 1 < 2) b2))]) (fun _ _ _ _ => Or.inl rfl)) hL hs.2.2.2.2.2
theorem mm_p_oi {i : Nat} (X : mm_cx D aC A M p R s m args meth c dd) (hd : decode M.2.2.1 pc = .ok (.invokespecial i, 3)) (h0 : mm_oi M.1 i = true) {r : Nat} {st1 : List Value} (hc : mm_cat st1 ≤ 8) (k : mm_Wp p l e R s m args below meth c D aC A ad0 n0 s0 M Q (pc + 3) ls st1 H) : mm_Wp p l e R s m args below meth c D aC A ad0 n0 s0 M Q pc ls (.ref r :: st1) H := by
  obtain ⟨hx, hb, hml, hrt, hown, hts, hlk, hin, hK, hNs, hA, hAO, hR⟩ := X
  obtain ⟨w1, w2, w3⟩ := mm_oi_ok h0
  intro ad Hp locs rl hH hL hs
  have hcm := mm_cat_map ad st1
  refine W.objInit hx hb hown (hts _ w1) (hts _ w2) (hts _ w3) rfl (hL.2.1.1.trans hml.symm) rfl hd (by omega) (Nat.le_trans (Nat.add_le_add_right (lv_room (m := m) (pc := pc) (ls := rl) (rest := (.ref (ad r) :: st1.map (mm_tv ad))) (st := st1.map (mm_tv ad)) (by rw [hcm]; exact hc)) 12) (by omega)) ?_
  exact W.eq (g2 := F0 m (pc + 3) rl (st1.map (mm_tv ad))) rfl (k ad Hp locs rl hH hL hs.2)
theorem mm_dv_tv (ad : Nat → Nat) (ty : FieldType) : mm_tv ad (defaultValue ty) = defaultValue ty := by cases ty <;> rfl
theorem mm_dv_vo (n : Nat) (ty : FieldType) : mm_vo n (defaultValue ty) := by cases ty <;> trivial
theorem mm_up_lt {ad : Nat → Nat} {n q r : Nat} (h : r < n) : va_up ad n q r = ad r := by
  unfold va_up
  rw [if_neg (by omega)]
theorem mm_up_row {α : Type} {f : Nat → α} {n r : Nat} {v : α} (h : r < n) : va_up f n v r = f r := by
  unfold va_up
  rw [if_neg (by omega)]
theorem mm_up_at {α : Type} {f : Nat → α} {n : Nat} {v : α} : va_up f n v n = v := by
  unfold va_up
  rw [if_pos rfl]
theorem mm_p_new {i : Nat} (X : mm_cx D aC A M p R s m args meth c dd) (hd : decode M.2.2.1 pc = .ok (.new i, 3)) (h : mm_st M pc ls st H (.new i) = some (.inl (pc', ls', st', H'))) (k : mm_Wp p l e R s m args below meth c D aC A ad0 n0 s0 M Q pc' ls' st' H') (hRc : H'.1.1 - n0 ≤ R.cells ∧ H'.1.2.1 - s0 ≤ R.slots) : mm_Wp p l e R s m args below meth c D aC A ad0 n0 s0 M Q pc ls st H := by
  obtain ⟨c0, hf, h⟩ := mm_new_inv h
  obtain ⟨rfl, rfl, rfl, rfl⟩ := mm_inj2 h
  obtain ⟨⟨w1, w2, w3⟩, hc⟩ := mm_nw_ok hf
  obtain ⟨hcl, hus, hty, hnm, hdc⟩ := mm_cls_ok hc
  obtain ⟨hx, hb, hml, hrt, hown, hts, hlk, hin, hK, hNs, hA, hAO, hR⟩ := X
  intro ad Hp locs rl hH hL hs
  have g0 := hH.2.1
  have g1 : H.1.1 + 1 - n0 ≤ R.cells := hRc.1
  have g2 : H.1.2.1 + mm_nf c0 - s0 ≤ R.slots := hRc.2
  refine va_new (ci := c0) (fs := (List.range (mm_nf c0)).map (fun j => defaultValue (mm_ty c0 j))) (C := mm_nm c0) (T := mm_T c0) (N := mm_nf c0) hx hb hts hus (mm_ty c0) hty hown (hts _ w1) (hts _ w2) (hts _ w3) hK hH.2.2.1 hH.2.2.2.1 hH.2.2.2.2.1 hA hcl (fun j hj => ?_) (by omega) (by omega) hd (fun q H1 hP1 hD1 hS1 => ?_)
  · show _ = List.getD _ j Value.null
    rw [List.getD_eq_getElem?_getD, List.getElem?_map, List.getElem?_range hj]
    rfl
  · have hws : mm_ws aC (va_up ad H.1.1 q) (mm_nO H c0) = mm_ws aC ad H ++ [(q, .inr (c0, (List.range (mm_nf c0)).map (fun j => defaultValue (mm_ty c0 j))))] := by
      rw [mm_ws_ext (k := 1) (H := H) (H' := mm_nO H c0) (ad := ad) (ad' := va_up ad H.1.1 q) hH.2.2.2.2.2.1.1 rfl (fun r q1 q2 => ⟨mm_up_lt q2, (mm_ce_row (H := H) (H' := mm_nO H c0) (mm_up_row q2) (mm_up_row q2) rfl rfl).trans (mm_ce_ext (fun z hz => mm_up_lt hz) (hH.2.2.2.2.2.1.2 r q1 q2))⟩)]
      show mm_ws aC ad H ++ [(va_up ad H.1.1 q (H.1.1 + 0), mm_ce aC (va_up ad H.1.1 q) (mm_nO H c0) (H.1.1 + 0))] = _
      rw [Nat.add_zero, mm_up_at, mm_ce_o (H := mm_nO H c0) (c := c0) mm_up_at]
      unfold mm_fs
      show _ ++ [(q, Sum.inr (c0, (List.range (mm_nf c0)).map (fun k => mm_tv _ (va_up H.2.1 H.1.1 (fun j => defaultValue (mm_ty c0 j)) H.1.1 k))))] = _
      rw [mm_up_at]
      simp only [mm_dv_tv]
    rw [← hws] at hP1 hD1
    have hext : ∀ r, r < H.1.1 → va_up ad H.1.1 q r = ad r := fun r hr => mm_up_lt hr
    have kk := k (va_up ad H.1.1 q) H1 locs rl (mm_relH_grow (H' := mm_nO H c0) hH hext (Nat.le_succ _) (Nat.le_add_right _ _) (fun r hr => ⟨mm_up_row hr, mm_up_row hr, rfl⟩) (fun r q1 q2 => by
      have e9 : r = H.1.1 := by have : r < H.1.1 + 1 := q2; omega
      subst e9
      unfold mm_co
      rw [show (mm_nO H c0).1.2.2 H.1.1 = .inl c0 from mm_up_at]
      refine ⟨hc, fun k => ?_⟩
      rw [show (mm_nO H c0).2.1 H.1.1 = fun j => defaultValue (mm_ty c0 j) from mm_up_at]
      exact mm_dv_vo _ _) hP1 hD1 hS1) (mm_relL_ext hL (Nat.le_succ _) hext) ⟨⟨Nat.le_trans (by decide : 1 ≤ 2) hH.2.2.2.2.2.1.1, Nat.lt_succ_self _⟩, mm_so_mono (Nat.le_succ _) hs⟩
    have e1 : (mm_nO H c0).1.1 - n0 = H.1.1 - n0 + 1 := by show H.1.1 + 1 - n0 = _; omega
    have e2 : (mm_nO H c0).1.2.1 - s0 = H.1.2.1 - s0 + mm_nf c0 := by show H.1.2.1 + mm_nf c0 - s0 = _; omega
    have e3 : (Value.ref H.1.1 :: st).map (mm_tv (va_up ad H.1.1 q)) = .ref q :: st.map (mm_tv ad) := by
      rw [List.map_cons, mm_so_map hext hs]
      show Value.ref (va_up ad H.1.1 q H.1.1) :: _ = _
      rw [mm_up_at]
    rw [e1, e2, e3] at kk
    exact kk
/-- a new row: the same for each type -/
theorem mm_newrow {t n : Nat} {Hp : Heap} {locs : List Loc} {rl : Array Slot} {ad : Nat → Nat} {len : Nat} (hH : mm_relH D aC A ad0 n0 s0 s ad Hp locs H) (hL : mm_relL M ad H.1.1 rl ls) (hs : mm_so H.1.1 st) (ht : t < 6) (k : mm_Wp p l e R s m args below meth c D aC A ad0 n0 s0 M Q (pc + len) ls (.ref H.1.1 :: st) (mm_nA H t n)) {q : Nat} {cA : ClassId} {H1 : Heap} (hc : cA = aC t) {a0 : vp_A} (ha0 : a0 = (n, if t = 1 then .inr (.inl (fun _ => 0)) else if 3 ≤ t then .inr (.inr (.inr (.inr (fun _ => none)))) else .inl (fun _ => 0))) (hP1 : va_P D mm_cl (mm_ws aC ad H ++ [(q, .inl (cA, a0))]) H1) (hD1 : va_D A (mm_ws aC ad H ++ [(q, .inl (cA, a0))])) (hS1 : va_S A s.heap H1 locs) : W p l e R s m args below meth c H1 locs (H.1.1 - n0 + 1) (H.1.2.1 - s0 + n) Q (F0 m (pc + len) rl (.ref q :: st.map (mm_tv ad))) := by
  have g0 := hH.2.1
  have hws : mm_ws aC (va_up ad H.1.1 q) (mm_nA H t n) = mm_ws aC ad H ++ [(q, .inl (cA, a0))] := by
    rw [mm_ws_ext (k := 1) (H := H) (H' := mm_nA H t n) (ad := ad) (ad' := va_up ad H.1.1 q) hH.2.2.2.2.2.1.1 rfl (fun r q1 q2 => ⟨mm_up_lt q2, (mm_ce_row (H := H) (H' := mm_nA H t n) (mm_up_row q2) (mm_up_row q2) (mm_up_row q2) (mm_up_row q2)).trans (mm_ce_ext (fun z hz => mm_up_lt hz) (hH.2.2.2.2.2.1.2 r q1 q2))⟩)]
    show mm_ws aC ad H ++ [(va_up ad H.1.1 q (H.1.1 + 0), mm_ce aC (va_up ad H.1.1 q) (mm_nA H t n) (H.1.1 + 0))] = _
    rw [Nat.add_zero, mm_up_at, mm_ce_a (H := mm_nA H t n) (t := t) (n := n) mm_up_at, hc, ha0]
    unfold mm_ac
    rw [show (mm_nA H t n).2.2.2 H.1.1 = fun _ => 0 from mm_up_at, show (mm_nA H t n).2.2.1 H.1.1 = fun _ => 0 from mm_up_at, show (mm_nA H t n).2.1 H.1.1 = fun _ => .null from mm_up_at]
    rfl
  rw [← hws] at hP1 hD1
  have hext : ∀ r, r < H.1.1 → va_up ad H.1.1 q r = ad r := fun r hr => mm_up_lt hr
  have kk := k (va_up ad H.1.1 q) H1 locs rl (mm_relH_grow (H' := mm_nA H t n) hH hext (Nat.le_succ _) (Nat.le_add_right _ _) (fun r hr => ⟨mm_up_row hr, mm_up_row hr, mm_up_row hr⟩) (fun r q1 q2 => by
      have e9 : r = H.1.1 := by have : r < H.1.1 + 1 := q2; omega
      subst e9
      unfold mm_co
      rw [show (mm_nA H t n).1.2.2 H.1.1 = .inr (t, n) from mm_up_at]
      refine ⟨ht, fun _ k => ?_⟩
      rw [show (mm_nA H t n).2.1 H.1.1 = fun _ => .null from mm_up_at]
      trivial) hP1 hD1 hS1) (mm_relL_ext hL (Nat.le_succ _) hext) ⟨⟨Nat.le_trans (by decide : 1 ≤ 2) hH.2.2.2.2.2.1.1, Nat.lt_succ_self _⟩, mm_so_mono (Nat.le_succ _) hs⟩
  have e1 : (mm_nA H t n).1.1 - n0 = H.1.1 - n0 + 1 := by show H.1.1 + 1 - n0 = _; omega
  have e2 : (mm_nA H t n).1.2.1 - s0 = H.1.2.1 - s0 + n := by show H.1.2.1 + n - s0 = _; omega
  have e3 : (Value.ref H.1.1 :: st).map (mm_tv (va_up ad H.1.1 q)) = .ref q :: st.map (mm_tv ad) := by
    rw [List.map_cons, mm_so_map hext hs]
    show Value.ref (va_up ad H.1.1 q H.1.1) :: _ = _
    rw [mm_up_at]
  rw [e1, e2, e3] at kk
  exact kk
theorem mm_p_newi (X : mm_cx D aC A M p R s m args meth c dd) (hd : decode M.2.2.1 pc = .ok (.newarray .int, 2)) (h : mm_st M pc ls st H (.newarray .int) = some (.inl (pc', ls', st', H'))) (k : mm_Wp p l e R s m args below meth c D aC A ad0 n0 s0 M Q pc' ls' st' H') (hRc : H'.1.1 - n0 ≤ R.cells ∧ H'.1.2.1 - s0 ≤ R.slots) : mm_Wp p l e R s m args below meth c D aC A ad0 n0 s0 M Q pc ls st H := by
  obtain ⟨n, st1, rfl, hn0, hn, h⟩ := mm_newa_inv h
  obtain ⟨rfl, rfl, rfl, rfl⟩ := mm_inj2 h
  obtain ⟨hx, hb, hml, hrt, hown, hts, hlk, hin, hK, hNs, hA, hAO, hR⟩ := X
  intro ad Hp locs rl hH hL hs
  have g0 := hH.2.1
  have g1 : H.1.1 + 1 - n0 ≤ R.cells := hRc.1
  have g2 : H.1.2.1 + n.toNatClampNeg - s0 ≤ R.slots := hRc.2
  exact va_newa (atype := .int) (ty := .int) (a0 := (n.toNatClampNeg, .inl (fun _ => 0))) hx hb (hts _ mm_w_ai) rfl hK hH.2.2.1 hH.2.2.2.1 hH.2.2.2.2.1 hA (fun _ => rfl) (mm_ge0 hn0) rfl (by show n.toNatClampNeg * 4 ≤ _; omega) (by omega) (by omega) hd (fun q cA H1 hK1 hP1 hD1 hS1 => mm_newrow (t := 0) hH hL hs.2 (by decide) k (Option.some.inj ((hK1.2 6 _ rfl).2.symm.trans (hK.2 0 _ rfl).2)) rfl hP1 hD1 hS1)
theorem mm_p_newl (X : mm_cx D aC A M p R s m args meth c dd) (hd : decode M.2.2.1 pc = .ok (.newarray .long, 2)) (h : mm_st M pc ls st H (.newarray .long) = some (.inl (pc', ls', st', H'))) (k : mm_Wp p l e R s m args below meth c D aC A ad0 n0 s0 M Q pc' ls' st' H') (hRc : H'.1.1 - n0 ≤ R.cells ∧ H'.1.2.1 - s0 ≤ R.slots) : mm_Wp p l e R s m args below meth c D aC A ad0 n0 s0 M Q pc ls st H := by
  obtain ⟨n, st1, rfl, hn0, hn, h⟩ := mm_newa_inv h
  obtain ⟨rfl, rfl, rfl, rfl⟩ := mm_inj2 h
  obtain ⟨hx, hb, hml, hrt, hown, hts, hlk, hin, hK, hNs, hA, hAO, hR⟩ := X
  intro ad Hp locs rl hH hL hs
  have g0 := hH.2.1
  have g1 : H.1.1 + 1 - n0 ≤ R.cells := hRc.1
  have g2 : H.1.2.1 + n.toNatClampNeg - s0 ≤ R.slots := hRc.2
  exact va_newa (atype := .long) (ty := .long) (a0 := (n.toNatClampNeg, .inr (.inl (fun _ => 0)))) hx hb (hts _ mm_w_al) rfl hK hH.2.2.1 hH.2.2.2.1 hH.2.2.2.2.1 hA (fun _ => rfl) (mm_ge0 hn0) rfl (by show n.toNatClampNeg * 8 ≤ _; omega) (by omega) (by omega) hd (fun q cA H1 hK1 hP1 hD1 hS1 => mm_newrow (t := 1) hH hL hs.2 (by decide) k (Option.some.inj ((hK1.2 6 _ rfl).2.symm.trans (hK.2 1 _ rfl).2)) rfl hP1 hD1 hS1)
theorem mm_p_newz (X : mm_cx D aC A M p R s m args meth c dd) (hd : decode M.2.2.1 pc = .ok (.newarray .boolean, 2)) (h : mm_st M pc ls st H (.newarray .boolean) = some (.inl (pc', ls', st', H'))) (k : mm_Wp p l e R s m args below meth c D aC A ad0 n0 s0 M Q pc' ls' st' H') (hRc : H'.1.1 - n0 ≤ R.cells ∧ H'.1.2.1 - s0 ≤ R.slots) : mm_Wp p l e R s m args below meth c D aC A ad0 n0 s0 M Q pc ls st H := by
  obtain ⟨n, st1, rfl, hn0, hn, h⟩ := mm_newa_inv h
  obtain ⟨rfl, rfl, rfl, rfl⟩ := mm_inj2 h
  obtain ⟨hx, hb, hml, hrt, hown, hts, hlk, hin, hK, hNs, hA, hAO, hR⟩ := X
  intro ad Hp locs rl hH hL hs
  have g0 := hH.2.1
  have g1 : H.1.1 + 1 - n0 ≤ R.cells := hRc.1
  have g2 : H.1.2.1 + n.toNatClampNeg - s0 ≤ R.slots := hRc.2
  exact va_newa (atype := .boolean) (ty := .boolean) (a0 := (n.toNatClampNeg, .inl (fun _ => 0))) hx hb (hts _ mm_w_az) rfl hK hH.2.2.1 hH.2.2.2.1 hH.2.2.2.2.1 hA (fun _ => rfl) (mm_ge0 hn0) rfl (by show n.toNatClampNeg * 1 ≤ _; omega) (by omega) (by omega) hd (fun q cA H1 hK1 hP1 hD1 hS1 => mm_newrow (t := 2) hH hL hs.2 (by decide) k (Option.some.inj ((hK1.2 6 _ rfl).2.symm.trans (hK.2 2 _ rfl).2)) rfl hP1 hD1 hS1)
theorem mm_p_anew {i : Nat} (X : mm_cx D aC A M p R s m args meth c dd) (hd : decode M.2.2.1 pc = .ok (.anewarray i, 3)) (h : mm_st M pc ls st H (.anewarray i) = some (.inl (pc', ls', st', H'))) (k : mm_Wp p l e R s m args below meth c D aC A ad0 n0 s0 M Q pc' ls' st' H') (hRc : H'.1.1 - n0 ≤ R.cells ∧ H'.1.2.1 - s0 ≤ R.slots) : mm_Wp p l e R s m args below meth c D aC A ad0 n0 s0 M Q pc ls st H := by
  obtain ⟨n, st1, rfl, ⟨hn0, hn⟩, h1, h2, h⟩ := mm_anew_inv h
  obtain ⟨rfl, rfl, rfl, rfl⟩ := mm_inj2 h
  obtain ⟨hx, hb, hml, hrt, hown, hts, hlk, hin, hK, hNs, hA, hAO, hR⟩ := X
  subst h2
  rw [h1] at hown
  intro ad Hp locs rl hH hL hs
  have g0 := hH.2.1
  have g1 : H.1.1 + 1 - n0 ≤ R.cells := hRc.1
  have g2 : H.1.2.1 + n.toNatClampNeg - s0 ≤ R.slots := hRc.2
  refine va_newq (C := RX7) hx hb hown (hts _ mm_w_sw) hAO.1 hK hH.2.2.1 hH.2.2.2.1 hH.2.2.2.2.1 hA (mm_ge0 hn0) rfl (by omega) (by omega) (by omega) hd (fun q cA H1 hK1 hP1 hD1 hS1 => ?_)
  have hcA : cA = aC 3 := by
    obtain ⟨_, _, _, _, _, k1⟩ := (hK1.2 6 _ rfl).2
    obtain ⟨_, _, _, _, _, k2⟩ := (hK.2 3 _ rfl).2
    exact Option.some.inj (k1.symm.trans k2)
  exact mm_newrow (t := 3) hH hL hs.2 (by decide) k hcA rfl hP1 hD1 hS1
end MP
