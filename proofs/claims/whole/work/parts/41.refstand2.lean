/-! the reference: stand, quarrels -/
theorem isC_t {j : Nat} (h : j < 64) : decide (0 ≤ (nI j).toInt ∧ (nI j).toInt < 64) = true := by
  rw [nI_toInt (by omega)]
  exact decide_eq_true ⟨by omega, by omega⟩
theorem isT_t {j m : Nat} (h : j ≤ m) (hm : m < 1000) : decide (0 ≤ (nI j).toInt ∧ (nI j).toInt ≤ (nI m).toInt) = true := by
  rw [nI_toInt (by omega), nI_toInt (by omega)]
  exact decide_eq_true ⟨by omega, by omega⟩
theorem rM_stand_unk (d : Nat) (z : mm_Z) (F : Nat → Nat → Value) (I : Nat → Nat → Int32) (L : Nat → Nat → Int64) (n : Nat) (s c t : Int32) (hz : zOK z) (h8 : n ≤ 8) (hn : F 120 0 = .int (nI n)) (h : ¬ ((0 ≤ s.toInt ∧ s.toInt < n) ∧ (0 ≤ c.toInt ∧ c.toInt < 64))) : mm_E (d + 3) mX11_stand 0 [.ref 120, .int s, .int c, .int t] [] (z, F, I, L) = some (some (.int (-2)), (z, F, I, L)) := by
  by_cases h1 : 0 ≤ s.toInt ∧ s.toInt < n
  · have h2 : ¬ (0 ≤ c.toInt ∧ c.toInt < 64) := fun q => h ⟨h1, q⟩
    have c1 : decide (0 ≤ s.toInt ∧ s.toInt < n) = true := decide_eq_true h1
    have c2 : decide (0 ≤ c.toInt ∧ c.toInt < 64) = false := decide_eq_false h2
    simp (disch := first | assumption | decide | exact zO_120 hz | exact zT_125 hz | exact zT_126 hz | exact zT_128 hz | exact zT_129 hz | exact bI_or _) only [eX11_stand_0, eX11_stand_1, eX11_stand_2, eX11_stand_5, eX11_stand_8, eX11_stand_9, eX11_stand_12, eX11_stand_15, eX11_stand_17, rM_isSweep (d := d + 1) (n := n), rM_isCell (d := d + 1), mm_bd_i, c1, c2, bI_0, Bool.true_eq_false, not_true_eq_false, if_false]
  · have c1 : decide (0 ≤ s.toInt ∧ s.toInt < n) = false := decide_eq_false h1
    simp (disch := first | assumption | decide | exact zO_120 hz | exact zT_125 hz | exact zT_126 hz | exact zT_128 hz | exact zT_129 hz | exact bI_or _) only [eX11_stand_0, eX11_stand_1, eX11_stand_2, eX11_stand_5, eX11_stand_8, eX11_stand_9, eX11_stand_12, eX11_stand_15, eX11_stand_17, rM_isSweep (d := d + 1) (n := n), mm_bd_i, c1, bI_0, if_true]
theorem rM_stand_a (d : Nat) (z : mm_Z) (F : Nat → Nat → Value) (I : Nat → Nat → Int32) (L : Nat → Nat → Int64) (n s c : Nat) (t : Int32) (hz : zOK z) (h8 : n ≤ 8) (hn : F 120 0 = .int (nI n)) (hs' : s < n) (hc : c < 64) : mm_E (d + 3) mX11_stand 0 [.ref 120, .int (nI s), .int (nI c), .int t] [] (z, F, I, L) = mm_E (d + 3) mX11_stand 18 [.ref 120, .int (nI s), .int (nI c), .int t] [] (z, F, I, L) := by
  simp (disch := first | assumption | decide | exact zO_120 hz | exact zT_125 hz | exact zT_126 hz | exact zT_128 hz | exact zT_129 hz | exact bI_or _) only [eX11_stand_0, eX11_stand_1, eX11_stand_2, eX11_stand_5, eX11_stand_8, eX11_stand_9, eX11_stand_12, eX11_stand_15, eX11_stand_17, rM_isSweep (d := d + 1) (n := n), rM_isCell (d := d + 1), mm_bd_i, isS_t hs' h8, isC_t hc, bI_0, Bool.true_eq_false, not_false_eq_true, if_true, if_false]
theorem rM_stand_out (d : Nat) (z : mm_Z) (F : Nat → Nat → Value) (I : Nat → Nat → Int32) (L : Nat → Nat → Int64) (s c : Value) (t : Int32) (h : ¬ (0 ≤ t.toInt ∧ t.toInt ≤ 3)) : mm_E (d + 3) mX11_stand 18 [.ref 120, s, c, .int t] [] (z, F, I, L) = some (some (.int (-3)), (z, F, I, L)) := by
  have e0 : (0 : Int32).toInt = 0 := rfl
  have e3 : (nI 3).toInt = 3 := rfl
  have c1 : decide (0 ≤ t.toInt ∧ t.toInt ≤ 3) = false := decide_eq_false h
  simp (disch := first | assumption | decide) only [eX11_stand_18, eX11_stand_19, eX11_stand_20, eX11_stand_21, eX11_stand_24, eX11_stand_27, eX11_stand_29, rM_in, mm_bd_i, e0, e3, c1, bI_0, not_true_eq_false, if_false]
theorem rM_stand_not (d : Nat) (z : mm_Z) (F : Nat → Nat → Value) (I : Nat → Nat → Int32) (L : Nat → Nat → Int64) (n : Nat) (hs : Nat → List (Int × Int × Nat)) (st : Nat → Option (Nat × Nat)) (hz : zOK z) (hF : FixM F) (w : wOK n hs st) (h : rmS n hs st F I) (s t : Nat) (c : Value) (hs' : s < n) (ht : t < 4) (e : ¬ st s = none) : mm_E (d + 3) mX11_stand 18 [.ref 120, .int (nI s), c, .int (nI t)] [] (z, F, I, L) = some (some (.int (-4)), (z, F, I, L)) := by
  have h8 := w.1
  have e0 : (0 : Int32).toInt = 0 := rfl
  have e1 : ¬ I 125 s = -1 := fun q => e ((rmS_st n hs st h w hs').mp q)
  have cs : (nI s).toNatClampNeg = s := nI_clamp (by omega)
  have v1 : vp_in (nI s) (mm_zl z 125) := vi (zl_125 hz) (by omega) (by decide)
  simp (disch := first | assumption | decide | exact zO_120 hz | exact zT_125 hz | exact zT_126 hz | exact zT_128 hz | exact zT_129 hz | exact bI_or _) only [eX11_stand_18, eX11_stand_19, eX11_stand_20, eX11_stand_21, eX11_stand_24, eX11_stand_27, eX11_stand_29, eX11_stand_30, eX11_stand_31, eX11_stand_34, eX11_stand_35, eX11_stand_36, eX11_stand_37, eX11_stand_40, eX11_stand_41, eX11_stand_42, eX11_stand_43, eX11_stand_44, eX11_stand_47, eX11_stand_50, eX11_stand_52, rM_in, mm_bd_i, e0, isT_t (by omega : t ≤ 3) (by decide), bI_0, Bool.true_eq_false, not_false_eq_true, if_true, fM_5 hF, cs, e1]
theorem rM_stand_bad (d : Nat) (z : mm_Z) (F : Nat → Nat → Value) (I : Nat → Nat → Int32) (L : Nat → Nat → Int64) (n : Nat) (hs : Nat → List (Int × Int × Nat)) (st : Nat → Option (Nat × Nat)) (hz : zOK z) (hF : FixM F) (w : wOK n hs st) (h : rmS n hs st F I) (s c t : Nat) (hs' : s < n) (hc : c < 64) (ht : t < 4) (e : st s = none) (ho : lOk (hs s) c t (hs s).length = false) : ∃ I', mm_E (d + 3) mX11_stand 18 [.ref 120, .int (nI s), .int (nI c), .int (nI t)] [] (z, F, I, L) = some (some (.int (-4)), (z, F, I', L)) ∧ layG I I' := by
  have h8 := w.1
  have e0 : (0 : Int32).toInt = 0 := rfl
  have e1 := (rmS_st n hs st h w hs').mpr e
  have cs : (nI s).toNatClampNeg = s := nI_clamp (by omega)
  have v1 : vp_in (nI s) (mm_zl z 125) := vi (zl_125 hz) (by omega) (by decide)
  obtain ⟨I', k1, k2, k3⟩ := rM_lay d z F L n hs st hz hF w s c t hs' hc ht I h
  refine ⟨I', ?_, k2.1⟩
  rw [ho] at k1
  simp (disch := first | assumption | decide | exact zO_120 hz | exact zT_125 hz | exact zT_126 hz | exact zT_128 hz | exact zT_129 hz | exact bI_or _) only [eX11_stand_18, eX11_stand_19, eX11_stand_20, eX11_stand_21, eX11_stand_24, eX11_stand_27, eX11_stand_29, eX11_stand_30, eX11_stand_31, eX11_stand_34, eX11_stand_35, eX11_stand_36, eX11_stand_37, eX11_stand_40, eX11_stand_41, eX11_stand_42, eX11_stand_43, eX11_stand_44, eX11_stand_47, eX11_stand_50, eX11_stand_52, rM_in, mm_bd_i, e0, isT_t (by omega : t ≤ 3) (by decide), bI_0, Bool.true_eq_false, not_false_eq_true, if_true, fM_5 hF, cs, e1, not_true_eq_false, if_false, k1]
theorem rmS_stand (n : Nat) (hs : Nat → List (Int × Int × Nat)) (st : Nat → Option (Nat × Nat)) {F : Nat → Nat → Value} {I : Nat → Nat → Int32} (h : rmS n hs st F I) (s c t : Nat) : rmS n hs (udf st s (some (c, t))) F (mm_up2 (mm_up2 I 125 s (nI c)) 126 s (nI t)) := by
  obtain ⟨h0, h1, h2, h3, h4⟩ := h
  refine ⟨h0, ?_, ?_, ?_, ?_⟩
  · intro a ha
    simp (disch := decide) only [up_r]; exact h1 a ha
  · intro a k ha hk
    simp (disch := decide) only [up_r]; exact h2 a k ha hk
  · intro a ha hn
    by_cases e : a = s
    · subst e; rw [udf_s] at hn; exact absurd hn (by simp)
    · rw [udf_n _ _ e] at hn
      rw [up_k _ _ _ _ e, up_k _ _ _ _ e]; exact h3 a ha hn
  · intro a c' t' ha hn
    by_cases e : a = s
    · subst e; rw [udf_s] at hn
      have q1 : (c, t) = (c', t') := Option.some.inj hn
      have q2 := congrArg Prod.fst q1
      have q3 := congrArg Prod.snd q1
      simp only at q2 q3
      rw [up_r _ _ _ _ (by decide), up_s, up_s, q2, q3]
      exact ⟨rfl, rfl⟩
    · rw [udf_n _ _ e] at hn
      rw [up_k _ _ _ _ e, up_k _ _ _ _ e, up_k _ _ _ _ e, up_k _ _ _ _ e]; exact h4 a c' t' ha hn
theorem wOK_stand (n : Nat) (hs : Nat → List (Int × Int × Nat)) (st : Nat → Option (Nat × Nat)) (w : wOK n hs st) (s c t : Nat) (hc : c < 64) (ht : t < 4) (ho : lOk (hs s) c t (hs s).length = true) : wOK n hs (udf st s (some (c, t))) := by
  refine ⟨w.1, ?_⟩
  intro a ha
  have g := w.2 a ha
  refine ⟨g.1, g.2.1, g.2.2.1, ?_⟩
  intro c' t' e
  by_cases q : a = s
  · subst q; rw [udf_s] at e
    have q1 : (c, t) = (c', t') := Option.some.inj e
    have q2 := congrArg Prod.fst q1
    have q3 := congrArg Prod.snd q1
    simp only at q2 q3
    subst q2; subst q3
    exact ⟨hc, ht, lOk_mem ho⟩
  · rw [udf_n _ _ q] at e; exact g.2.2.2 c' t' e
theorem rM_stand (d : Nat) (z : mm_Z) (F : Nat → Nat → Value) (I : Nat → Nat → Int32) (L : Nat → Nat → Int64) (n : Nat) (hs : Nat → List (Int × Int × Nat)) (st : Nat → Option (Nat × Nat)) (hz : zOK z) (hF : FixM F) (w : wOK n hs st) (h : rmS n hs st F I) (s c t : Nat) (hs' : s < n) (hc : c < 64) (ht : t < 4) (e : st s = none) (ho : lOk (hs s) c t (hs s).length = true) : ∃ I' I1, mm_E (d + 3) mX11_stand 18 [.ref 120, .int (nI s), .int (nI c), .int (nI t)] [] (z, F, I, L) = some (some (.int (nI (cst (udf st s (some (c, t))) n))), (z, F, I', L)) ∧ I' = mm_up2 (mm_up2 I1 125 s (nI c)) 126 s (nI t) ∧ layG I I1 ∧ rmS n hs (udf st s (some (c, t))) F I' := by
  have h8 := w.1
  have e0 : (0 : Int32).toInt = 0 := rfl
  have e1 := (rmS_st n hs st h w hs').mpr e
  have cs : (nI s).toNatClampNeg = s := nI_clamp (by omega)
  have v1 : vp_in (nI s) (mm_zl z 125) := vi (zl_125 hz) (by omega) (by decide)
  have v2 : vp_in (nI s) (mm_zl z 126) := vi (zl_126 hz) (by omega) (by decide)
  obtain ⟨I', k1, k2, k3⟩ := rM_lay d z F L n hs st hz hF w s c t hs' hc ht I h
  have hm := rmS_stand n hs st (rmS_layG n hs st h k2.1) s c t
  have hst := fun d' => rM_standing d' z F (mm_up2 (mm_up2 I' 125 s (nI c)) 126 s (nI t)) L n hs (udf st s (some (c, t))) hz hF (wOK_stand n hs st w s c t hc ht ho) hm
  refine ⟨_, I', ?_, rfl, k2.1, hm⟩
  rw [ho] at k1
  simp (disch := first | assumption | decide | exact zO_120 hz | exact zT_125 hz | exact zT_126 hz | exact zT_128 hz | exact zT_129 hz | exact bI_or _) only [eX11_stand_18, eX11_stand_19, eX11_stand_20, eX11_stand_21, eX11_stand_24, eX11_stand_27, eX11_stand_29, eX11_stand_30, eX11_stand_31, eX11_stand_34, eX11_stand_35, eX11_stand_36, eX11_stand_37, eX11_stand_40, eX11_stand_41, eX11_stand_42, eX11_stand_43, eX11_stand_44, eX11_stand_47, eX11_stand_50, eX11_stand_52, eX11_stand_53, eX11_stand_54, eX11_stand_57, eX11_stand_58, eX11_stand_59, eX11_stand_60, eX11_stand_61, eX11_stand_64, eX11_stand_65, eX11_stand_66, eX11_stand_67, eX11_stand_68, eX11_stand_71, rM_in, mm_bd_i, e0, isT_t (by omega : t ≤ 3) (by decide), bI_0, Bool.true_eq_false, not_false_eq_true, if_true, fM_5 hF, fM_6 hF, cs, e1, not_true_eq_false, if_false, k1, hst]
