/-! the reference: look -/
def exA (st : Nat → Option (Nat × Nat)) (P : Nat → Nat → Nat) (c : Nat) : Nat → Bool
  | 0 => false
  | o + 1 => exA st P c o || decide (¬ st o = none ∧ 0 < P o c)
def exU (st : Nat → Option (Nat × Nat)) (U : Nat → Nat → Bool) (c : Nat) : Nat → Bool
  | 0 => false
  | o + 1 => exU st U c o || decide (¬ st o = none ∧ U o c = true)
def rowsAll (I : Nat → Nat → Int32) (n : Nat) (st : Nat → Option (Nat × Nat)) (P : Nat → Nat → Nat) (U : Nat → Nat → Bool) : Prop := ∀ o, o < n → ¬ st o = none → rowIs I o (P o) (U o)
theorem rM_look_A (d : Nat) (z : mm_Z) (F : Nat → Nat → Value) (I : Nat → Nat → Int32) (L : Nat → Nat → Int64) (n : Nat) (hs : Nat → List (Int × Int × Nat)) (st : Nat → Option (Nat × Nat)) (hz : zOK z) (hF : FixM F) (w : wOK n hs st) (h : rmS n hs st F I) (P : Nat → Nat → Nat) (U : Nat → Nat → Bool) (hP : rowsAll I n st P U) (i c : Nat) (hi : i < n) (hc : c < 64) (b3 : Value) : mm_E d mX11_look 28 [.ref 120, .int (nI c), .int (bI (exA st P c i)), b3, .int (nI i)] [] (z, F, I, L) = mm_E d mX11_look 64 [.ref 120, .int (nI c), .int (bI (exA st P c (i + 1))), b3, .int (nI i)] [] (z, F, I, L) := by
  have h8 := w.1
  have e10 : ¬ (1 : Int32) = 0 := by decide
  have ci : (nI i).toNatClampNeg = i := nI_clamp (by omega)
  have v1 : vp_in (nI i) (mm_zl z 125) := vi (zl_125 hz) (by omega) (by decide)
  have v2 : vp_in (nI (64 * i + c)) (mm_zl z 128) := vi (zl_128 hz) (by omega) (by decide)
  have c2 : (nI (64 * i + c)).toNatClampNeg = 64 * i + c := nI_clamp (by omega)
  cases hO : exA st P c i with
  | true =>
    have t : exA st P c (i + 1) = true := by rw [exA, hO, Bool.true_or]
    simp (disch := first | assumption | decide | exact zO_120 hz | exact zT_125 hz | exact zT_127 hz | exact zT_128 hz | exact zT_129 hz | exact bI_or _) only [eX11_look_28, eX11_look_29, eX11_look_32, eX11_look_33, eX11_look_36, eX11_look_38, eX11_look_39, eX11_look_40, eX11_look_43, eX11_look_44, eX11_look_47, eX11_look_49, eX11_look_51, eX11_look_52, eX11_look_53, eX11_look_54, eX11_look_55, eX11_look_58, eX11_look_59, eX11_look_62, eX11_look_63, bI_t, e10, not_false_eq_true, if_true, t]
  | false =>
    by_cases g2 : st i = none
    · have t : exA st P c (i + 1) = false := by rw [exA, hO, Bool.false_or, decide_eq_false (fun q => q.1 g2)]
      have e2 := (rmS_st n hs st h w hi).mpr g2
      simp (disch := first | assumption | decide | exact zO_120 hz | exact zT_125 hz | exact zT_127 hz | exact zT_128 hz | exact zT_129 hz | exact bI_or _) only [eX11_look_28, eX11_look_29, eX11_look_32, eX11_look_33, eX11_look_36, eX11_look_38, eX11_look_39, eX11_look_40, eX11_look_43, eX11_look_44, eX11_look_47, eX11_look_49, eX11_look_51, eX11_look_52, eX11_look_53, eX11_look_54, eX11_look_55, eX11_look_58, eX11_look_59, eX11_look_62, eX11_look_63, if_false, bI_f, not_true_eq_false, fM_5 hF, ci, e2, if_true, t]
    · have e2 : ¬ I 125 i = -1 := fun q => g2 ((rmS_st n hs st h w hi).mp q)
      have r := hP i hi g2 c hc
      by_cases g3 : P i c = 0
      · have t : exA st P c (i + 1) = false := by rw [exA, hO, Bool.false_or, decide_eq_false (fun q => by omega)]
        have e3 := (le0_nI r.2.2).mpr g3
        simp (disch := first | assumption | decide | exact zO_120 hz | exact zT_125 hz | exact zT_127 hz | exact zT_128 hz | exact zT_129 hz | exact bI_or _) only [eX11_look_28, eX11_look_29, eX11_look_32, eX11_look_33, eX11_look_36, eX11_look_38, eX11_look_39, eX11_look_40, eX11_look_43, eX11_look_44, eX11_look_47, eX11_look_49, eX11_look_51, eX11_look_52, eX11_look_53, eX11_look_54, eX11_look_55, eX11_look_58, eX11_look_59, eX11_look_62, eX11_look_63, if_false, bI_f, not_true_eq_false, fM_5 hF, fM_11 hF, ci, e2, pk_mul, nI_add, c2, r.1, e3, if_true, t]
      · have t : exA st P c (i + 1) = true := by rw [exA, hO, Bool.false_or, decide_eq_true ⟨g2, by omega⟩]
        have e3 : ¬ nI (P i c) ≤ 0 := fun q => g3 ((le0_nI r.2.2).mp q)
        simp (disch := first | assumption | decide | exact zO_120 hz | exact zT_125 hz | exact zT_127 hz | exact zT_128 hz | exact zT_129 hz | exact bI_or _) only [eX11_look_28, eX11_look_29, eX11_look_32, eX11_look_33, eX11_look_36, eX11_look_38, eX11_look_39, eX11_look_40, eX11_look_43, eX11_look_44, eX11_look_47, eX11_look_49, eX11_look_51, eX11_look_52, eX11_look_53, eX11_look_54, eX11_look_55, eX11_look_58, eX11_look_59, eX11_look_62, eX11_look_63, if_false, bI_f, bI_t, not_true_eq_false, fM_5 hF, fM_11 hF, ci, e2, pk_mul, nI_add, c2, r.1, e3, t]
theorem rM_look_B (d : Nat) (z : mm_Z) (F : Nat → Nat → Value) (I : Nat → Nat → Int32) (L : Nat → Nat → Int64) (n : Nat) (hs : Nat → List (Int × Int × Nat)) (st : Nat → Option (Nat × Nat)) (hz : zOK z) (hF : FixM F) (w : wOK n hs st) (h : rmS n hs st F I) (P : Nat → Nat → Nat) (U : Nat → Nat → Bool) (hP : rowsAll I n st P U) (i c : Nat) (hi : i < n) (hc : c < 64) (b2 : Value) : mm_E d mX11_look 64 [.ref 120, .int (nI c), b2, .int (bI (exU st U c i)), .int (nI i)] [] (z, F, I, L) = mm_E d mX11_look 19 [.ref 120, .int (nI c), b2, .int (bI (exU st U c (i + 1))), .int (nI (i + 1))] [] (z, F, I, L) := by
  have h8 := w.1
  have e10 : ¬ (1 : Int32) = 0 := by decide
  have ci : (nI i).toNatClampNeg = i := nI_clamp (by omega)
  have v1 : vp_in (nI i) (mm_zl z 125) := vi (zl_125 hz) (by omega) (by decide)
  have v2 : vp_in (nI (64 * i + c)) (mm_zl z 129) := vi (zl_129 hz) (by omega) (by decide)
  have c2 : (nI (64 * i + c)).toNatClampNeg = 64 * i + c := nI_clamp (by omega)
  cases hO : exU st U c i with
  | true =>
    have t : exU st U c (i + 1) = true := by rw [exU, hO, Bool.true_or]
    simp (disch := first | assumption | decide | exact zO_120 hz | exact zT_125 hz | exact zT_127 hz | exact zT_128 hz | exact zT_129 hz | exact bI_or _) only [eX11_look_64, eX11_look_65, eX11_look_68, eX11_look_69, eX11_look_72, eX11_look_74, eX11_look_75, eX11_look_76, eX11_look_79, eX11_look_80, eX11_look_83, eX11_look_85, eX11_look_87, eX11_look_88, eX11_look_89, eX11_look_90, eX11_look_91, eX11_look_92, eX11_look_95, eX11_look_96, eX11_look_99, eX11_look_100, eX11_look_101, eX11_look_104, bI_t, e10, not_false_eq_true, if_true, t, nI_1]
  | false =>
    by_cases g2 : st i = none
    · have t : exU st U c (i + 1) = false := by rw [exU, hO, Bool.false_or, decide_eq_false (fun q => q.1 g2)]
      have e2 := (rmS_st n hs st h w hi).mpr g2
      simp (disch := first | assumption | decide | exact zO_120 hz | exact zT_125 hz | exact zT_127 hz | exact zT_128 hz | exact zT_129 hz | exact bI_or _) only [eX11_look_64, eX11_look_65, eX11_look_68, eX11_look_69, eX11_look_72, eX11_look_74, eX11_look_75, eX11_look_76, eX11_look_79, eX11_look_80, eX11_look_83, eX11_look_85, eX11_look_87, eX11_look_88, eX11_look_89, eX11_look_90, eX11_look_91, eX11_look_92, eX11_look_95, eX11_look_96, eX11_look_99, eX11_look_100, eX11_look_101, eX11_look_104, if_false, bI_f, not_true_eq_false, fM_5 hF, ci, e2, if_true, t, nI_1]
    · have e2 : ¬ I 125 i = -1 := fun q => g2 ((rmS_st n hs st h w hi).mp q)
      have r := hP i hi g2 c hc
      by_cases g3 : U i c = true
      · have t : exU st U c (i + 1) = true := by rw [exU, hO, Bool.false_or, decide_eq_true ⟨g2, g3⟩]
        have e3 := (bI_1 _).mpr g3
        simp (disch := first | assumption | decide | exact zO_120 hz | exact zT_125 hz | exact zT_127 hz | exact zT_128 hz | exact zT_129 hz | exact bI_or _) only [eX11_look_64, eX11_look_65, eX11_look_68, eX11_look_69, eX11_look_72, eX11_look_74, eX11_look_75, eX11_look_76, eX11_look_79, eX11_look_80, eX11_look_83, eX11_look_85, eX11_look_87, eX11_look_88, eX11_look_89, eX11_look_90, eX11_look_91, eX11_look_92, eX11_look_95, eX11_look_96, eX11_look_99, eX11_look_100, eX11_look_101, eX11_look_104, if_false, bI_f, bI_t, not_true_eq_false, fM_5 hF, fM_12 hF, ci, e2, pk_mul, nI_add, c2, r.2.1, e3, t, nI_1]
      · have t : exU st U c (i + 1) = false := by rw [exU, hO, Bool.false_or, decide_eq_false (fun q => g3 q.2)]
        have e3 : ¬ bI (U i c) = 1 := fun q => g3 ((bI_1 _).mp q)
        simp (disch := first | assumption | decide | exact zO_120 hz | exact zT_125 hz | exact zT_127 hz | exact zT_128 hz | exact zT_129 hz | exact bI_or _) only [eX11_look_64, eX11_look_65, eX11_look_68, eX11_look_69, eX11_look_72, eX11_look_74, eX11_look_75, eX11_look_76, eX11_look_79, eX11_look_80, eX11_look_83, eX11_look_85, eX11_look_87, eX11_look_88, eX11_look_89, eX11_look_90, eX11_look_91, eX11_look_92, eX11_look_95, eX11_look_96, eX11_look_99, eX11_look_100, eX11_look_101, eX11_look_104, if_false, bI_f, not_true_eq_false, fM_5 hF, fM_12 hF, ci, e2, pk_mul, nI_add, c2, r.2.1, e3, not_false_eq_true, if_true, t, nI_1]
theorem rM_look_in (d : Nat) (z : mm_Z) (F : Nat → Nat → Value) (I : Nat → Nat → Int32) (L : Nat → Nat → Int64) (n : Nat) (hs : Nat → List (Int × Int × Nat)) (st : Nat → Option (Nat × Nat)) (hz : zOK z) (hF : FixM F) (w : wOK n hs st) (h : rmS n hs st F I) (P : Nat → Nat → Nat) (U : Nat → Nat → Bool) (hP : rowsAll I n st P U) (c : Nat) (hc : c < 64) : ∀ k i, i + k = n → mm_E d mX11_look 19 [.ref 120, .int (nI c), .int (bI (exA st P c i)), .int (bI (exU st U c i)), .int (nI i)] [] (z, F, I, L) = mm_E d mX11_look 107 [.ref 120, .int (nI c), .int (bI (exA st P c n)), .int (bI (exU st U c n)), .int (nI n)] [] (z, F, I, L) := by
  have h8 := w.1
  have hn := h.1
  intro k
  induction k with
  | zero =>
    intro i hi
    have e : i = n := by omega
    subst e
    rw [eX11_look_19]
    simp (disch := first | assumption | decide | exact zO_120 hz | exact zT_125 hz | exact zT_127 hz | exact zT_128 hz | exact zT_129 hz | exact bI_or _) only [eX11_look_21, eX11_look_22, eX11_look_25, hn, nI_le (Nat.le_refl i) (by omega), if_true]
  | succ k ih =>
    intro i hi
    have h1 : ¬ nI n ≤ nI i := nI_ge (by omega) (by omega)
    rw [← ih (i + 1) (by omega), eX11_look_19]
    simp (disch := first | assumption | decide | exact zO_120 hz | exact zT_125 hz | exact zT_127 hz | exact zT_128 hz | exact zT_129 hz | exact bI_or _) only [eX11_look_21, eX11_look_22, eX11_look_25, hn, h1, if_false]
    rw [rM_look_A d z F I L n hs st hz hF w h P U hP i c (by omega) hc, rM_look_B d z F I L n hs st hz hF w h P U hP i c (by omega) hc]
/-- only the rows 127, 128 and 129 have changed -/
def lookG (I0 I : Nat → Nat → Int32) : Prop := ∀ r, ¬ r = 127 → ¬ r = 128 → ¬ r = 129 → I r = I0 r
theorem lookG_trans {I0 I I' : Nat → Nat → Int32} (h : lookG I0 I) (h' : lookG I I') : lookG I0 I' := fun r a b c => (h' r a b c).trans (h r a b c)
theorem lookG_lay {I0 I : Nat → Nat → Int32} (h : layG I0 I) : lookG I0 I := fun r _ b c => h r b c
theorem rmS_lookG (n : Nat) (hs : Nat → List (Int × Int × Nat)) (st : Nat → Option (Nat × Nat)) {F : Nat → Nat → Value} {I0 I : Nat → Nat → Int32} (h : rmS n hs st F I0) (hf : lookG I0 I) : rmS n hs st F I :=
  rmS_congr n hs st h rfl (hf _ (by decide) (by decide) (by decide)) (hf _ (by decide) (by decide) (by decide)) (hf _ (by decide) (by decide) (by decide)) (hf _ (by decide) (by decide) (by decide)) (hf _ (by decide) (by decide) (by decide)) (hf _ (by decide) (by decide) (by decide))
/-- what is known of a cell: 2 for a hit and 1 for a beam -/
def kd (n : Nat) (hs : Nat → List (Int × Int × Nat)) (st : Nat → Option (Nat × Nat)) (c : Nat) : Nat := (if exA st (sH hs st) c n = true then 2 else 0) + (if exU st (sB hs st) c n = true then 1 else 0)
theorem rM_look_l (d : Nat) (z : mm_Z) (F : Nat → Nat → Value) (L : Nat → Nat → Int64) (n : Nat) (hs : Nat → List (Int × Int × Nat)) (st : Nat → Option (Nat × Nat)) (hz : zOK z) (hF : FixM F) (w : wOK n hs st) : ∀ k i I, i + k = 64 → rmS n hs st F I → rowsAll I n st (sH hs st) (sB hs st) → (∀ c, c < i → I 127 c = nI (kd n hs st c)) → ∀ a2 a3 a4 : Value, ∃ I', mm_E d mX11_look 6 [.ref 120, .int (nI i), a2, a3, a4] [] (z, F, I, L) = some (none, (z, F, I', L)) ∧ lookG I I' ∧ ∀ c, c < 64 → I' 127 c = nI (kd n hs st c) := by
  have e10 : ¬ (1 : Int32) = 0 := by decide
  intro k
  induction k with
  | zero =>
    intro i I hi h hP hk a2 a3 a4
    have e : i = 64 := by omega
    subst e
    refine ⟨I, ?_, fun _ _ _ _ => rfl, hk⟩
    rw [eX11_look_6]
    simp (disch := first | assumption | decide | exact zO_120 hz | exact zT_125 hz | exact zT_127 hz | exact zT_128 hz | exact zT_129 hz | exact bI_or _) only [eX11_look_7, eX11_look_9, eX11_look_138, nI_le (Nat.le_refl 64) (by decide), if_true]
  | succ k ih =>
    intro i I hi h hP hk a2 a3 a4
    have h1 : ¬ nI 64 ≤ nI i := nI_ge (by omega) (by decide)
    have ci : (nI i).toNatClampNeg = i := nI_clamp (by omega)
    have v1 : vp_in (nI i) (mm_zl z 127) := vi (zl_127 hz) (by omega) (by decide)
    have inn := rM_look_in d z F I L n hs st hz hF w h (sH hs st) (sB hs st) hP i (by omega) n 0 (by omega)
    have n0 : nI 0 = 0 := rfl
    have x0 : exA st (sH hs st) i 0 = false := rfl
    have x1 : exU st (sB hs st) i 0 = false := rfl
    rw [n0, x0, x1, bI_f] at inn
    have up : lookG I (mm_up2 I 127 i (nI (kd n hs st i))) := fun r a _ _ => up_row _ _ _ a
    obtain ⟨I', g1, g2, g3⟩ := ih (i + 1) (mm_up2 I 127 i (nI (kd n hs st i))) (by omega) (rmS_lookG n hs st h up) (by
      intro o ho g a ha
      rw [up_r _ _ _ _ (by decide), up_r _ _ _ _ (by decide)]
      exact hP o ho g a ha) (by
      intro c hc
      by_cases e : c = i
      · subst e; rw [up_s]
      · rw [up_k _ _ _ _ e]; exact hk c (by omega)) (.int (bI (exA st (sH hs st) i n))) (.int (bI (exU st (sB hs st) i n))) (.int (nI n))
    refine ⟨I', ?_, lookG_trans up g2, g3⟩
    rw [← g1, eX11_look_6]
    simp (disch := first | assumption | decide | exact zO_120 hz | exact zT_125 hz | exact zT_127 hz | exact zT_128 hz | exact zT_129 hz | exact bI_or _) only [eX11_look_7, eX11_look_9, eX11_look_12, eX11_look_13, eX11_look_14, eX11_look_15, eX11_look_16, eX11_look_17, h1, if_false]
    rw [inn]
    have s2 : nI 2 + 1 = nI 3 := by decide
    have s0 : (0 : Int32) + 1 = nI 1 := by decide
    have s1 : nI 2 + 0 = nI 2 := by decide
    have s3 : (0 : Int32) + 0 = nI 0 := by decide
    cases ea : exA st (sH hs st) i n <;> cases eb : exU st (sB hs st) i n <;>
    · have t : kd n hs st i = (if exA st (sH hs st) i n = true then 2 else 0) + (if exU st (sB hs st) i n = true then 1 else 0) := rfl
      rw [ea, eb] at t
      simp only [Bool.false_eq_true, if_true, if_false] at t
      simp (disch := first | assumption | decide | exact zO_120 hz | exact zT_125 hz | exact zT_127 hz | exact zT_128 hz | exact zT_129 hz | exact bI_or _) only [eX11_look_107, eX11_look_108, eX11_look_111, eX11_look_112, eX11_look_113, eX11_look_116, eX11_look_117, eX11_look_120, eX11_look_121, eX11_look_122, eX11_look_125, eX11_look_126, eX11_look_129, eX11_look_130, eX11_look_131, eX11_look_132, eX11_look_135, fM_10 hF, bI_t, bI_f, e10, if_true, if_false, ci, s0, s1, s2, s3, t, nI_1]
theorem rM_look (d : Nat) (z : mm_Z) (F : Nat → Nat → Value) (I : Nat → Nat → Int32) (L : Nat → Nat → Int64) (n : Nat) (hs : Nat → List (Int × Int × Nat)) (st : Nat → Option (Nat × Nat)) (hz : zOK z) (hF : FixM F) (w : wOK n hs st) (h : rmS n hs st F I) : ∃ I', mm_E (d + 4) mX11_look 0 [.ref 120, uu, uu, uu, uu] [] (z, F, I, L) = some (none, (z, F, I', L)) ∧ lookG I I' ∧ ∀ c, c < 64 → I' 127 c = nI (kd n hs st c) := by
  obtain ⟨I1, j1, j2, j3⟩ := rM_layAll d z F L n hs st hz hF w I h
  obtain ⟨I', g1, g2, g3⟩ := rM_look_l (d + 4) z F L n hs st hz hF w 64 0 I1 (by omega) (rmS_layG n hs st h j2) (fun o ho g => laid_row n hs st w j3 ho g) (fun c hc => absurd hc (by omega)) uu uu uu
  refine ⟨I', ?_, lookG_trans (lookG_lay j2) g2, g3⟩
  rw [← g1]
  simp (disch := first | assumption | decide | exact zO_120 hz | exact zT_125 hz | exact zT_127 hz | exact zT_128 hz | exact zT_129 hz | exact bI_or _) only [eX11_look_0, eX11_look_1, eX11_look_4, eX11_look_5, j1, mm_bd_v]
  rfl
