/-! the reference: lead -/
theorem rM_lead_unk (d : Nat) (z : mm_Z) (F : Nat → Nat → Value) (I : Nat → Nat → Int32) (L : Nat → Nat → Int64) (c a : Int32) (h : ¬ (0 ≤ c.toInt ∧ c.toInt < 64)) : mm_E (d + 4) mX11_lead 0 [.ref 120, .int c, .int a, uu, uu, uu] [] (z, F, I, L) = some (some (.int (-2)), (z, F, I, L)) := by
  have c2 : decide (0 ≤ c.toInt ∧ c.toInt < 64) = false := decide_eq_false h
  simp (disch := first | assumption | decide) only [eX11_lead_0, eX11_lead_1, eX11_lead_4, eX11_lead_7, eX11_lead_9, rM_isCell (d := d + 2), mm_bd_i, c2, bI_0, not_true_eq_false, if_false]
theorem rM_lead_out (d : Nat) (z : mm_Z) (F : Nat → Nat → Value) (I : Nat → Nat → Int32) (L : Nat → Nat → Int64) (c : Nat) (a : Int32) (hc : c < 64) (h : ¬ (0 ≤ a.toInt ∧ a.toInt ≤ 1)) : mm_E (d + 4) mX11_lead 0 [.ref 120, .int (nI c), .int a, uu, uu, uu] [] (z, F, I, L) = some (some (.int (-3)), (z, F, I, L)) := by
  have e0 : (0 : Int32).toInt = 0 := rfl
  have e1 : (1 : Int32).toInt = 1 := rfl
  have c2 : decide (0 ≤ a.toInt ∧ a.toInt ≤ 1) = false := decide_eq_false h
  simp (disch := first | assumption | decide) only [eX11_lead_0, eX11_lead_1, eX11_lead_4, eX11_lead_7, eX11_lead_9, eX11_lead_10, eX11_lead_11, eX11_lead_12, eX11_lead_13, eX11_lead_16, eX11_lead_19, eX11_lead_21, rM_isCell (d := d + 2), rM_in, mm_bd_i, isC_t hc, e0, e1, c2, bI_0, Bool.true_eq_false, not_false_eq_true, if_true, not_true_eq_false, if_false]
def leadO (hs : Nat → List (Int × Int × Nat)) (st : Nat → Option (Nat × Nat)) (a c o : Nat) : Bool := decide (¬ st o = none ∧ (if a = 0 then 0 < sH hs st o c else sB hs st o c = true))
theorem rM_lead_l (d : Nat) (z : mm_Z) (F : Nat → Nat → Value) (I : Nat → Nat → Int32) (L : Nat → Nat → Int64) (n : Nat) (hs : Nat → List (Int × Int × Nat)) (st : Nat → Option (Nat × Nat)) (hz : zOK z) (hF : FixM F) (w : wOK n hs st) (h : rmS n hs st F I) (a c : Nat) (ha : a < 2) (hc : c < 64) (hP : rowsAll I n st (sH hs st) (sB hs st)) : ∀ k i, i + k = n → ∀ a5 : Value, mm_E d mX11_lead 31 [.ref 120, .int (nI c), .int (nI a), .int (orT (leadO hs st a c) i), .int (nI i), a5] [] (z, F, I, L) = some (some (.int (orT (leadO hs st a c) n)), (z, F, I, L)) := by
  have h8 := w.1
  have hn := h.1
  have e10 : ¬ (1 : Int32) = 0 := by decide
  intro k
  induction k with
  | zero =>
    intro i hi a5
    have e : i = n := by omega
    subst e
    rw [eX11_lead_31]
    simp (disch := first | assumption | decide | exact zO_120 hz | exact zT_125 hz | exact zT_127 hz | exact zT_128 hz | exact zT_129 hz | exact bI_or _) only [eX11_lead_33, eX11_lead_34, eX11_lead_37, eX11_lead_123, eX11_lead_124, hn, nI_le (Nat.le_refl i) (by omega), if_true]
  | succ k ih =>
    intro i hi a5
    have h1 : ¬ nI n ≤ nI i := nI_ge (by omega) (by omega)
    have ci : (nI i).toNatClampNeg = i := nI_clamp (by omega)
    have v1 : vp_in (nI i) (mm_zl z 125) := vi (zl_125 hz) (by omega) (by decide)
    have v2 : vp_in (nI (64 * i + c)) (mm_zl z 128) := vi (zl_128 hz) (by omega) (by decide)
    have v3 : vp_in (nI (64 * i + c)) (mm_zl z 129) := vi (zl_129 hz) (by omega) (by decide)
    have c2 : (nI (64 * i + c)).toNatClampNeg = 64 * i + c := nI_clamp (by omega)
    have hd : a = 0 ∨ a = 1 := by omega
    rw [eX11_lead_31]
    rcases hd with rfl | rfl
    · have e3 : (nI 0 = 0) = True := by decide
      by_cases g3 : I 128 (64 * i + c) ≤ 0
      · have t : leadO hs st 0 c i = false := by
          refine decide_eq_false (fun q => ?_)
          have r := hP i (by omega) q.1 c hc
          rw [r.1, le0_nI r.2.2] at g3
          have q2 := q.2
          simp only [if_true] at q2
          omega
        rw [← ih (i + 1) (by omega) (.int 0), orT]
        simp (disch := first | assumption | decide | exact zO_120 hz | exact zT_125 hz | exact zT_127 hz | exact zT_128 hz | exact zT_129 hz | exact bI_or _) only [eX11_lead_33, eX11_lead_34, eX11_lead_37, eX11_lead_40, eX11_lead_41, eX11_lead_44, eX11_lead_45, eX11_lead_48, eX11_lead_50, eX11_lead_52, eX11_lead_53, eX11_lead_54, eX11_lead_55, eX11_lead_56, eX11_lead_59, eX11_lead_60, eX11_lead_63, eX11_lead_64, eX11_lead_67, eX11_lead_68, eX11_lead_71, eX11_lead_73, eX11_lead_75, eX11_lead_76, eX11_lead_77, eX11_lead_78, eX11_lead_79, eX11_lead_80, eX11_lead_83, eX11_lead_84, eX11_lead_87, eX11_lead_88, eX11_lead_90, eX11_lead_91, eX11_lead_93, eX11_lead_96, eX11_lead_97, eX11_lead_100, eX11_lead_102, eX11_lead_103, eX11_lead_104, eX11_lead_107, eX11_lead_108, eX11_lead_110, eX11_lead_111, eX11_lead_114, eX11_lead_115, eX11_lead_116, eX11_lead_117, eX11_lead_120, hn, h1, if_false, e3, not_true_eq_false, fM_11 hF, pk_mul, nI_add, c2, g3, if_true, t, Bool.false_eq_true, nI_1]
      · rw [← ih (i + 1) (by omega) (.int 1), orT]
        by_cases g2 : st i = none
        · have t : leadO hs st 0 c i = false := decide_eq_false (fun q => q.1 g2)
          have e2 := (rmS_st n hs st h w (by omega : i < n)).mpr g2
          simp (disch := first | assumption | decide | exact zO_120 hz | exact zT_125 hz | exact zT_127 hz | exact zT_128 hz | exact zT_129 hz | exact bI_or _) only [eX11_lead_33, eX11_lead_34, eX11_lead_37, eX11_lead_40, eX11_lead_41, eX11_lead_44, eX11_lead_45, eX11_lead_48, eX11_lead_50, eX11_lead_52, eX11_lead_53, eX11_lead_54, eX11_lead_55, eX11_lead_56, eX11_lead_59, eX11_lead_60, eX11_lead_63, eX11_lead_64, eX11_lead_67, eX11_lead_68, eX11_lead_71, eX11_lead_73, eX11_lead_75, eX11_lead_76, eX11_lead_77, eX11_lead_78, eX11_lead_79, eX11_lead_80, eX11_lead_83, eX11_lead_84, eX11_lead_87, eX11_lead_88, eX11_lead_90, eX11_lead_91, eX11_lead_93, eX11_lead_96, eX11_lead_97, eX11_lead_100, eX11_lead_102, eX11_lead_103, eX11_lead_104, eX11_lead_107, eX11_lead_108, eX11_lead_110, eX11_lead_111, eX11_lead_114, eX11_lead_115, eX11_lead_116, eX11_lead_117, eX11_lead_120, hn, h1, if_false, e3, not_true_eq_false, fM_11 hF, fM_5 hF, pk_mul, nI_add, c2, g3, e10, ci, e2, if_true, t, Bool.false_eq_true, nI_1]
        · have e2 : ¬ I 125 i = -1 := fun q => g2 ((rmS_st n hs st h w (by omega : i < n)).mp q)
          have r := hP i (by omega) g2 c hc
          have g4 : ¬ sH hs st i c = 0 := fun q => g3 (by rw [r.1, le0_nI r.2.2]; exact q)
          have t : leadO hs st 0 c i = true := decide_eq_true ⟨g2, by simp only [if_true]; omega⟩
          simp (disch := first | assumption | decide | exact zO_120 hz | exact zT_125 hz | exact zT_127 hz | exact zT_128 hz | exact zT_129 hz | exact bI_or _) only [eX11_lead_33, eX11_lead_34, eX11_lead_37, eX11_lead_40, eX11_lead_41, eX11_lead_44, eX11_lead_45, eX11_lead_48, eX11_lead_50, eX11_lead_52, eX11_lead_53, eX11_lead_54, eX11_lead_55, eX11_lead_56, eX11_lead_59, eX11_lead_60, eX11_lead_63, eX11_lead_64, eX11_lead_67, eX11_lead_68, eX11_lead_71, eX11_lead_73, eX11_lead_75, eX11_lead_76, eX11_lead_77, eX11_lead_78, eX11_lead_79, eX11_lead_80, eX11_lead_83, eX11_lead_84, eX11_lead_87, eX11_lead_88, eX11_lead_90, eX11_lead_91, eX11_lead_93, eX11_lead_96, eX11_lead_97, eX11_lead_100, eX11_lead_102, eX11_lead_103, eX11_lead_104, eX11_lead_107, eX11_lead_108, eX11_lead_110, eX11_lead_111, eX11_lead_114, eX11_lead_115, eX11_lead_116, eX11_lead_117, eX11_lead_120, hn, h1, if_false, e3, not_true_eq_false, fM_11 hF, fM_5 hF, pk_mul, nI_add, c2, g3, e10, ci, e2, if_true, t, nI_1]
    · have e3 : ¬ nI 1 = 0 := by decide
      by_cases g3 : I 129 (64 * i + c) = 1
      · rw [← ih (i + 1) (by omega) (.int 1), orT]
        by_cases g2 : st i = none
        · have t : leadO hs st 1 c i = false := decide_eq_false (fun q => q.1 g2)
          have e2 := (rmS_st n hs st h w (by omega : i < n)).mpr g2
          simp (disch := first | assumption | decide | exact zO_120 hz | exact zT_125 hz | exact zT_127 hz | exact zT_128 hz | exact zT_129 hz | exact bI_or _) only [eX11_lead_33, eX11_lead_34, eX11_lead_37, eX11_lead_40, eX11_lead_41, eX11_lead_44, eX11_lead_45, eX11_lead_48, eX11_lead_50, eX11_lead_52, eX11_lead_53, eX11_lead_54, eX11_lead_55, eX11_lead_56, eX11_lead_59, eX11_lead_60, eX11_lead_63, eX11_lead_64, eX11_lead_67, eX11_lead_68, eX11_lead_71, eX11_lead_73, eX11_lead_75, eX11_lead_76, eX11_lead_77, eX11_lead_78, eX11_lead_79, eX11_lead_80, eX11_lead_83, eX11_lead_84, eX11_lead_87, eX11_lead_88, eX11_lead_90, eX11_lead_91, eX11_lead_93, eX11_lead_96, eX11_lead_97, eX11_lead_100, eX11_lead_102, eX11_lead_103, eX11_lead_104, eX11_lead_107, eX11_lead_108, eX11_lead_110, eX11_lead_111, eX11_lead_114, eX11_lead_115, eX11_lead_116, eX11_lead_117, eX11_lead_120, hn, h1, if_false, e3, not_false_eq_true, not_true_eq_false, fM_12 hF, fM_5 hF, pk_mul, nI_add, c2, g3, e10, ci, e2, if_true, t, Bool.false_eq_true, nI_1]
        · have e2 : ¬ I 125 i = -1 := fun q => g2 ((rmS_st n hs st h w (by omega : i < n)).mp q)
          have r := hP i (by omega) g2 c hc
          have g4 : sB hs st i c = true := by rw [r.2.1, bI_1] at g3; exact g3
          have t : leadO hs st 1 c i = true := decide_eq_true ⟨g2, g4⟩
          simp (disch := first | assumption | decide | exact zO_120 hz | exact zT_125 hz | exact zT_127 hz | exact zT_128 hz | exact zT_129 hz | exact bI_or _) only [eX11_lead_33, eX11_lead_34, eX11_lead_37, eX11_lead_40, eX11_lead_41, eX11_lead_44, eX11_lead_45, eX11_lead_48, eX11_lead_50, eX11_lead_52, eX11_lead_53, eX11_lead_54, eX11_lead_55, eX11_lead_56, eX11_lead_59, eX11_lead_60, eX11_lead_63, eX11_lead_64, eX11_lead_67, eX11_lead_68, eX11_lead_71, eX11_lead_73, eX11_lead_75, eX11_lead_76, eX11_lead_77, eX11_lead_78, eX11_lead_79, eX11_lead_80, eX11_lead_83, eX11_lead_84, eX11_lead_87, eX11_lead_88, eX11_lead_90, eX11_lead_91, eX11_lead_93, eX11_lead_96, eX11_lead_97, eX11_lead_100, eX11_lead_102, eX11_lead_103, eX11_lead_104, eX11_lead_107, eX11_lead_108, eX11_lead_110, eX11_lead_111, eX11_lead_114, eX11_lead_115, eX11_lead_116, eX11_lead_117, eX11_lead_120, hn, h1, if_false, e3, not_false_eq_true, not_true_eq_false, fM_12 hF, fM_5 hF, pk_mul, nI_add, c2, g3, e10, ci, e2, if_true, t, nI_1]
      · have t : leadO hs st 1 c i = false := by
          refine decide_eq_false (fun q => ?_)
          have r := hP i (by omega) q.1 c hc
          rw [r.2.1, bI_1] at g3
          exact g3 q.2
        rw [← ih (i + 1) (by omega) (.int 0), orT]
        simp (disch := first | assumption | decide | exact zO_120 hz | exact zT_125 hz | exact zT_127 hz | exact zT_128 hz | exact zT_129 hz | exact bI_or _) only [eX11_lead_33, eX11_lead_34, eX11_lead_37, eX11_lead_40, eX11_lead_41, eX11_lead_44, eX11_lead_45, eX11_lead_48, eX11_lead_50, eX11_lead_52, eX11_lead_53, eX11_lead_54, eX11_lead_55, eX11_lead_56, eX11_lead_59, eX11_lead_60, eX11_lead_63, eX11_lead_64, eX11_lead_67, eX11_lead_68, eX11_lead_71, eX11_lead_73, eX11_lead_75, eX11_lead_76, eX11_lead_77, eX11_lead_78, eX11_lead_79, eX11_lead_80, eX11_lead_83, eX11_lead_84, eX11_lead_87, eX11_lead_88, eX11_lead_90, eX11_lead_91, eX11_lead_93, eX11_lead_96, eX11_lead_97, eX11_lead_100, eX11_lead_102, eX11_lead_103, eX11_lead_104, eX11_lead_107, eX11_lead_108, eX11_lead_110, eX11_lead_111, eX11_lead_114, eX11_lead_115, eX11_lead_116, eX11_lead_117, eX11_lead_120, hn, h1, if_false, e3, not_false_eq_true, fM_12 hF, pk_mul, nI_add, c2, g3, if_true, t, Bool.false_eq_true, nI_1]
theorem rM_lead (d : Nat) (z : mm_Z) (F : Nat → Nat → Value) (I : Nat → Nat → Int32) (L : Nat → Nat → Int64) (n : Nat) (hs : Nat → List (Int × Int × Nat)) (st : Nat → Option (Nat × Nat)) (hz : zOK z) (hF : FixM F) (w : wOK n hs st) (h : rmS n hs st F I) (a c : Nat) (ha : a < 2) (hc : c < 64) : ∃ I', mm_E (d + 4) mX11_lead 0 [.ref 120, .int (nI c), .int (nI a), uu, uu, uu] [] (z, F, I, L) = some (some (.int (orT (leadO hs st a c) n)), (z, F, I', L)) ∧ layG I I' := by
  obtain ⟨I1, j1, j2, j3⟩ := rM_layAll d z F L n hs st hz hF w I h
  have e0 : (0 : Int32).toInt = 0 := rfl
  have e1 : (1 : Int32).toInt = (nI 1).toInt := rfl
  refine ⟨I1, ?_, j2⟩
  rw [← rM_lead_l (d + 4) z F I1 L n hs st hz hF w (rmS_layG n hs st h j2) a c ha hc (fun o ho g => laid_row n hs st w j3 ho g) n 0 (by omega) uu]
  simp (disch := first | assumption | decide | exact zO_120 hz | exact zT_125 hz | exact zT_127 hz | exact zT_128 hz | exact zT_129 hz | exact bI_or _) only [eX11_lead_0, eX11_lead_1, eX11_lead_4, eX11_lead_7, eX11_lead_9, eX11_lead_10, eX11_lead_11, eX11_lead_12, eX11_lead_13, eX11_lead_16, eX11_lead_19, eX11_lead_21, eX11_lead_22, eX11_lead_23, eX11_lead_26, eX11_lead_27, eX11_lead_28, eX11_lead_29, rM_isCell (d := d + 2), rM_in, mm_bd_i, isC_t hc, e0, e1, isT_t (by omega : a ≤ 1) (by decide), bI_0, Bool.true_eq_false, not_false_eq_true, if_true, j1, mm_bd_v]
  rfl
