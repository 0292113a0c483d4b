/-! the reference: catches, quarrelsOf -/
/-- the rows of all that stand (but s) -/
def rowsBut (I : Nat → Nat → Int32) (n s : Nat) (st : Nat → Option (Nat × Nat)) (P : Nat → Nat → Nat) (U : Nat → Nat → Bool) : Prop := ∀ o, o < n → ¬ o = s → ¬ st o = none → rowIs I o (P o) (U o)
def exO (st : Nat → Option (Nat × Nat)) (P : Nat → Nat → Nat) (s c : Nat) : Nat → Bool
  | 0 => false
  | o + 1 => exO st P s c o || decide (¬ o = s ∧ ¬ st o = none ∧ 0 < P o c)
theorem rM_catch_in (d : Nat) (z : mm_Z) (F : Nat → Nat → Value) (I : Nat → Nat → Int32) (L : Nat → Nat → Int64) (n : Nat) (hs : Nat → List (Int × Int × Nat)) (st : Nat → Option (Nat × Nat)) (hz : zOK z) (hF : FixM F) (w : wOK n hs st) (h : rmS n hs st F I) (s c : Nat) (hs' : s < 8) (hc : c < 64) (P : Nat → Nat → Nat) (U : Nat → Nat → Bool) (hP : rowsBut I n s st P U) (b2 : Value) : ∀ k i, i + k = n → mm_E d mX11_catches 16 [.ref 120, .int (nI s), b2, .int (nI c), .int (bI (exO st P s c i)), .int (nI i)] [] (z, F, I, L) = mm_E d mX11_catches 75 [.ref 120, .int (nI s), b2, .int (nI c), .int (bI (exO st P s c n)), .int (nI n)] [] (z, F, I, L) := by
  have h8 := w.1
  have hn := h.1
  have e10 : ¬ (1 : Int32) = 0 := by decide
  intro k
  induction k with
  | zero =>
    intro i hi
    have e : i = n := by omega
    subst e
    rw [eX11_catches_16]
    simp (disch := first | assumption | decide | exact zO_120 hz | exact zT_125 hz | exact zT_128 hz | exact zT_129 hz | exact bI_or _) only [eX11_catches_18, eX11_catches_19, eX11_catches_22, hn, nI_le (Nat.le_refl i) (by omega), if_true]
  | succ k ih =>
    intro i hi
    have h1 : ¬ nI n ≤ nI i := nI_ge (by omega) (by omega)
    have ci : (nI i).toNatClampNeg = i := nI_clamp (by omega)
    have v1 : vp_in (nI i) (mm_zl z 125) := vi (zl_125 hz) (by omega) (by decide)
    have v2 : vp_in (nI (64 * i + c)) (mm_zl z 128) := vi (zl_128 hz) (by omega) (by decide)
    have c2 : (nI (64 * i + c)).toNatClampNeg = 64 * i + c := nI_clamp (by omega)
    rw [← ih (i + 1) (by omega), eX11_catches_16]
    cases hO : exO st P s c i with
    | true =>
      have t : exO st P s c (i + 1) = true := by rw [exO, hO, Bool.true_or]
      simp (disch := first | assumption | decide | exact zO_120 hz | exact zT_125 hz | exact zT_128 hz | exact zT_129 hz | exact bI_or _) only [eX11_catches_18, eX11_catches_19, eX11_catches_22, eX11_catches_25, eX11_catches_27, eX11_catches_30, eX11_catches_32, eX11_catches_33, eX11_catches_36, eX11_catches_37, eX11_catches_40, eX11_catches_42, eX11_catches_43, eX11_catches_44, eX11_catches_47, eX11_catches_48, eX11_catches_51, eX11_catches_53, eX11_catches_55, eX11_catches_56, eX11_catches_57, eX11_catches_58, eX11_catches_59, eX11_catches_62, eX11_catches_63, eX11_catches_66, eX11_catches_67, eX11_catches_69, eX11_catches_72, hn, h1, if_false, bI_t, e10, not_false_eq_true, if_true, nI_1, t]
    | false =>
      by_cases g1 : i = s
      · have t : exO st P s c (i + 1) = false := by rw [exO, hO, Bool.false_or, decide_eq_false (fun q => q.1 g1)]
        have e1 : (nI i = nI s) = True := by rw [g1]; exact eq_self _
        simp (disch := first | assumption | decide | exact zO_120 hz | exact zT_125 hz | exact zT_128 hz | exact zT_129 hz | exact bI_or _) only [eX11_catches_18, eX11_catches_19, eX11_catches_22, eX11_catches_25, eX11_catches_27, eX11_catches_30, eX11_catches_32, eX11_catches_33, eX11_catches_36, eX11_catches_37, eX11_catches_40, eX11_catches_42, eX11_catches_43, eX11_catches_44, eX11_catches_47, eX11_catches_48, eX11_catches_51, eX11_catches_53, eX11_catches_55, eX11_catches_56, eX11_catches_57, eX11_catches_58, eX11_catches_59, eX11_catches_62, eX11_catches_63, eX11_catches_66, eX11_catches_67, eX11_catches_69, eX11_catches_72, hn, h1, if_false, bI_f, not_true_eq_false, e1, if_true, nI_1, t]
      · have e1 : ¬ nI i = nI s := fun q => g1 ((nI_eq (by omega) (by omega)).mp q)
        by_cases g2 : st i = none
        · have t : exO st P s c (i + 1) = false := by rw [exO, hO, Bool.false_or, decide_eq_false (fun q => q.2.1 g2)]
          have e2 := (rmS_st n hs st h w (by omega : i < n)).mpr g2
          simp (disch := first | assumption | decide | exact zO_120 hz | exact zT_125 hz | exact zT_128 hz | exact zT_129 hz | exact bI_or _) only [eX11_catches_18, eX11_catches_19, eX11_catches_22, eX11_catches_25, eX11_catches_27, eX11_catches_30, eX11_catches_32, eX11_catches_33, eX11_catches_36, eX11_catches_37, eX11_catches_40, eX11_catches_42, eX11_catches_43, eX11_catches_44, eX11_catches_47, eX11_catches_48, eX11_catches_51, eX11_catches_53, eX11_catches_55, eX11_catches_56, eX11_catches_57, eX11_catches_58, eX11_catches_59, eX11_catches_62, eX11_catches_63, eX11_catches_66, eX11_catches_67, eX11_catches_69, eX11_catches_72, hn, h1, if_false, bI_f, not_true_eq_false, e1, fM_5 hF, ci, e2, if_true, nI_1, t]
        · have e2 : ¬ I 125 i = -1 := fun q => g2 ((rmS_st n hs st h w (by omega : i < n)).mp q)
          have r := hP i (by omega) g1 g2 c hc
          by_cases g3 : P i c = 0
          · have t : exO st P s c (i + 1) = false := by rw [exO, hO, Bool.false_or, decide_eq_false (fun q => by omega)]
            have e3 := (le0_nI r.2.2).mpr g3
            simp (disch := first | assumption | decide | exact zO_120 hz | exact zT_125 hz | exact zT_128 hz | exact zT_129 hz | exact bI_or _) only [eX11_catches_18, eX11_catches_19, eX11_catches_22, eX11_catches_25, eX11_catches_27, eX11_catches_30, eX11_catches_32, eX11_catches_33, eX11_catches_36, eX11_catches_37, eX11_catches_40, eX11_catches_42, eX11_catches_43, eX11_catches_44, eX11_catches_47, eX11_catches_48, eX11_catches_51, eX11_catches_53, eX11_catches_55, eX11_catches_56, eX11_catches_57, eX11_catches_58, eX11_catches_59, eX11_catches_62, eX11_catches_63, eX11_catches_66, eX11_catches_67, eX11_catches_69, eX11_catches_72, hn, h1, if_false, bI_f, not_true_eq_false, e1, fM_5 hF, fM_11 hF, ci, e2, pk_mul, nI_add, c2, r.1, e3, if_true, nI_1, t]
          · have t : exO st P s c (i + 1) = true := by rw [exO, hO, Bool.false_or, decide_eq_true ⟨g1, g2, by omega⟩]
            have e3 : ¬ nI (P i c) ≤ 0 := fun q => g3 ((le0_nI r.2.2).mp q)
            simp (disch := first | assumption | decide | exact zO_120 hz | exact zT_125 hz | exact zT_128 hz | exact zT_129 hz | exact bI_or _) only [eX11_catches_18, eX11_catches_19, eX11_catches_22, eX11_catches_25, eX11_catches_27, eX11_catches_30, eX11_catches_32, eX11_catches_33, eX11_catches_36, eX11_catches_37, eX11_catches_40, eX11_catches_42, eX11_catches_43, eX11_catches_44, eX11_catches_47, eX11_catches_48, eX11_catches_51, eX11_catches_53, eX11_catches_55, eX11_catches_56, eX11_catches_57, eX11_catches_58, eX11_catches_59, eX11_catches_62, eX11_catches_63, eX11_catches_66, eX11_catches_67, eX11_catches_69, eX11_catches_72, hn, h1, if_false, bI_f, bI_t, not_true_eq_false, e1, fM_5 hF, fM_11 hF, ci, e2, pk_mul, nI_add, c2, r.1, e3, nI_1, t]
def ct1 (st : Nat → Option (Nat × Nat)) (P : Nat → Nat → Nat) (p : Nat → Nat) (s n c : Nat) : Nat := if 0 < p c ∧ exO st P s c n = true then 1 else 0
theorem rM_catch_l (d : Nat) (z : mm_Z) (F : Nat → Nat → Value) (I : Nat → Nat → Int32) (L : Nat → Nat → Int64) (n : Nat) (hs : Nat → List (Int × Int × Nat)) (st : Nat → Option (Nat × Nat)) (hz : zOK z) (hF : FixM F) (w : wOK n hs st) (h : rmS n hs st F I) (s : Nat) (hs' : s < 8) (P : Nat → Nat → Nat) (U : Nat → Nat → Bool) (hP : rowsBut I n s st P U) (p : Nat → Nat) (u : Nat → Bool) (hp : rowIs I s p u) : ∀ k i, i + k = 64 → ∀ a4 a5 : Value, mm_E d mX11_catches 4 [.ref 120, .int (nI s), .int (nI (sumT (ct1 st P p s n) i)), .int (nI i), a4, a5] [] (z, F, I, L) = some (some (.int (nI (sumT (ct1 st P p s n) 64))), (z, F, I, L)) := by
  have h8 := w.1
  have e10 : ¬ (1 : Int32) = 0 := by decide
  intro k
  induction k with
  | zero =>
    intro i hi a4 a5
    have e : i = 64 := by omega
    subst e
    rw [eX11_catches_4]
    simp (disch := first | assumption | decide | exact zO_120 hz | exact zT_125 hz | exact zT_128 hz | exact zT_129 hz | exact bI_or _) only [eX11_catches_5, eX11_catches_7, eX11_catches_108, eX11_catches_109, nI_le (Nat.le_refl 64) (by decide), if_true]
  | succ k ih =>
    intro i hi a4 a5
    have h1 : ¬ nI 64 ≤ nI i := nI_ge (by omega) (by decide)
    have r := hp i (by omega)
    have v2 : vp_in (nI (64 * s + i)) (mm_zl z 128) := vi (zl_128 hz) (by omega) (by decide)
    have c2 : (nI (64 * s + i)).toNatClampNeg = 64 * s + i := nI_clamp (by omega)
    have inn := rM_catch_in d z F I L n hs st hz hF w h s i hs' (by omega) P U hP (.int (nI (sumT (ct1 st P p s n) i))) n 0 (by omega)
    have n0 : nI 0 = 0 := rfl
    have ex0 : exO st P s i 0 = false := rfl
    rw [n0, ex0, bI_f] at inn
    rw [← ih (i + 1) (by omega) (.int (bI (exO st P s i n))) (.int (nI n)), eX11_catches_4]
    simp (disch := first | assumption | decide | exact zO_120 hz | exact zT_125 hz | exact zT_128 hz | exact zT_129 hz | exact bI_or _) only [eX11_catches_5, eX11_catches_7, eX11_catches_10, eX11_catches_11, eX11_catches_13, eX11_catches_14, h1, if_false]
    rw [inn, sumT]
    by_cases g1 : p i = 0
    · have e1 := (le0_nI r.2.2).mpr g1
      have t : ct1 st P p s n i = 0 := by unfold ct1; rw [if_neg (by omega)]
      simp (disch := first | assumption | decide | exact zO_120 hz | exact zT_125 hz | exact zT_128 hz | exact zT_129 hz | exact bI_or _) only [eX11_catches_75, eX11_catches_76, eX11_catches_77, eX11_catches_80, eX11_catches_82, eX11_catches_83, eX11_catches_84, eX11_catches_85, eX11_catches_86, eX11_catches_87, eX11_catches_90, eX11_catches_92, eX11_catches_95, eX11_catches_96, eX11_catches_99, eX11_catches_100, eX11_catches_101, eX11_catches_102, eX11_catches_105, fM_11 hF, pk_mul, nI_add, c2, r.1, e1, if_true, t, Int32.add_zero, Nat.add_zero, nI_1]
    · have e1 : ¬ nI (p i) ≤ 0 := fun q => g1 ((le0_nI r.2.2).mp q)
      cases g2 : exO st P s i n with
      | false =>
        have t : ct1 st P p s n i = 0 := by unfold ct1; rw [if_neg (by rw [g2]; simp)]
        simp (disch := first | assumption | decide | exact zO_120 hz | exact zT_125 hz | exact zT_128 hz | exact zT_129 hz | exact bI_or _) only [eX11_catches_75, eX11_catches_76, eX11_catches_77, eX11_catches_80, eX11_catches_82, eX11_catches_83, eX11_catches_84, eX11_catches_85, eX11_catches_86, eX11_catches_87, eX11_catches_90, eX11_catches_92, eX11_catches_95, eX11_catches_96, eX11_catches_99, eX11_catches_100, eX11_catches_101, eX11_catches_102, eX11_catches_105, fM_11 hF, pk_mul, nI_add, c2, r.1, e1, if_false, bI_f, if_true, t, Int32.add_zero, Nat.add_zero, nI_1]
      | true =>
        have t : ct1 st P p s n i = 1 := by unfold ct1; rw [if_pos ⟨by omega, g2⟩]
        simp (disch := first | assumption | decide | exact zO_120 hz | exact zT_125 hz | exact zT_128 hz | exact zT_129 hz | exact bI_or _) only [eX11_catches_75, eX11_catches_76, eX11_catches_77, eX11_catches_80, eX11_catches_82, eX11_catches_83, eX11_catches_84, eX11_catches_85, eX11_catches_86, eX11_catches_87, eX11_catches_90, eX11_catches_92, eX11_catches_95, eX11_catches_96, eX11_catches_99, eX11_catches_100, eX11_catches_101, eX11_catches_102, eX11_catches_105, fM_11 hF, pk_mul, nI_add, c2, r.1, e1, if_false, bI_t, e10, t, nI_1]
theorem rM_catches (d : Nat) (z : mm_Z) (F : Nat → Nat → Value) (I : Nat → Nat → Int32) (L : Nat → Nat → Int64) (n : Nat) (hs : Nat → List (Int × Int × Nat)) (st : Nat → Option (Nat × Nat)) (hz : zOK z) (hF : FixM F) (w : wOK n hs st) (h : rmS n hs st F I) (s : Nat) (hs' : s < 8) (P : Nat → Nat → Nat) (U : Nat → Nat → Bool) (hP : rowsBut I n s st P U) (p : Nat → Nat) (u : Nat → Bool) (hp : rowIs I s p u) : mm_E d mX11_catches 0 [.ref 120, .int (nI s), uu, uu, uu, uu] [] (z, F, I, L) = some (some (.int (nI (sumT (ct1 st P p s n) 64))), (z, F, I, L)) := by
  rw [← rM_catch_l d z F I L n hs st hz hF w h s hs' P U hP p u hp 64 0 (by omega) uu uu]
  simp (disch := first | assumption | decide | exact zO_120 hz | exact zT_125 hz | exact zT_128 hz | exact zT_129 hz | exact bI_or _) only [eX11_catches_0, eX11_catches_1, eX11_catches_2, eX11_catches_3]
  rfl
def qo1 (st : Nat → Option (Nat × Nat)) (P : Nat → Nat → Nat) (U : Nat → Nat → Bool) (p : Nat → Nat) (u : Nat → Bool) (s o : Nat) : Nat := if ¬ o = s ∧ ¬ st o = none then sumT (qAt p u (P o) (U o)) 64 else 0
theorem rM_quarrelsOf (d : Nat) (z : mm_Z) (F : Nat → Nat → Value) (I : Nat → Nat → Int32) (L : Nat → Nat → Int64) (n : Nat) (hs : Nat → List (Int × Int × Nat)) (st : Nat → Option (Nat × Nat)) (hz : zOK z) (hF : FixM F) (w : wOK n hs st) (h : rmS n hs st F I) (s : Nat) (hs' : s < 8) (P : Nat → Nat → Nat) (U : Nat → Nat → Bool) (hP : rowsBut I n s st P U) (p : Nat → Nat) (u : Nat → Bool) (hp : rowIs I s p u) : mm_E (d + 1) mX11_quarrelsOf 0 [.ref 120, .int (nI s), uu, uu] [] (z, F, I, L) = some (some (.int (nI (sumT (qo1 st P U p u s) n))), (z, F, I, L)) := by
  have h8 := w.1
  have hn := h.1
  have lp : ∀ k i, i + k = n → mm_E (d + 1) mX11_quarrelsOf 4 [.ref 120, .int (nI s), .int (nI (sumT (qo1 st P U p u s) i)), .int (nI i)] [] (z, F, I, L) = some (some (.int (nI (sumT (qo1 st P U p u s) n))), (z, F, I, L)) := by
    intro k
    induction k with
    | zero =>
      intro i hi
      have e : i = n := by omega
      subst e
      rw [eX11_quarrelsOf_4]
      simp (disch := first | assumption | decide | exact zO_120 hz | exact zT_125 hz | exact zT_128 hz | exact zT_129 hz | exact bI_or _) only [eX11_quarrelsOf_5, eX11_quarrelsOf_6, eX11_quarrelsOf_9, eX11_quarrelsOf_46, eX11_quarrelsOf_47, hn, nI_le (Nat.le_refl i) (by omega), if_true]
    | succ k ih =>
      intro i hi
      have h1 : ¬ nI n ≤ nI i := nI_ge (by omega) (by omega)
      have ci : (nI i).toNatClampNeg = i := nI_clamp (by omega)
      have v1 : vp_in (nI i) (mm_zl z 125) := vi (zl_125 hz) (by omega) (by decide)
      rw [← ih (i + 1) (by omega), eX11_quarrelsOf_4, sumT]
      by_cases g1 : i = s
      · have t : qo1 st P U p u s i = 0 := by unfold qo1; rw [if_neg (fun q => q.1 g1)]
        have e1 : (nI i = nI s) = True := by rw [g1]; exact eq_self _
        simp (disch := first | assumption | decide | exact zO_120 hz | exact zT_125 hz | exact zT_128 hz | exact zT_129 hz | exact bI_or _) only [eX11_quarrelsOf_5, eX11_quarrelsOf_6, eX11_quarrelsOf_9, eX11_quarrelsOf_12, eX11_quarrelsOf_13, eX11_quarrelsOf_14, eX11_quarrelsOf_15, eX11_quarrelsOf_18, eX11_quarrelsOf_19, eX11_quarrelsOf_22, eX11_quarrelsOf_23, eX11_quarrelsOf_24, eX11_quarrelsOf_25, eX11_quarrelsOf_28, eX11_quarrelsOf_29, eX11_quarrelsOf_30, eX11_quarrelsOf_31, eX11_quarrelsOf_34, eX11_quarrelsOf_37, eX11_quarrelsOf_38, eX11_quarrelsOf_39, eX11_quarrelsOf_40, eX11_quarrelsOf_43, hn, h1, if_false, e1, if_true, t, Int32.add_zero, Nat.add_zero, nI_1]
      · have e1 : ¬ nI i = nI s := fun q => g1 ((nI_eq (by omega) (by omega)).mp q)
        by_cases g2 : st i = none
        · have t : qo1 st P U p u s i = 0 := by unfold qo1; rw [if_neg (fun q => q.2 g2)]
          have e2 := (rmS_st n hs st h w (by omega : i < n)).mpr g2
          simp (disch := first | assumption | decide | exact zO_120 hz | exact zT_125 hz | exact zT_128 hz | exact zT_129 hz | exact bI_or _) only [eX11_quarrelsOf_5, eX11_quarrelsOf_6, eX11_quarrelsOf_9, eX11_quarrelsOf_12, eX11_quarrelsOf_13, eX11_quarrelsOf_14, eX11_quarrelsOf_15, eX11_quarrelsOf_18, eX11_quarrelsOf_19, eX11_quarrelsOf_22, eX11_quarrelsOf_23, eX11_quarrelsOf_24, eX11_quarrelsOf_25, eX11_quarrelsOf_28, eX11_quarrelsOf_29, eX11_quarrelsOf_30, eX11_quarrelsOf_31, eX11_quarrelsOf_34, eX11_quarrelsOf_37, eX11_quarrelsOf_38, eX11_quarrelsOf_39, eX11_quarrelsOf_40, eX11_quarrelsOf_43, hn, h1, if_false, e1, fM_5 hF, ci, e2, if_true, t, Int32.add_zero, Nat.add_zero, nI_1]
        · have e2 : ¬ I 125 i = -1 := fun q => g2 ((rmS_st n hs st h w (by omega : i < n)).mp q)
          have t : qo1 st P U p u s i = sumT (qAt p u (P i) (U i)) 64 := by unfold qo1; rw [if_pos ⟨g1, g2⟩]
          have qr := rM_quarrels d z F I L hz hF s i hs' (by omega) p (P i) u (U i) hp (hP i (by omega) g1 g2)
          simp (disch := first | assumption | decide | exact zO_120 hz | exact zT_125 hz | exact zT_128 hz | exact zT_129 hz | exact bI_or _) only [eX11_quarrelsOf_5, eX11_quarrelsOf_6, eX11_quarrelsOf_9, eX11_quarrelsOf_12, eX11_quarrelsOf_13, eX11_quarrelsOf_14, eX11_quarrelsOf_15, eX11_quarrelsOf_18, eX11_quarrelsOf_19, eX11_quarrelsOf_22, eX11_quarrelsOf_23, eX11_quarrelsOf_24, eX11_quarrelsOf_25, eX11_quarrelsOf_28, eX11_quarrelsOf_29, eX11_quarrelsOf_30, eX11_quarrelsOf_31, eX11_quarrelsOf_34, eX11_quarrelsOf_37, eX11_quarrelsOf_38, eX11_quarrelsOf_39, eX11_quarrelsOf_40, eX11_quarrelsOf_43, hn, h1, if_false, e1, fM_5 hF, ci, e2, qr, mm_bd_i, t, nI_add, nI_1]
  rw [← lp n 0 (by omega)]
  simp (disch := first | assumption | decide | exact zO_120 hz | exact zT_125 hz | exact zT_128 hz | exact zT_129 hz | exact bI_or _) only [eX11_quarrelsOf_0, eX11_quarrelsOf_1, eX11_quarrelsOf_2, eX11_quarrelsOf_3]
  rfl
