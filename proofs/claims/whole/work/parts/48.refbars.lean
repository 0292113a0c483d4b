/-! the reference: bars, lead -/
theorem rM_bars_unk (d : Nat) (z : mm_Z) (F : Nat → Nat → Value) (I : Nat → Nat → Int32) (L : Nat → Nat → Int64) (n : Nat) (s c t : Int32) (hz : zOK z) (h8 : n ≤ 8) (hn : F 120 0 = .int (nI n)) (h : ¬ ((0 ≤ s.toInt ∧ s.toInt < n) ∧ (0 ≤ c.toInt ∧ c.toInt < 64))) : mm_E (d + 4) mX11_bars 0 [.ref 120, .int s, .int c, .int t, uu, uu, uu] [] (z, F, I, L) = some (some (.int (-2)), (z, F, I, L)) := by
  by_cases h1 : 0 ≤ s.toInt ∧ s.toInt < n
  · have h2 : ¬ (0 ≤ c.toInt ∧ c.toInt < 64) := fun q => h ⟨h1, q⟩
    have c1 : decide (0 ≤ s.toInt ∧ s.toInt < n) = true := decide_eq_true h1
    have c2 : decide (0 ≤ c.toInt ∧ c.toInt < 64) = false := decide_eq_false h2
    simp (disch := first | assumption | decide | exact zO_120 hz | exact zT_125 hz | exact zT_127 hz | exact zT_128 hz | exact zT_129 hz | exact bI_or _) only [eX11_bars_0, eX11_bars_1, eX11_bars_2, eX11_bars_5, eX11_bars_8, eX11_bars_9, eX11_bars_12, eX11_bars_15, eX11_bars_17, rM_isSweep (d := d + 2) (n := n), rM_isCell (d := d + 2), mm_bd_i, c1, c2, bI_0, Bool.true_eq_false, not_true_eq_false, if_false]
  · have c1 : decide (0 ≤ s.toInt ∧ s.toInt < n) = false := decide_eq_false h1
    simp (disch := first | assumption | decide | exact zO_120 hz | exact zT_125 hz | exact zT_127 hz | exact zT_128 hz | exact zT_129 hz | exact bI_or _) only [eX11_bars_0, eX11_bars_1, eX11_bars_2, eX11_bars_5, eX11_bars_8, eX11_bars_9, eX11_bars_12, eX11_bars_15, eX11_bars_17, rM_isSweep (d := d + 2) (n := n), mm_bd_i, c1, bI_0, if_true]
theorem rM_bars_a (d : Nat) (z : mm_Z) (F : Nat → Nat → Value) (I : Nat → Nat → Int32) (L : Nat → Nat → Int64) (n s c : Nat) (t : Int32) (hz : zOK z) (h8 : n ≤ 8) (hn : F 120 0 = .int (nI n)) (hs' : s < n) (hc : c < 64) : mm_E (d + 4) mX11_bars 0 [.ref 120, .int (nI s), .int (nI c), .int t, uu, uu, uu] [] (z, F, I, L) = mm_E (d + 4) mX11_bars 18 [.ref 120, .int (nI s), .int (nI c), .int t, uu, uu, uu] [] (z, F, I, L) := by
  simp (disch := first | assumption | decide | exact zO_120 hz | exact zT_125 hz | exact zT_127 hz | exact zT_128 hz | exact zT_129 hz | exact bI_or _) only [eX11_bars_0, eX11_bars_1, eX11_bars_2, eX11_bars_5, eX11_bars_8, eX11_bars_9, eX11_bars_12, eX11_bars_15, eX11_bars_17, rM_isSweep (d := d + 2) (n := n), rM_isCell (d := d + 2), mm_bd_i, isS_t hs' h8, isC_t hc, bI_0, Bool.true_eq_false, not_false_eq_true, if_true, if_false]
theorem rM_bars_out (d : Nat) (z : mm_Z) (F : Nat → Nat → Value) (I : Nat → Nat → Int32) (L : Nat → Nat → Int64) (s c : Value) (t : Int32) (h : ¬ (0 ≤ t.toInt ∧ t.toInt ≤ 3)) : mm_E (d + 4) mX11_bars 18 [.ref 120, s, c, .int t, uu, uu, uu] [] (z, F, I, L) = some (some (.int (-3)), (z, F, I, L)) := by
  have e0 : (0 : Int32).toInt = 0 := rfl
  have e3 : (nI 3).toInt = 3 := rfl
  have c1 : decide (0 ≤ t.toInt ∧ t.toInt ≤ 3) = false := decide_eq_false h
  simp (disch := first | assumption | decide) only [eX11_bars_18, eX11_bars_19, eX11_bars_20, eX11_bars_21, eX11_bars_24, eX11_bars_27, eX11_bars_29, rM_in, mm_bd_i, e0, e3, c1, bI_0, not_true_eq_false, if_false]
theorem rM_bars_b (d : Nat) (z : mm_Z) (F : Nat → Nat → Value) (I : Nat → Nat → Int32) (L : Nat → Nat → Int64) (s c : Value) (t : Nat) (ht : t < 4) : mm_E (d + 4) mX11_bars 18 [.ref 120, s, c, .int (nI t), uu, uu, uu] [] (z, F, I, L) = mm_E (d + 4) mX11_bars 30 [.ref 120, s, c, .int (nI t), uu, uu, uu] [] (z, F, I, L) := by
  have e0 : (0 : Int32).toInt = 0 := rfl
  simp (disch := first | assumption | decide) only [eX11_bars_18, eX11_bars_19, eX11_bars_20, eX11_bars_21, eX11_bars_24, eX11_bars_27, eX11_bars_29, rM_in, mm_bd_i, e0, isT_t (by omega : t ≤ 3) (by decide), bI_0, Bool.true_eq_false, not_false_eq_true, if_true]
theorem rM_bars_not (d : Nat) (z : mm_Z) (F : Nat → Nat → Value) (I : Nat → Nat → Int32) (L : Nat → Nat → Int64) (n : Nat) (hs : Nat → List (Int × Int × Nat)) (st : Nat → Option (Nat × Nat)) (hz : zOK z) (hF : FixM F) (w : wOK n hs st) (h : rmS n hs st F I) (s : Nat) (c t : Value) (hs' : s < n) (e : ¬ st s = none) : mm_E (d + 4) mX11_bars 30 [.ref 120, .int (nI s), c, t, uu, uu, uu] [] (z, F, I, L) = some (some (.int (-4)), (z, F, I, L)) := by
  have h8 := w.1
  have e1 : ¬ I 125 s = -1 := fun q => e ((rmS_st n hs st h w hs').mp q)
  have cs : (nI s).toNatClampNeg = s := nI_clamp (by omega)
  have v1 : vp_in (nI s) (mm_zl z 125) := vi (zl_125 hz) (by omega) (by decide)
  simp (disch := first | assumption | decide | exact zO_120 hz | exact zT_125 hz | exact zT_127 hz | exact zT_128 hz | exact zT_129 hz | exact bI_or _) only [eX11_bars_30, eX11_bars_31, eX11_bars_34, eX11_bars_35, eX11_bars_36, eX11_bars_37, eX11_bars_40, eX11_bars_42, fM_5 hF, cs, e1, if_false]
/-- whether o bars s from c, t -/
def barO (hs : Nat → List (Int × Int × Nat)) (st : Nat → Option (Nat × Nat)) (l : Nat → Nat) (s c t o : Nat) : Bool := decide (¬ o = s ∧ ¬ st o = none ∧ l 1 < sumT (qAt (lH (hs s) c t (hs s).length) (lB (hs s) c t (hs s).length) (sH hs st o) (sB hs st o)) 64)
theorem rM_bars_l (d : Nat) (z : mm_Z) (F : Nat → Nat → Value) (I : Nat → Nat → Int32) (L : Nat → Nat → Int64) (n : Nat) (hs : Nat → List (Int × Int × Nat)) (st : Nat → Option (Nat × Nat)) (hz : zOK z) (hF : FixM F) (w : wOK n hs st) (h : rmS n hs st F I) (l : Nat → Nat) (hl : rmL l F) (l1 : l 1 ≤ 16) (s c t : Nat) (hs' : s < n) (b2 b3 : Value) (hb : rowsBut I n s st (sH hs st) (sB hs st)) (hr : rowIs I s (lH (hs s) c t (hs s).length) (lB (hs s) c t (hs s).length)) : ∀ k i, i + k = n → mm_E (d + 4) mX11_bars 62 [.ref 120, .int (nI s), b2, b3, .int (orT (barO hs st l s c t) i), .int (bI true), .int (nI i)] [] (z, F, I, L) = some (some (.int (orT (barO hs st l s c t) n)), (z, F, I, L)) := by
  have h8 := w.1
  have hn := h.1
  have e10 : ¬ (1 : Int32) = 0 := by decide
  intro k
  induction k with
  | zero =>
    intro i hi
    have e : i = n := by omega
    subst e
    rw [eX11_bars_62]
    simp (disch := first | assumption | decide | exact zO_120 hz | exact zT_125 hz | exact zT_127 hz | exact zT_128 hz | exact zT_129 hz | exact bI_or _) only [eX11_bars_64, eX11_bars_65, eX11_bars_68, eX11_bars_126, eX11_bars_128, hn, nI_le (Nat.le_refl i) (by omega), if_true]
  | succ k ih =>
    intro i hi
    have h1 : ¬ nI n ≤ nI i := nI_ge (by omega) (by omega)
    have ci : (nI i).toNatClampNeg = i := nI_clamp (by omega)
    have v1 : vp_in (nI i) (mm_zl z 125) := vi (zl_125 hz) (by omega) (by decide)
    rw [← ih (i + 1) (by omega), eX11_bars_62, orT]
    by_cases g1 : i = s
    · have t1 : barO hs st l s c t i = false := decide_eq_false (fun q => q.1 g1)
      have e1 : (nI i = nI s) = True := by rw [g1]; exact eq_self _
      simp (disch := first | assumption | decide | exact zO_120 hz | exact zT_125 hz | exact zT_127 hz | exact zT_128 hz | exact zT_129 hz | exact bI_or _) only [eX11_bars_64, eX11_bars_65, eX11_bars_68, eX11_bars_71, eX11_bars_73, eX11_bars_76, eX11_bars_78, eX11_bars_80, eX11_bars_81, eX11_bars_84, eX11_bars_85, eX11_bars_88, eX11_bars_90, eX11_bars_91, eX11_bars_92, eX11_bars_95, eX11_bars_96, eX11_bars_97, eX11_bars_99, eX11_bars_102, eX11_bars_103, eX11_bars_106, eX11_bars_109, eX11_bars_110, eX11_bars_112, eX11_bars_113, eX11_bars_116, eX11_bars_117, eX11_bars_118, eX11_bars_120, eX11_bars_123, hn, h1, if_false, bI_t, e10, e1, if_true, t1, Bool.false_eq_true, nI_1]
    · have e1 : ¬ nI i = nI s := fun q => g1 ((nI_eq (by omega) (by omega)).mp q)
      by_cases g2 : st i = none
      · have t1 : barO hs st l s c t i = false := decide_eq_false (fun q => q.2.1 g2)
        have e2 := (rmS_st n hs st h w (by omega : i < n)).mpr g2
        simp (disch := first | assumption | decide | exact zO_120 hz | exact zT_125 hz | exact zT_127 hz | exact zT_128 hz | exact zT_129 hz | exact bI_or _) only [eX11_bars_64, eX11_bars_65, eX11_bars_68, eX11_bars_71, eX11_bars_73, eX11_bars_76, eX11_bars_78, eX11_bars_80, eX11_bars_81, eX11_bars_84, eX11_bars_85, eX11_bars_88, eX11_bars_90, eX11_bars_91, eX11_bars_92, eX11_bars_95, eX11_bars_96, eX11_bars_97, eX11_bars_99, eX11_bars_102, eX11_bars_103, eX11_bars_106, eX11_bars_109, eX11_bars_110, eX11_bars_112, eX11_bars_113, eX11_bars_116, eX11_bars_117, eX11_bars_118, eX11_bars_120, eX11_bars_123, hn, h1, if_false, bI_t, e10, e1, fM_5 hF, ci, e2, if_true, t1, Bool.false_eq_true, nI_1]
      · have e2 : ¬ I 125 i = -1 := fun q => g2 ((rmS_st n hs st h w (by omega : i < n)).mp q)
        have qr := fun d' => rM_quarrels d' z F I L hz hF s i (by omega) (by omega) _ (sH hs st i) _ (sB hs st i) hr (hb i (by omega) g1 g2)
        have ql := sumT_le (qAt (lH (hs s) c t (hs s).length) (lB (hs s) c t (hs s).length) (sH hs st i) (sB hs st i)) 3 (fun c => qAt_le _ _ _ _ c) 64
        by_cases g3 : l 1 < sumT (qAt (lH (hs s) c t (hs s).length) (lB (hs s) c t (hs s).length) (sH hs st i) (sB hs st i)) 64
        · have t1 : barO hs st l s c t i = true := decide_eq_true ⟨g1, g2, g3⟩
          have e3 : ¬ nI (sumT (qAt (lH (hs s) c t (hs s).length) (lB (hs s) c t (hs s).length) (sH hs st i) (sB hs st i)) 64) ≤ nI (l 1) := nI_ge g3 (by omega)
          simp (disch := first | assumption | decide | exact zO_120 hz | exact zT_125 hz | exact zT_127 hz | exact zT_128 hz | exact zT_129 hz | exact bI_or _) only [eX11_bars_64, eX11_bars_65, eX11_bars_68, eX11_bars_71, eX11_bars_73, eX11_bars_76, eX11_bars_78, eX11_bars_80, eX11_bars_81, eX11_bars_84, eX11_bars_85, eX11_bars_88, eX11_bars_90, eX11_bars_91, eX11_bars_92, eX11_bars_95, eX11_bars_96, eX11_bars_97, eX11_bars_99, eX11_bars_102, eX11_bars_103, eX11_bars_106, eX11_bars_109, eX11_bars_110, eX11_bars_112, eX11_bars_113, eX11_bars_116, eX11_bars_117, eX11_bars_118, eX11_bars_120, eX11_bars_123, hn, h1, if_false, bI_t, e10, e1, fM_5 hF, ci, e2, qr, mm_bd_i, hl.2.1, e3, t1, if_true, nI_1]
        · have t1 : barO hs st l s c t i = false := decide_eq_false (fun q => g3 q.2.2)
          have e3 : nI (sumT (qAt (lH (hs s) c t (hs s).length) (lB (hs s) c t (hs s).length) (sH hs st i) (sB hs st i)) 64) ≤ nI (l 1) := nI_le (by omega) (by omega)
          simp (disch := first | assumption | decide | exact zO_120 hz | exact zT_125 hz | exact zT_127 hz | exact zT_128 hz | exact zT_129 hz | exact bI_or _) only [eX11_bars_64, eX11_bars_65, eX11_bars_68, eX11_bars_71, eX11_bars_73, eX11_bars_76, eX11_bars_78, eX11_bars_80, eX11_bars_81, eX11_bars_84, eX11_bars_85, eX11_bars_88, eX11_bars_90, eX11_bars_91, eX11_bars_92, eX11_bars_95, eX11_bars_96, eX11_bars_97, eX11_bars_99, eX11_bars_102, eX11_bars_103, eX11_bars_106, eX11_bars_109, eX11_bars_110, eX11_bars_112, eX11_bars_113, eX11_bars_116, eX11_bars_117, eX11_bars_118, eX11_bars_120, eX11_bars_123, hn, h1, if_false, bI_t, e10, e1, fM_5 hF, ci, e2, qr, mm_bd_i, hl.2.1, e3, t1, if_true, Bool.false_eq_true, nI_1]
theorem rM_bars (d : Nat) (z : mm_Z) (F : Nat → Nat → Value) (I : Nat → Nat → Int32) (L : Nat → Nat → Int64) (n : Nat) (hs : Nat → List (Int × Int × Nat)) (st : Nat → Option (Nat × Nat)) (hz : zOK z) (hF : FixM F) (w : wOK n hs st) (h : rmS n hs st F I) (l : Nat → Nat) (hl : rmL l F) (l1 : l 1 ≤ 16) (s c t : Nat) (hs' : s < n) (hc : c < 64) (ht : t < 4) (e : st s = none) : ∃ I', mm_E (d + 4) mX11_bars 30 [.ref 120, .int (nI s), .int (nI c), .int (nI t), uu, uu, uu] [] (z, F, I, L) = some (some (.int (if lOk (hs s) c t (hs s).length = true then orT (barO hs st l s c t) n else 0)), (z, F, I', L)) ∧ layG I I' := by
  have h8 := w.1
  have e1 := (rmS_st n hs st h w hs').mpr e
  have cs : (nI s).toNatClampNeg = s := nI_clamp (by omega)
  have v1 : vp_in (nI s) (mm_zl z 125) := vi (zl_125 hz) (by omega) (by decide)
  obtain ⟨I1, j1, j2, j3⟩ := rM_layAll d z F L n hs st hz hF w I h
  have hm1 := rmS_layG n hs st h j2
  obtain ⟨I2, k1, k2, k3⟩ := rM_lay (d + 1) z F L n hs st hz hF w s c t hs' hc ht I1 hm1
  have hm2 := rmS_layG n hs st hm1 k2.1
  have hb := laid_but n hs st w j3 k2
  have hr := laid_rowIs n hs st w hs' k3
  refine ⟨I2, ?_, layG_trans j2 k2.1⟩
  have n0 : nI 0 = 0 := rfl
  cases hO : lOk (hs s) c t (hs s).length with
  | false =>
    rw [hO] at k1
    simp (disch := first | assumption | decide | exact zO_120 hz | exact zT_125 hz | exact zT_127 hz | exact zT_128 hz | exact zT_129 hz | exact bI_or _) only [eX11_bars_30, eX11_bars_31, eX11_bars_34, eX11_bars_35, eX11_bars_36, eX11_bars_37, eX11_bars_40, eX11_bars_42, eX11_bars_43, eX11_bars_44, eX11_bars_47, eX11_bars_48, eX11_bars_50, eX11_bars_51, eX11_bars_52, eX11_bars_53, eX11_bars_54, eX11_bars_57, eX11_bars_59, eX11_bars_60, fM_5 hF, cs, e1, if_true, j1, mm_bd_v, k1, mm_bd_i, Bool.false_eq_true, if_false]
    rw [eX11_bars_62]
    have hn := h.1
    have h1 : ¬ nI n ≤ 0 := nI_nle (by omega) (by omega)
    simp (disch := first | assumption | decide | exact zO_120 hz | exact zT_125 hz | exact zT_127 hz | exact zT_128 hz | exact zT_129 hz | exact bI_or _) only [eX11_bars_64, eX11_bars_65, eX11_bars_68, eX11_bars_71, eX11_bars_73, eX11_bars_126, eX11_bars_128, hn, h1, if_false, bI_0, if_true]
  | true =>
    rw [hO] at k1
    simp only [if_true]
    rw [← rM_bars_l d z F I2 L n hs st hz hF w hm2 l hl l1 s c t hs' (.int (nI c)) (.int (nI t)) hb hr n 0 (by omega)]
    simp (disch := first | assumption | decide | exact zO_120 hz | exact zT_125 hz | exact zT_127 hz | exact zT_128 hz | exact zT_129 hz | exact bI_or _) only [eX11_bars_30, eX11_bars_31, eX11_bars_34, eX11_bars_35, eX11_bars_36, eX11_bars_37, eX11_bars_40, eX11_bars_42, eX11_bars_43, eX11_bars_44, eX11_bars_47, eX11_bars_48, eX11_bars_50, eX11_bars_51, eX11_bars_52, eX11_bars_53, eX11_bars_54, eX11_bars_57, eX11_bars_59, eX11_bars_60, fM_5 hF, cs, e1, if_true, j1, mm_bd_v, k1, mm_bd_i]
    rfl
