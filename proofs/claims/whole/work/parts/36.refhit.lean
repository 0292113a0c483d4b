/-! the reference: hit -/
theorem rM_hit_unk (d : Nat) (z : mm_Z) (F : Nat → Nat → Value) (I : Nat → Nat → Int32) (L : Nat → Nat → Int64) (n : Nat) (s x y m : Int32) (hz : zOK z) (h8 : n ≤ 8) (hn : F 120 0 = .int (nI n)) (h : ¬ (0 ≤ s.toInt ∧ s.toInt < n)) : mm_E (d + 2) mX11_hit 0 [.ref 120, .int s, .int x, .int y, .int m, uu] [] (z, F, I, L) = some (some (.int (-2)), (z, F, I, L)) := by
  simp (disch := first | assumption | decide | exact zO_120 hz) only [eX11_hit_0, eX11_hit_1, eX11_hit_2, eX11_hit_5, eX11_hit_8, eX11_hit_10, rM_isSweep (d := d) (n := n), mm_bd_i, h, decide_false, bI_0, not_true_eq_false, if_false]
def okHit (x y m : Int32) : Prop := ((-7 ≤ x.toInt ∧ x.toInt ≤ 7) ∧ (-7 ≤ y.toInt ∧ y.toInt ≤ 7)) ∧ ¬ (x = 0 ∧ y = 0) ∧ (0 ≤ m.toInt ∧ m.toInt ≤ 9)
theorem rM_hit_a (d : Nat) (z : mm_Z) (F : Nat → Nat → Value) (I : Nat → Nat → Int32) (L : Nat → Nat → Int64) (n s : Nat) (x y m : Int32) (hz : zOK z) (h8 : n ≤ 8) (hn : F 120 0 = .int (nI n)) (hs' : s < n) : mm_E (d + 2) mX11_hit 0 [.ref 120, .int (nI s), .int x, .int y, .int m, uu] [] (z, F, I, L) = mm_E (d + 2) mX11_hit 11 [.ref 120, .int (nI s), .int x, .int y, .int m, uu] [] (z, F, I, L) := by
  simp (disch := first | assumption | decide | exact zO_120 hz) only [eX11_hit_0, eX11_hit_1, eX11_hit_2, eX11_hit_5, eX11_hit_8, eX11_hit_10, rM_isSweep (d := d) (n := n), mm_bd_i, isS_t hs' h8, bI_0, Bool.true_eq_false, not_false_eq_true, if_true]
theorem rM_hit_out (d : Nat) (z : mm_Z) (F : Nat → Nat → Value) (I : Nat → Nat → Int32) (L : Nat → Nat → Int64) (s : Value) (x y m : Int32) (h : ¬ okHit x y m) : mm_E (d + 2) mX11_hit 11 [.ref 120, s, .int x, .int y, .int m, uu] [] (z, F, I, L) = some (some (.int (-3)), (z, F, I, L)) := by
  have e0 : (0 : Int32).toInt = 0 := rfl
  have e7 : (nI 7).toInt = 7 := rfl
  have e9 : (nI 9).toInt = 9 := rfl
  have em : (-7 : Int32).toInt = -7 := rfl
  unfold okHit at h
  by_cases h1 : -7 ≤ x.toInt ∧ x.toInt ≤ 7
  · by_cases h2 : -7 ≤ y.toInt ∧ y.toInt ≤ 7
    · have c1 : decide (-7 ≤ x.toInt ∧ x.toInt ≤ 7) = true := decide_eq_true h1
      have c2 : decide (-7 ≤ y.toInt ∧ y.toInt ≤ 7) = true := decide_eq_true h2
      by_cases h3 : x = 0 ∧ y = 0
      · have c3 : decide ((-7 : Int) ≤ 0 ∧ (0 : Int) ≤ 7) = true := by decide
        simp (disch := first | assumption | decide) only [eX11_hit_11, eX11_hit_12, eX11_hit_14, eX11_hit_16, eX11_hit_19, eX11_hit_22, eX11_hit_23, eX11_hit_25, eX11_hit_27, eX11_hit_30, eX11_hit_33, eX11_hit_34, eX11_hit_37, eX11_hit_38, eX11_hit_41, eX11_hit_43, eX11_hit_44, eX11_hit_46, eX11_hit_49, eX11_hit_52, eX11_hit_54, rM_in, mm_bd_i, e0, e7, em, h3.1, h3.2, c3, bI_0, Bool.true_eq_false, if_false, not_true_eq_false, if_true]
      · have h4 : ¬ (0 ≤ m.toInt ∧ m.toInt ≤ 9) := fun q => h ⟨⟨h1, h2⟩, h3, q⟩
        have c4 : decide (0 ≤ m.toInt ∧ m.toInt ≤ 9) = false := decide_eq_false h4
        by_cases h5 : x = 0
        · have h6 : ¬ y = 0 := fun q => h3 ⟨h5, q⟩
          simp (disch := first | assumption | decide) only [eX11_hit_11, eX11_hit_12, eX11_hit_14, eX11_hit_16, eX11_hit_19, eX11_hit_22, eX11_hit_23, eX11_hit_25, eX11_hit_27, eX11_hit_30, eX11_hit_33, eX11_hit_34, eX11_hit_37, eX11_hit_38, eX11_hit_41, eX11_hit_43, eX11_hit_44, eX11_hit_46, eX11_hit_49, eX11_hit_52, eX11_hit_54, rM_in, mm_bd_i, e0, e7, e9, em, c1, c2, c4, h5, h6, bI_0, Bool.true_eq_false, if_false, not_true_eq_false, if_true]
          split <;> rfl
        · simp (disch := first | assumption | decide) only [eX11_hit_11, eX11_hit_12, eX11_hit_14, eX11_hit_16, eX11_hit_19, eX11_hit_22, eX11_hit_23, eX11_hit_25, eX11_hit_27, eX11_hit_30, eX11_hit_33, eX11_hit_34, eX11_hit_37, eX11_hit_38, eX11_hit_41, eX11_hit_43, eX11_hit_44, eX11_hit_46, eX11_hit_49, eX11_hit_52, eX11_hit_54, rM_in, mm_bd_i, e0, e7, e9, em, c1, c2, c4, h5, bI_0, Bool.true_eq_false, if_false, not_true_eq_false, not_false_eq_true, if_true]
    · have c1 : decide (-7 ≤ x.toInt ∧ x.toInt ≤ 7) = true := decide_eq_true h1
      have c2 : decide (-7 ≤ y.toInt ∧ y.toInt ≤ 7) = false := decide_eq_false h2
      simp (disch := first | assumption | decide) only [eX11_hit_11, eX11_hit_12, eX11_hit_14, eX11_hit_16, eX11_hit_19, eX11_hit_22, eX11_hit_23, eX11_hit_25, eX11_hit_27, eX11_hit_30, eX11_hit_33, eX11_hit_34, eX11_hit_37, eX11_hit_38, eX11_hit_41, eX11_hit_43, eX11_hit_44, eX11_hit_46, eX11_hit_49, eX11_hit_52, eX11_hit_54, rM_in, mm_bd_i, e0, e7, e9, em, c1, c2, bI_0, Bool.true_eq_false, if_false, if_true]
  · have c1 : decide (-7 ≤ x.toInt ∧ x.toInt ≤ 7) = false := decide_eq_false h1
    simp (disch := first | assumption | decide) only [eX11_hit_11, eX11_hit_12, eX11_hit_14, eX11_hit_16, eX11_hit_19, eX11_hit_22, eX11_hit_23, eX11_hit_25, eX11_hit_27, eX11_hit_30, eX11_hit_33, eX11_hit_34, eX11_hit_37, eX11_hit_38, eX11_hit_41, eX11_hit_43, eX11_hit_44, eX11_hit_46, eX11_hit_49, eX11_hit_52, eX11_hit_54, rM_in, mm_bd_i, e0, e7, e9, em, c1, bI_0, if_true]
theorem rM_hit_b (d : Nat) (z : mm_Z) (F : Nat → Nat → Value) (I : Nat → Nat → Int32) (L : Nat → Nat → Int64) (s : Value) (x y m : Int32) (h : okHit x y m) : mm_E (d + 2) mX11_hit 11 [.ref 120, s, .int x, .int y, .int m, uu] [] (z, F, I, L) = mm_E (d + 2) mX11_hit 55 [.ref 120, s, .int x, .int y, .int m, uu] [] (z, F, I, L) := by
  have e0 : (0 : Int32).toInt = 0 := rfl
  have e7 : (nI 7).toInt = 7 := rfl
  have e9 : (nI 9).toInt = 9 := rfl
  have em : (-7 : Int32).toInt = -7 := rfl
  obtain ⟨⟨h1, h2⟩, h3, h4⟩ := h
  have c1 : decide (-7 ≤ x.toInt ∧ x.toInt ≤ 7) = true := decide_eq_true h1
  have c2 : decide (-7 ≤ y.toInt ∧ y.toInt ≤ 7) = true := decide_eq_true h2
  have c4 : decide (0 ≤ m.toInt ∧ m.toInt ≤ 9) = true := decide_eq_true h4
  by_cases h5 : x = 0
  · have h6 : ¬ y = 0 := fun q => h3 ⟨h5, q⟩
    simp (disch := first | assumption | decide) only [eX11_hit_11, eX11_hit_12, eX11_hit_14, eX11_hit_16, eX11_hit_19, eX11_hit_22, eX11_hit_23, eX11_hit_25, eX11_hit_27, eX11_hit_30, eX11_hit_33, eX11_hit_34, eX11_hit_37, eX11_hit_38, eX11_hit_41, eX11_hit_43, eX11_hit_44, eX11_hit_46, eX11_hit_49, eX11_hit_52, eX11_hit_54, rM_in, mm_bd_i, e0, e7, e9, em, c1, c2, c4, h6, bI_0, Bool.true_eq_false, if_false, not_true_eq_false, not_false_eq_true, if_true]
    split <;> rfl
  · simp (disch := first | assumption | decide) only [eX11_hit_11, eX11_hit_12, eX11_hit_14, eX11_hit_16, eX11_hit_19, eX11_hit_22, eX11_hit_23, eX11_hit_25, eX11_hit_27, eX11_hit_30, eX11_hit_33, eX11_hit_34, eX11_hit_37, eX11_hit_38, eX11_hit_41, eX11_hit_43, eX11_hit_44, eX11_hit_46, eX11_hit_49, eX11_hit_52, eX11_hit_54, rM_in, mm_bd_i, e0, e7, e9, em, c1, c2, c4, h5, bI_0, Bool.true_eq_false, if_false, not_true_eq_false, not_false_eq_true, if_true]
theorem rM_hit_st (d : Nat) (z : mm_Z) (F : Nat → Nat → Value) (I : Nat → Nat → Int32) (L : Nat → Nat → Int64) (n : Nat) (hs : Nat → List (Int × Int × Nat)) (st : Nat → Option (Nat × Nat)) (hz : zOK z) (hF : FixM F) (w : wOK n hs st) (h : rmS n hs st F I) (s : Nat) (hs' : s < n) (e : ¬ st s = none) (x y m : Value) : mm_E d mX11_hit 55 [.ref 120, .int (nI s), x, y, m, uu] [] (z, F, I, L) = some (some (.int (-4)), (z, F, I, L)) := by
  have h8 := w.1
  have e1 : ¬ I 125 s = -1 := fun q => e ((rmS_st n hs st h w hs').mp q)
  have c : (nI s).toNatClampNeg = s := nI_clamp (by omega)
  simp (disch := first | assumption | decide | exact zO_120 hz | exact zT_121 hz | exact zT_122 hz | exact zT_123 hz | exact zT_124 hz | exact zT_125 hz | exact vi (zl_121 hz) (by omega) (by decide) | exact vi (zl_125 hz) (by omega) (by decide) | exact vi (zl_122 hz) (by omega) (by decide) | exact vi (zl_123 hz) (by omega) (by decide) | exact vi (zl_124 hz) (by omega) (by decide)) only [eX11_hit_55, eX11_hit_56, eX11_hit_59, eX11_hit_60, eX11_hit_61, eX11_hit_62, eX11_hit_65, eX11_hit_67, eX11_hit_68, eX11_hit_69, fM_5 hF, c, e1, if_false]
theorem rM_hit_c (d : Nat) (z : mm_Z) (F : Nat → Nat → Value) (I : Nat → Nat → Int32) (L : Nat → Nat → Int64) (n : Nat) (hs : Nat → List (Int × Int × Nat)) (st : Nat → Option (Nat × Nat)) (hz : zOK z) (hF : FixM F) (w : wOK n hs st) (h : rmS n hs st F I) (s : Nat) (hs' : s < n) (e : st s = none) (x y m : Value) : mm_E d mX11_hit 55 [.ref 120, .int (nI s), x, y, m, uu] [] (z, F, I, L) = mm_E d mX11_hit 71 [.ref 120, .int (nI s), x, y, m, .int 0] [] (z, F, I, L) := by
  have h8 := w.1
  have e1 := (rmS_st n hs st h w hs').mpr e
  have c : (nI s).toNatClampNeg = s := nI_clamp (by omega)
  simp (disch := first | assumption | decide | exact zO_120 hz | exact zT_121 hz | exact zT_122 hz | exact zT_123 hz | exact zT_124 hz | exact zT_125 hz | exact vi (zl_121 hz) (by omega) (by decide) | exact vi (zl_125 hz) (by omega) (by decide) | exact vi (zl_122 hz) (by omega) (by decide) | exact vi (zl_123 hz) (by omega) (by decide) | exact vi (zl_124 hz) (by omega) (by decide)) only [eX11_hit_55, eX11_hit_56, eX11_hit_59, eX11_hit_60, eX11_hit_61, eX11_hit_62, eX11_hit_65, eX11_hit_67, eX11_hit_68, eX11_hit_69, fM_5 hF, c, e1, if_true]
theorem hg_b (n : Nat) (hs : Nat → List (Int × Int × Nat)) (st : Nat → Option (Nat × Nat)) (w : wOK n hs st) {s k : Nat} (hs' : s < n) (hk : k < (hs s).length) : (-7 ≤ (hg (hs s) k).1 ∧ (hg (hs s) k).1 ≤ 7) ∧ (-7 ≤ (hg (hs s) k).2.1 ∧ (hg (hs s) k).2.1 ≤ 7) ∧ (hg (hs s) k).2.2 ≤ 9 := by
  have g := (w.2 s hs').2.1 _ (hg_mem hk)
  exact ⟨g.1, g.2.1, g.2.2.1⟩
theorem rM_hit_dup (d : Nat) (z : mm_Z) (F : Nat → Nat → Value) (I : Nat → Nat → Int32) (L : Nat → Nat → Int64) (n : Nat) (hs : Nat → List (Int × Int × Nat)) (st : Nat → Option (Nat × Nat)) (hz : zOK z) (hF : FixM F) (w : wOK n hs st) (h : rmS n hs st F I) (s : Nat) (hs' : s < n) (x y : Int) (m : Value) (hx : -7 ≤ x ∧ x ≤ 7) (hy : -7 ≤ y ∧ y ≤ 7) : ∀ k i, i + k = (hs s).length → (∃ j, i ≤ j ∧ j < (hs s).length ∧ (hg (hs s) j).1 = x ∧ (hg (hs s) j).2.1 = y) → mm_E d mX11_hit 71 [.ref 120, .int (nI s), .int (iI x), .int (iI y), m, .int (nI i)] [] (z, F, I, L) = some (some (.int (-4)), (z, F, I, L)) := by
  have h8 := w.1
  have hl := (w.2 s hs').1
  have c : (nI s).toNatClampNeg = s := nI_clamp (by omega)
  intro k
  induction k with
  | zero => intro i hi hj; obtain ⟨j, h1, h2, _⟩ := hj; omega
  | succ k ih =>
    intro i hi hj
    have h1 : ¬ nI (hs s).length ≤ nI i := nI_ge (by omega) (by omega)
    have ci : (nI (16 * s + i)).toNatClampNeg = 16 * s + i := nI_clamp (by omega)
    have g := h.2.2.1 s i hs' (by omega)
    have b := hg_b n hs st w hs' (by omega : i < (hs s).length)
    rw [eX11_hit_71]
    by_cases q1 : (hg (hs s) i).1 = x
    · have q1' : (iI (hg (hs s) i).1 = iI x) = True := by rw [q1]; exact eq_self _
      by_cases q2 : (hg (hs s) i).2.1 = y
      · have q2' : (iI (hg (hs s) i).2.1 = iI y) = True := by rw [q2]; exact eq_self _
        simp (disch := first | assumption | decide | exact zO_120 hz | exact zT_121 hz | exact zT_122 hz | exact zT_123 hz | exact zT_124 hz | exact zT_125 hz | exact vi (zl_121 hz) (by omega) (by decide) | exact vi (zl_125 hz) (by omega) (by decide) | exact vi (zl_122 hz) (by omega) (by decide) | exact vi (zl_123 hz) (by omega) (by decide) | exact vi (zl_124 hz) (by omega) (by decide)) only [eX11_hit_73, eX11_hit_74, eX11_hit_77, eX11_hit_78, eX11_hit_79, eX11_hit_82, eX11_hit_83, eX11_hit_86, eX11_hit_88, eX11_hit_89, eX11_hit_90, eX11_hit_92, eX11_hit_93, eX11_hit_94, eX11_hit_95, eX11_hit_98, eX11_hit_99, eX11_hit_102, eX11_hit_104, eX11_hit_105, eX11_hit_106, eX11_hit_108, eX11_hit_109, eX11_hit_110, eX11_hit_111, eX11_hit_114, eX11_hit_116, eX11_hit_117, eX11_hit_120, fM_1 hF, fM_2 hF, fM_3 hF, c, h.2.1 s hs', h1, if_false, pk_mul, nI_add, ci, g.1, g.2.1, q1', q2', not_true_eq_false]
      · have q2' : ¬ iI (hg (hs s) i).2.1 = iI y := fun e => q2 ((iI_eq (by omega) (by omega) (by omega) (by omega)).mp e)
        simp (disch := first | assumption | decide | exact zO_120 hz | exact zT_121 hz | exact zT_122 hz | exact zT_123 hz | exact zT_124 hz | exact zT_125 hz | exact vi (zl_121 hz) (by omega) (by decide) | exact vi (zl_125 hz) (by omega) (by decide) | exact vi (zl_122 hz) (by omega) (by decide) | exact vi (zl_123 hz) (by omega) (by decide) | exact vi (zl_124 hz) (by omega) (by decide)) only [eX11_hit_73, eX11_hit_74, eX11_hit_77, eX11_hit_78, eX11_hit_79, eX11_hit_82, eX11_hit_83, eX11_hit_86, eX11_hit_88, eX11_hit_89, eX11_hit_90, eX11_hit_92, eX11_hit_93, eX11_hit_94, eX11_hit_95, eX11_hit_98, eX11_hit_99, eX11_hit_102, eX11_hit_104, eX11_hit_105, eX11_hit_106, eX11_hit_108, eX11_hit_109, eX11_hit_110, eX11_hit_111, eX11_hit_114, eX11_hit_116, eX11_hit_117, eX11_hit_120, fM_1 hF, fM_2 hF, fM_3 hF, c, h.2.1 s hs', h1, if_false, pk_mul, nI_add, ci, g.1, g.2.1, q1', q2', not_true_eq_false, not_false_eq_true, if_true, nI_1]
        refine ih (i + 1) (by omega) ?_
        obtain ⟨j, j1, j2, j3, j4⟩ := hj
        exact ⟨j, by rcases Nat.lt_or_ge i j with a | a; exact a; exact absurd ((by omega : j = i) ▸ j4) q2, j2, j3, j4⟩
    · have q1' : ¬ iI (hg (hs s) i).1 = iI x := fun e => q1 ((iI_eq (by omega) (by omega) (by omega) (by omega)).mp e)
      simp (disch := first | assumption | decide | exact zO_120 hz | exact zT_121 hz | exact zT_122 hz | exact zT_123 hz | exact zT_124 hz | exact zT_125 hz | exact vi (zl_121 hz) (by omega) (by decide) | exact vi (zl_125 hz) (by omega) (by decide) | exact vi (zl_122 hz) (by omega) (by decide) | exact vi (zl_123 hz) (by omega) (by decide) | exact vi (zl_124 hz) (by omega) (by decide)) only [eX11_hit_73, eX11_hit_74, eX11_hit_77, eX11_hit_78, eX11_hit_79, eX11_hit_82, eX11_hit_83, eX11_hit_86, eX11_hit_88, eX11_hit_89, eX11_hit_90, eX11_hit_92, eX11_hit_93, eX11_hit_94, eX11_hit_95, eX11_hit_98, eX11_hit_99, eX11_hit_102, eX11_hit_104, eX11_hit_105, eX11_hit_106, eX11_hit_108, eX11_hit_109, eX11_hit_110, eX11_hit_111, eX11_hit_114, eX11_hit_116, eX11_hit_117, eX11_hit_120, fM_1 hF, fM_2 hF, fM_3 hF, c, h.2.1 s hs', h1, if_false, pk_mul, nI_add, ci, g.1, g.2.1, q1', not_false_eq_true, if_true, nI_1]
      refine ih (i + 1) (by omega) ?_
      obtain ⟨j, j1, j2, j3, j4⟩ := hj
      exact ⟨j, by rcases Nat.lt_or_ge i j with a | a; exact a; exact absurd ((by omega : j = i) ▸ j3) q1, j2, j3, j4⟩
theorem rM_hit_nodup (d : Nat) (z : mm_Z) (F : Nat → Nat → Value) (I : Nat → Nat → Int32) (L : Nat → Nat → Int64) (n : Nat) (hs : Nat → List (Int × Int × Nat)) (st : Nat → Option (Nat × Nat)) (hz : zOK z) (hF : FixM F) (w : wOK n hs st) (h : rmS n hs st F I) (s : Nat) (hs' : s < n) (x y : Int) (m : Value) (hx : -7 ≤ x ∧ x ≤ 7) (hy : -7 ≤ y ∧ y ≤ 7) (hj : ∀ j, j < (hs s).length → ¬ ((hg (hs s) j).1 = x ∧ (hg (hs s) j).2.1 = y)) : ∀ k i, i + k = (hs s).length → mm_E d mX11_hit 71 [.ref 120, .int (nI s), .int (iI x), .int (iI y), m, .int (nI i)] [] (z, F, I, L) = mm_E d mX11_hit 123 [.ref 120, .int (nI s), .int (iI x), .int (iI y), m, .int (nI (hs s).length)] [] (z, F, I, L) := by
  have h8 := w.1
  have hl := (w.2 s hs').1
  have c : (nI s).toNatClampNeg = s := nI_clamp (by omega)
  intro k
  induction k with
  | zero =>
    intro i hi
    have e : i = (hs s).length := by omega
    have h1 : nI (hs s).length ≤ nI i := nI_le (by omega) (by omega)
    rw [eX11_hit_71]
    simp (disch := first | assumption | decide | exact zO_120 hz | exact zT_121 hz | exact zT_122 hz | exact zT_123 hz | exact zT_124 hz | exact zT_125 hz | exact vi (zl_121 hz) (by omega) (by decide) | exact vi (zl_125 hz) (by omega) (by decide) | exact vi (zl_122 hz) (by omega) (by decide) | exact vi (zl_123 hz) (by omega) (by decide) | exact vi (zl_124 hz) (by omega) (by decide)) only [eX11_hit_73, eX11_hit_74, eX11_hit_77, eX11_hit_78, eX11_hit_79, eX11_hit_82, eX11_hit_83, eX11_hit_86, eX11_hit_88, eX11_hit_89, eX11_hit_90, eX11_hit_92, eX11_hit_93, eX11_hit_94, eX11_hit_95, eX11_hit_98, eX11_hit_99, eX11_hit_102, eX11_hit_104, eX11_hit_105, eX11_hit_106, eX11_hit_108, eX11_hit_109, eX11_hit_110, eX11_hit_111, eX11_hit_114, eX11_hit_116, eX11_hit_117, eX11_hit_120, fM_1 hF, c, h.2.1 s hs', h1, if_true]
    rw [e]
  | succ k ih =>
    intro i hi
    have h1 : ¬ nI (hs s).length ≤ nI i := nI_ge (by omega) (by omega)
    have ci : (nI (16 * s + i)).toNatClampNeg = 16 * s + i := nI_clamp (by omega)
    have g := h.2.2.1 s i hs' (by omega)
    have b := hg_b n hs st w hs' (by omega : i < (hs s).length)
    have q := hj i (by omega)
    rw [eX11_hit_71]
    by_cases q1 : (hg (hs s) i).1 = x
    · have q1' : (iI (hg (hs s) i).1 = iI x) = True := by rw [q1]; exact eq_self _
      have q2' : ¬ iI (hg (hs s) i).2.1 = iI y := fun e => q ⟨q1, (iI_eq (by omega) (by omega) (by omega) (by omega)).mp e⟩
      simp (disch := first | assumption | decide | exact zO_120 hz | exact zT_121 hz | exact zT_122 hz | exact zT_123 hz | exact zT_124 hz | exact zT_125 hz | exact vi (zl_121 hz) (by omega) (by decide) | exact vi (zl_125 hz) (by omega) (by decide) | exact vi (zl_122 hz) (by omega) (by decide) | exact vi (zl_123 hz) (by omega) (by decide) | exact vi (zl_124 hz) (by omega) (by decide)) only [eX11_hit_73, eX11_hit_74, eX11_hit_77, eX11_hit_78, eX11_hit_79, eX11_hit_82, eX11_hit_83, eX11_hit_86, eX11_hit_88, eX11_hit_89, eX11_hit_90, eX11_hit_92, eX11_hit_93, eX11_hit_94, eX11_hit_95, eX11_hit_98, eX11_hit_99, eX11_hit_102, eX11_hit_104, eX11_hit_105, eX11_hit_106, eX11_hit_108, eX11_hit_109, eX11_hit_110, eX11_hit_111, eX11_hit_114, eX11_hit_116, eX11_hit_117, eX11_hit_120, fM_1 hF, fM_2 hF, fM_3 hF, c, h.2.1 s hs', h1, if_false, pk_mul, nI_add, ci, g.1, g.2.1, q1', q2', not_true_eq_false, not_false_eq_true, if_true, nI_1]
      exact ih (i + 1) (by omega)
    · have q1' : ¬ iI (hg (hs s) i).1 = iI x := fun e => q1 ((iI_eq (by omega) (by omega) (by omega) (by omega)).mp e)
      simp (disch := first | assumption | decide | exact zO_120 hz | exact zT_121 hz | exact zT_122 hz | exact zT_123 hz | exact zT_124 hz | exact zT_125 hz | exact vi (zl_121 hz) (by omega) (by decide) | exact vi (zl_125 hz) (by omega) (by decide) | exact vi (zl_122 hz) (by omega) (by decide) | exact vi (zl_123 hz) (by omega) (by decide) | exact vi (zl_124 hz) (by omega) (by decide)) only [eX11_hit_73, eX11_hit_74, eX11_hit_77, eX11_hit_78, eX11_hit_79, eX11_hit_82, eX11_hit_83, eX11_hit_86, eX11_hit_88, eX11_hit_89, eX11_hit_90, eX11_hit_92, eX11_hit_93, eX11_hit_94, eX11_hit_95, eX11_hit_98, eX11_hit_99, eX11_hit_102, eX11_hit_104, eX11_hit_105, eX11_hit_106, eX11_hit_108, eX11_hit_109, eX11_hit_110, eX11_hit_111, eX11_hit_114, eX11_hit_116, eX11_hit_117, eX11_hit_120, fM_1 hF, fM_2 hF, fM_3 hF, c, h.2.1 s hs', h1, if_false, pk_mul, nI_add, ci, g.1, g.2.1, q1', not_false_eq_true, if_true, nI_1]
      exact ih (i + 1) (by omega)
