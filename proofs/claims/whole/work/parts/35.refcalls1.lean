/-! the reference: standing, part, set, hit -/
theorem isS_t {j n : Nat} (h : j < n) (hn : n ≤ 8) : decide (0 ≤ (nI j).toInt ∧ (nI j).toInt < n) = true := by
  rw [nI_toInt (by omega)]
  exact decide_eq_true ⟨by omega, by omega⟩
theorem nI_nm1 {c : Nat} (h : c < 2 ^ 31) : ¬ nI c = -1 := by
  intro e
  rw [← Int32.toInt_inj, nI_toInt h] at e
  have : (-1 : Int32).toInt = -1 := rfl
  omega
/-- whether the reference's row says that it stands -/
theorem rmS_st (n : Nat) (hs : Nat → List (Int × Int × Nat)) (st : Nat → Option (Nat × Nat)) {F : Nat → Nat → Value} {I : Nat → Nat → Int32} (h : rmS n hs st F I) (w : wOK n hs st) {s : Nat} (hs' : s < n) : I 125 s = -1 ↔ st s = none := by
  cases e : st s with
  | none => exact ⟨fun _ => rfl, fun _ => h.2.2.2.1 s hs' e⟩
  | some p =>
    obtain ⟨c, t⟩ := p
    have h1 := h.2.2.2.2 s c t hs' e
    have h2 := ((w.2 s hs').2.2.2 c t e).1
    rw [h1.1]
    exact ⟨fun q => absurd q (nI_nm1 (by omega)), fun q => by simp at q⟩
def cst (st : Nat → Option (Nat × Nat)) : Nat → Nat
  | 0 => 0
  | n + 1 => cst st n + (if st n = none then 0 else 1)
theorem cst_le (st : Nat → Option (Nat × Nat)) (n : Nat) : cst st n ≤ n := by
  induction n with
  | zero => exact Nat.le_refl _
  | succ n ih => unfold cst; split <;> omega
theorem rM_standing_l (d : Nat) (z : mm_Z) (F : Nat → Nat → Value) (I : Nat → Nat → Int32) (L : Nat → Nat → Int64) (n : Nat) (hs : Nat → List (Int × Int × Nat)) (st : Nat → Option (Nat × Nat)) (hz : zOK z) (hF : FixM F) (w : wOK n hs st) (h : rmS n hs st F I) : ∀ k i, i + k = n → mm_E d mX11_standing 4 [.ref 120, .int (nI (cst st i)), .int (nI i)] [] (z, F, I, L) = some (some (.int (nI (cst st n))), (z, F, I, L)) := by
  have h8 := w.1
  have hn := h.1
  intro k
  induction k with
  | zero =>
    intro i hi
    have e : i = n := by omega
    subst e
    rw [eX11_standing_4]
    simp (disch := first | assumption | decide | exact zO_120 hz) only [eX11_standing_0, eX11_standing_1, eX11_standing_2, eX11_standing_3, eX11_standing_5, eX11_standing_6, eX11_standing_9, eX11_standing_12, eX11_standing_13, eX11_standing_14, eX11_standing_17, eX11_standing_18, eX11_standing_19, eX11_standing_20, eX11_standing_23, eX11_standing_24, eX11_standing_27, eX11_standing_28, eX11_standing_29, eX11_standing_30, eX11_standing_33, eX11_standing_36, eX11_standing_37, hn, nI_le (Nat.le_refl i) (by omega), if_true]
  | succ k ih =>
    intro i hi
    have h1 : ¬ nI n ≤ nI i := nI_ge (by omega) (by omega)
    have c : (nI i).toNatClampNeg = i := nI_clamp (by omega)
    rw [eX11_standing_4]
    by_cases e : st i = none
    · have e1 := (rmS_st n hs st h w (by omega : i < n)).mpr e
      have e2 : cst st (i + 1) = cst st i := by rw [cst, if_pos e, Nat.add_zero]
      simp (disch := first | assumption | decide | exact zO_120 hz | exact zT_125 hz | exact vi (zl_125 hz) (by omega) (by decide)) only [eX11_standing_0, eX11_standing_1, eX11_standing_2, eX11_standing_3, eX11_standing_5, eX11_standing_6, eX11_standing_9, eX11_standing_12, eX11_standing_13, eX11_standing_14, eX11_standing_17, eX11_standing_18, eX11_standing_19, eX11_standing_20, eX11_standing_23, eX11_standing_24, eX11_standing_27, eX11_standing_28, eX11_standing_29, eX11_standing_30, eX11_standing_33, eX11_standing_36, eX11_standing_37, hn, h1, if_false, fM_5 hF, c, e1, if_true, nI_1, Int32.add_zero]
      rw [← e2]
      exact ih (i + 1) (by omega)
    · have e1 : ¬ I 125 i = -1 := fun q => e ((rmS_st n hs st h w (by omega : i < n)).mp q)
      have e2 : cst st (i + 1) = cst st i + 1 := by rw [cst, if_neg e]
      simp (disch := first | assumption | decide | exact zO_120 hz | exact zT_125 hz | exact vi (zl_125 hz) (by omega) (by decide)) only [eX11_standing_0, eX11_standing_1, eX11_standing_2, eX11_standing_3, eX11_standing_5, eX11_standing_6, eX11_standing_9, eX11_standing_12, eX11_standing_13, eX11_standing_14, eX11_standing_17, eX11_standing_18, eX11_standing_19, eX11_standing_20, eX11_standing_23, eX11_standing_24, eX11_standing_27, eX11_standing_28, eX11_standing_29, eX11_standing_30, eX11_standing_33, eX11_standing_36, eX11_standing_37, hn, h1, if_false, fM_5 hF, c, e1, nI_1]
      rw [← e2]
      exact ih (i + 1) (by omega)
theorem rM_standing (d : Nat) (z : mm_Z) (F : Nat → Nat → Value) (I : Nat → Nat → Int32) (L : Nat → Nat → Int64) (n : Nat) (hs : Nat → List (Int × Int × Nat)) (st : Nat → Option (Nat × Nat)) (hz : zOK z) (hF : FixM F) (w : wOK n hs st) (h : rmS n hs st F I) : mm_E d mX11_standing 0 [.ref 120, uu, uu] [] (z, F, I, L) = some (some (.int (nI (cst st n))), (z, F, I, L)) := by
  simp (disch := first | assumption | decide | exact zO_120 hz) only [eX11_standing_0, eX11_standing_1, eX11_standing_2, eX11_standing_3]
  exact rM_standing_l d z F I L n hs st hz hF w h n 0 (by omega)
theorem rM_part_unk (d : Nat) (z : mm_Z) (F : Nat → Nat → Value) (I : Nat → Nat → Int32) (L : Nat → Nat → Int64) (n : Nat) (s : Int32) (hz : zOK z) (h8 : n ≤ 8) (hn : F 120 0 = .int (nI n)) (h : ¬ (0 ≤ s.toInt ∧ s.toInt < n)) : mm_E (d + 2) mX11_part 0 [.ref 120, .int s, uu] [] (z, F, I, L) = some (some (.int (-2)), (z, F, I, L)) := by
  simp (disch := first | assumption | decide | exact zO_120 hz) only [eX11_part_0, eX11_part_1, eX11_part_2, eX11_part_5, eX11_part_8, eX11_part_10, eX11_part_11, eX11_part_12, eX11_part_15, eX11_part_16, eX11_part_17, eX11_part_18, eX11_part_21, eX11_part_23, eX11_part_24, eX11_part_25, eX11_part_26, eX11_part_29, eX11_part_30, eX11_part_31, eX11_part_32, eX11_part_33, eX11_part_36, eX11_part_37, eX11_part_38, eX11_part_39, eX11_part_40, eX11_part_41, eX11_part_44, eX11_part_45, eX11_part_46, eX11_part_47, eX11_part_48, rM_isSweep (d := d) (n := n), mm_bd_i, h, decide_false, bI_0, not_true_eq_false, if_false]
theorem rM_part_not (d : Nat) (z : mm_Z) (F : Nat → Nat → Value) (I : Nat → Nat → Int32) (L : Nat → Nat → Int64) (n : Nat) (hs : Nat → List (Int × Int × Nat)) (st : Nat → Option (Nat × Nat)) (hz : zOK z) (hF : FixM F) (w : wOK n hs st) (h : rmS n hs st F I) (s : Nat) (hs' : s < n) (e : st s = none) : mm_E (d + 2) mX11_part 0 [.ref 120, .int (nI s), uu] [] (z, F, I, L) = some (some (.int (-4)), (z, F, I, L)) := by
  have h8 := w.1
  have hn := h.1
  have e1 := h.2.2.2.1 s hs' e
  have c : (nI s).toNatClampNeg = s := nI_clamp (by omega)
  simp (disch := first | assumption | decide | exact zO_120 hz | exact zT_125 hz | exact vi (zl_125 hz) (by omega) (by decide)) only [eX11_part_0, eX11_part_1, eX11_part_2, eX11_part_5, eX11_part_8, eX11_part_10, eX11_part_11, eX11_part_12, eX11_part_15, eX11_part_16, eX11_part_17, eX11_part_18, eX11_part_21, eX11_part_23, eX11_part_24, eX11_part_25, eX11_part_26, eX11_part_29, eX11_part_30, eX11_part_31, eX11_part_32, eX11_part_33, eX11_part_36, eX11_part_37, eX11_part_38, eX11_part_39, eX11_part_40, eX11_part_41, eX11_part_44, eX11_part_45, eX11_part_46, eX11_part_47, eX11_part_48, rM_isSweep (d := d) (n := n), mm_bd_i, isS_t hs' h8, bI_0, Bool.true_eq_false, not_false_eq_true, if_true, fM_5 hF, c, e1, not_true_eq_false, if_false]
theorem rM_part (d : Nat) (z : mm_Z) (F : Nat → Nat → Value) (I : Nat → Nat → Int32) (L : Nat → Nat → Int64) (n : Nat) (hs : Nat → List (Int × Int × Nat)) (st : Nat → Option (Nat × Nat)) (hz : zOK z) (hF : FixM F) (w : wOK n hs st) (h : rmS n hs st F I) (s cc t : Nat) (hs' : s < n) (e : st s = some (cc, t)) : mm_E (d + 2) mX11_part 0 [.ref 120, .int (nI s), uu] [] (z, F, I, L) = some (some (.int (nI (4 * cc + t))), (z, F, mm_up2 I 125 s (-1), L)) := by
  have h8 := w.1
  have hn := h.1
  have e1 := h.2.2.2.2 s cc t hs' e
  have e2 := ((w.2 s hs').2.2.2 cc t e).1
  have e3 : ¬ nI cc = -1 := nI_nm1 (by omega)
  have c : (nI s).toNatClampNeg = s := nI_clamp (by omega)
  simp (disch := first | assumption | decide | exact zO_120 hz | exact zT_125 hz | exact zT_126 hz | exact vi (zl_125 hz) (by omega) (by decide) | exact vi (zl_126 hz) (by omega) (by decide)) only [eX11_part_0, eX11_part_1, eX11_part_2, eX11_part_5, eX11_part_8, eX11_part_10, eX11_part_11, eX11_part_12, eX11_part_15, eX11_part_16, eX11_part_17, eX11_part_18, eX11_part_21, eX11_part_23, eX11_part_24, eX11_part_25, eX11_part_26, eX11_part_29, eX11_part_30, eX11_part_31, eX11_part_32, eX11_part_33, eX11_part_36, eX11_part_37, eX11_part_38, eX11_part_39, eX11_part_40, eX11_part_41, eX11_part_44, eX11_part_45, eX11_part_46, eX11_part_47, eX11_part_48, rM_isSweep (d := d) (n := n), mm_bd_i, isS_t hs' h8, bI_0, Bool.true_eq_false, not_false_eq_true, if_true, fM_5 hF, fM_6 hF, c, e1.1, e1.2, e3, pk_mul, nI_add]
theorem rmS_part (n : Nat) (hs : Nat → List (Int × Int × Nat)) (st : Nat → Option (Nat × Nat)) {F : Nat → Nat → Value} {I : Nat → Nat → Int32} (h : rmS n hs st F I) (s : Nat) : rmS n hs (udf st s none) F (mm_up2 I 125 s (-1)) := by
  obtain ⟨h0, h1, h2, h3, h4⟩ := h
  refine ⟨h0, ?_, ?_, ?_, ?_⟩
  · intro a ha
    rw [up_r _ _ _ _ (by decide)]; exact h1 a ha
  · intro a k ha hk
    rw [up_r _ _ _ _ (by decide), up_r _ _ _ _ (by decide), up_r _ _ _ _ (by decide)]; exact h2 a k ha hk
  · intro a ha hn
    by_cases e : a = s
    · subst e; rw [up_s]
    · rw [udf_n _ _ e] at hn
      rw [up_k _ _ _ _ e]; exact h3 a ha hn
  · intro a c t ha hn
    by_cases e : a = s
    · subst e; rw [udf_s] at hn; exact absurd hn (by simp)
    · rw [udf_n _ _ e] at hn
      rw [up_k _ _ _ _ e, up_r _ _ _ _ (by decide)]; exact h4 a c t ha hn
theorem wOK_part (n : Nat) (hs : Nat → List (Int × Int × Nat)) (st : Nat → Option (Nat × Nat)) (h : wOK n hs st) (a : Nat) : wOK n hs (udf st a none) := by
  refine ⟨h.1, ?_⟩
  intro s hs'
  have g := h.2 s hs'
  refine ⟨g.1, g.2.1, g.2.2.1, ?_⟩
  intro c t e
  by_cases q : s = a
  · subst q; rw [udf_s] at e; exact absurd e (by simp)
  · rw [udf_n _ _ q] at e; exact g.2.2.2 c t e
/-- the three limits -/
def rmL (l : Nat → Nat) (F : Nat → Nat → Value) : Prop := F 120 7 = .int (nI (l 0)) ∧ F 120 8 = .int (nI (l 1)) ∧ F 120 9 = .int (nI (l 2))
def okSet (a v : Int32) : Prop := (0 ≤ a.toInt ∧ a.toInt ≤ 2) ∧ (0 ≤ v.toInt ∧ v.toInt ≤ if a = nI 2 then 10 else 16)
theorem rM_set_out (d : Nat) (z : mm_Z) (F : Nat → Nat → Value) (I : Nat → Nat → Int32) (L : Nat → Nat → Int64) (a v : Int32) (h : ¬ okSet a v) : mm_E (d + 1) mX11_set 0 [.ref 120, .int a, .int v, uu] [] (z, F, I, L) = some (some (.int (-3)), (z, F, I, L)) := by
  have e0 : (0 : Int32).toInt = 0 := rfl
  have e2 : (nI 2).toInt = 2 := rfl
  have e10 : (nI 10).toInt = 10 := rfl
  have e16 : (nI 16).toInt = 16 := rfl
  unfold okSet at h
  by_cases h1 : 0 ≤ a.toInt ∧ a.toInt ≤ 2
  · by_cases h2 : a = nI 2
    · have h3 : ¬ (0 ≤ v.toInt ∧ v.toInt ≤ 10) := by rw [if_pos h2] at h; exact fun q => h ⟨h1, q⟩
      subst h2
      simp (disch := first | assumption | decide) only [eX11_set_0, eX11_set_1, eX11_set_2, eX11_set_3, eX11_set_6, eX11_set_9, eX11_set_10, eX11_set_11, eX11_set_12, eX11_set_13, eX11_set_16, eX11_set_18, eX11_set_21, eX11_set_23, eX11_set_26, eX11_set_29, eX11_set_31, eX11_set_32, eX11_set_33, eX11_set_36, eX11_set_37, eX11_set_40, eX11_set_43, eX11_set_44, eX11_set_45, eX11_set_48, eX11_set_49, eX11_set_52, eX11_set_55, eX11_set_56, eX11_set_59, eX11_set_60, eX11_set_61, eX11_set_62, eX11_set_65, eX11_set_66, eX11_set_69, eX11_set_70, eX11_set_73, eX11_set_76, eX11_set_77, eX11_set_78, eX11_set_79, eX11_set_82, eX11_set_83, eX11_set_86, eX11_set_87, eX11_set_90, eX11_set_93, eX11_set_94, eX11_set_95, eX11_set_96, eX11_set_99, eX11_set_100, eX11_set_103, eX11_set_104, eX11_set_107, eX11_set_110, eX11_set_111, rM_in, mm_bd_i, e0, e2, e10, h3, decide_false, bI_0, not_true_eq_false, if_false, if_true]
      split <;> rfl
    · have h3 : ¬ (0 ≤ v.toInt ∧ v.toInt ≤ 16) := by rw [if_neg h2] at h; exact fun q => h ⟨h1, q⟩
      simp (disch := first | assumption | decide) only [eX11_set_0, eX11_set_1, eX11_set_2, eX11_set_3, eX11_set_6, eX11_set_9, eX11_set_10, eX11_set_11, eX11_set_12, eX11_set_13, eX11_set_16, eX11_set_18, eX11_set_21, eX11_set_23, eX11_set_26, eX11_set_29, eX11_set_31, eX11_set_32, eX11_set_33, eX11_set_36, eX11_set_37, eX11_set_40, eX11_set_43, eX11_set_44, eX11_set_45, eX11_set_48, eX11_set_49, eX11_set_52, eX11_set_55, eX11_set_56, eX11_set_59, eX11_set_60, eX11_set_61, eX11_set_62, eX11_set_65, eX11_set_66, eX11_set_69, eX11_set_70, eX11_set_73, eX11_set_76, eX11_set_77, eX11_set_78, eX11_set_79, eX11_set_82, eX11_set_83, eX11_set_86, eX11_set_87, eX11_set_90, eX11_set_93, eX11_set_94, eX11_set_95, eX11_set_96, eX11_set_99, eX11_set_100, eX11_set_103, eX11_set_104, eX11_set_107, eX11_set_110, eX11_set_111, rM_in, mm_bd_i, e0, e2, e16, h1, h2, h3, and_self, decide_false, decide_true, bI_0, not_true_eq_false, not_false_eq_true, if_false, if_true, Bool.true_eq_false]
  · simp (disch := first | assumption | decide) only [eX11_set_0, eX11_set_1, eX11_set_2, eX11_set_3, eX11_set_6, eX11_set_9, eX11_set_10, eX11_set_11, eX11_set_12, eX11_set_13, eX11_set_16, eX11_set_18, eX11_set_21, eX11_set_23, eX11_set_26, eX11_set_29, eX11_set_31, eX11_set_32, eX11_set_33, eX11_set_36, eX11_set_37, eX11_set_40, eX11_set_43, eX11_set_44, eX11_set_45, eX11_set_48, eX11_set_49, eX11_set_52, eX11_set_55, eX11_set_56, eX11_set_59, eX11_set_60, eX11_set_61, eX11_set_62, eX11_set_65, eX11_set_66, eX11_set_69, eX11_set_70, eX11_set_73, eX11_set_76, eX11_set_77, eX11_set_78, eX11_set_79, eX11_set_82, eX11_set_83, eX11_set_86, eX11_set_87, eX11_set_90, eX11_set_93, eX11_set_94, eX11_set_95, eX11_set_96, eX11_set_99, eX11_set_100, eX11_set_103, eX11_set_104, eX11_set_107, eX11_set_110, eX11_set_111, rM_in, mm_bd_i, e0, e2, h1, decide_false, bI_0, if_true]
theorem rM_set (d : Nat) (z : mm_Z) (F : Nat → Nat → Value) (I : Nat → Nat → Int32) (L : Nat → Nat → Int64) (l : Nat → Nat) (hz : zOK z) (hF : FixM F) (h : rmL l F) (k v : Nat) (hk : k < 3) (hv : v ≤ if k = 2 then 10 else 16) : ∃ F', mm_E (d + 1) mX11_set 0 [.ref 120, .int (nI k), .int (nI v), uu] [] (z, F, I, L) = some (some (.int (nI (l k))), (z, F', I, L)) ∧ rmL (udf l k v) F' ∧ FixM F' ∧ ∀ r j, ¬ (r = 120 ∧ (j = 7 ∨ j = 8 ∨ j = 9)) → F' r j = F r j := by
  obtain ⟨g0, g1, g2⟩ := h
  have e0 : (0 : Int32).toInt = 0 := rfl
  have e2 : (nI 2).toInt = 2 := rfl
  have e10 : (nI 10).toInt = 10 := rfl
  have e16 : (nI 16).toInt = 16 := rfl
  have hv' : v ≤ 16 := by split at hv <;> omega
  have ev : (nI v).toInt = v := nI_toInt (by omega)
  have hk' : k = 0 ∨ k = 1 ∨ k = 2 := by omega
  have fr : ∀ u0 u1 u2 : Value, FixM (mm_up2 (mm_up2 (mm_up2 F 120 7 u0) 120 8 u1) 120 9 u2) ∧ ∀ r j, ¬ (r = 120 ∧ (j = 7 ∨ j = 8 ∨ j = 9)) → mm_up2 (mm_up2 (mm_up2 F 120 7 u0) 120 8 u1) 120 9 u2 r j = F r j := by
    intro u0 u1 u2
    refine ⟨FixM_up (FixM_up (FixM_up hF (by decide)) (by decide)) (by decide), ?_⟩
    intro r j hn
    unfold mm_up2
    rw [if_neg (by omega), if_neg (by omega), if_neg (by omega)]
  rcases hk' with rfl | rfl | rfl
  · have c1 : decide ((0 : Int) ≤ (nI 0).toInt ∧ (nI 0).toInt ≤ 2) = true := by decide
    have c2 : decide ((0 : Int) ≤ v ∧ (v : Int) ≤ 16) = true := decide_eq_true ⟨by omega, by omega⟩
    have c3 : ¬ nI 0 = nI 2 := by decide
    have c4 : (nI 0 = 0) = True := by decide
    have c5 : ¬ nI 0 = 1 := by decide
    refine ⟨mm_up2 (mm_up2 (mm_up2 F 120 7 (.int (nI v))) 120 8 (F 120 8)) 120 9 (F 120 9), ?_, ?_, fr _ _ _⟩
    · simp (disch := first | assumption | decide | exact zO_120 hz) only [eX11_set_0, eX11_set_1, eX11_set_2, eX11_set_3, eX11_set_6, eX11_set_9, eX11_set_10, eX11_set_11, eX11_set_12, eX11_set_13, eX11_set_16, eX11_set_18, eX11_set_21, eX11_set_23, eX11_set_26, eX11_set_29, eX11_set_31, eX11_set_32, eX11_set_33, eX11_set_36, eX11_set_37, eX11_set_40, eX11_set_43, eX11_set_44, eX11_set_45, eX11_set_48, eX11_set_49, eX11_set_52, eX11_set_55, eX11_set_56, eX11_set_59, eX11_set_60, eX11_set_61, eX11_set_62, eX11_set_65, eX11_set_66, eX11_set_69, eX11_set_70, eX11_set_73, eX11_set_76, eX11_set_77, eX11_set_78, eX11_set_79, eX11_set_82, eX11_set_83, eX11_set_86, eX11_set_87, eX11_set_90, eX11_set_93, eX11_set_94, eX11_set_95, eX11_set_96, eX11_set_99, eX11_set_100, eX11_set_103, eX11_set_104, eX11_set_107, eX11_set_110, eX11_set_111, rM_in, mm_bd_i, e0, e2, e10, e16, ev, c1, c2, c3, c4, c5, bI_0, Bool.true_eq_false, if_false, not_false_eq_true, not_true_eq_false, if_true, g0, g1, g2, up_k, up_s]
    · refine ⟨?_, ?_, ?_⟩ <;> simp [mm_up2, udf, g0, g1, g2]
  · have c1 : decide ((0 : Int) ≤ (nI 1).toInt ∧ (nI 1).toInt ≤ 2) = true := by decide
    have c2 : decide ((0 : Int) ≤ v ∧ (v : Int) ≤ 16) = true := decide_eq_true ⟨by omega, by omega⟩
    have c3 : ¬ nI 1 = nI 2 := by decide
    have c4 : (nI 1 = 1) = True := by decide
    have c5 : ¬ nI 1 = 0 := by decide
    refine ⟨mm_up2 (mm_up2 (mm_up2 F 120 7 (F 120 7)) 120 8 (.int (nI v))) 120 9 (F 120 9), ?_, ?_, fr _ _ _⟩
    · simp (disch := first | assumption | decide | exact zO_120 hz) only [eX11_set_0, eX11_set_1, eX11_set_2, eX11_set_3, eX11_set_6, eX11_set_9, eX11_set_10, eX11_set_11, eX11_set_12, eX11_set_13, eX11_set_16, eX11_set_18, eX11_set_21, eX11_set_23, eX11_set_26, eX11_set_29, eX11_set_31, eX11_set_32, eX11_set_33, eX11_set_36, eX11_set_37, eX11_set_40, eX11_set_43, eX11_set_44, eX11_set_45, eX11_set_48, eX11_set_49, eX11_set_52, eX11_set_55, eX11_set_56, eX11_set_59, eX11_set_60, eX11_set_61, eX11_set_62, eX11_set_65, eX11_set_66, eX11_set_69, eX11_set_70, eX11_set_73, eX11_set_76, eX11_set_77, eX11_set_78, eX11_set_79, eX11_set_82, eX11_set_83, eX11_set_86, eX11_set_87, eX11_set_90, eX11_set_93, eX11_set_94, eX11_set_95, eX11_set_96, eX11_set_99, eX11_set_100, eX11_set_103, eX11_set_104, eX11_set_107, eX11_set_110, eX11_set_111, rM_in, mm_bd_i, e0, e2, e10, e16, ev, c1, c2, c3, c4, c5, bI_0, Bool.true_eq_false, if_false, not_false_eq_true, not_true_eq_false, if_true, g0, g1, g2, up_k, up_s]
    · refine ⟨?_, ?_, ?_⟩ <;> simp [mm_up2, udf, g0, g1, g2]
  · have c1 : decide ((0 : Int) ≤ 2 ∧ (2 : Int) ≤ 2) = true := by decide
    have hv'' : v ≤ 10 := hv
    have c2 : decide ((0 : Int) ≤ v ∧ (v : Int) ≤ 10) = true := decide_eq_true ⟨by omega, by omega⟩
    have c3 : ¬ nI 2 = 0 := by decide
    have c4 : (nI 2 = nI 2) = True := by decide
    have c5 : ¬ nI 2 = 1 := by decide
    refine ⟨mm_up2 (mm_up2 (mm_up2 F 120 7 (F 120 7)) 120 8 (F 120 8)) 120 9 (.int (nI v)), ?_, ?_, fr _ _ _⟩
    · simp (disch := first | assumption | decide | exact zO_120 hz) only [eX11_set_0, eX11_set_1, eX11_set_2, eX11_set_3, eX11_set_6, eX11_set_9, eX11_set_10, eX11_set_11, eX11_set_12, eX11_set_13, eX11_set_16, eX11_set_18, eX11_set_21, eX11_set_23, eX11_set_26, eX11_set_29, eX11_set_31, eX11_set_32, eX11_set_33, eX11_set_36, eX11_set_37, eX11_set_40, eX11_set_43, eX11_set_44, eX11_set_45, eX11_set_48, eX11_set_49, eX11_set_52, eX11_set_55, eX11_set_56, eX11_set_59, eX11_set_60, eX11_set_61, eX11_set_62, eX11_set_65, eX11_set_66, eX11_set_69, eX11_set_70, eX11_set_73, eX11_set_76, eX11_set_77, eX11_set_78, eX11_set_79, eX11_set_82, eX11_set_83, eX11_set_86, eX11_set_87, eX11_set_90, eX11_set_93, eX11_set_94, eX11_set_95, eX11_set_96, eX11_set_99, eX11_set_100, eX11_set_103, eX11_set_104, eX11_set_107, eX11_set_110, eX11_set_111, rM_in, mm_bd_i, e0, e2, e10, e16, ev, c1, c2, c3, c4, c5, bI_0, Bool.true_eq_false, if_false, not_false_eq_true, not_true_eq_false, if_true, g0, g1, g2, up_k, up_s]
    · refine ⟨?_, ?_, ?_⟩ <;> simp [mm_up2, udf, g0, g1, g2]
