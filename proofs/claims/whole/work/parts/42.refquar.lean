/-! the reference: quarrels, quarrelsOf -/
def sumT (f : Nat → Nat) : Nat → Nat
  | 0 => 0
  | k + 1 => sumT f k + f k
theorem sumT_le (f : Nat → Nat) (b : Nat) (h : ∀ j, f j ≤ b) : ∀ k, sumT f k ≤ b * k := by
  intro k
  induction k with
  | zero => exact Nat.le_refl _
  | succ k ih => have := h k; rw [sumT, Nat.mul_succ]; omega
theorem sumT_congr {f g : Nat → Nat} : ∀ k, (∀ j, j < k → f j = g j) → sumT f k = sumT g k := by
  intro k
  induction k with
  | zero => intro _; rfl
  | succ k ih => intro h; rw [sumT, sumT, ih (fun j hj => h j (by omega)), h k (by omega)]
/-- the rows of sweep s are p (0, or the mark and 1) and u (beams) -/
def rowIs (I : Nat → Nat → Int32) (s : Nat) (p : Nat → Nat) (u : Nat → Bool) : Prop := ∀ a, a < 64 → I 128 (64 * s + a) = nI (p a) ∧ I 129 (64 * s + a) = bI (u a) ∧ p a ≤ 10
def q1 (p : Nat) (v : Bool) : Nat := if 0 < p ∧ v = true then 1 else 0
def q3 (p q : Nat) : Nat := if 1 < p ∧ 1 < q ∧ ¬ p = q then 1 else 0
theorem le0_nI {p : Nat} (h : p ≤ 10) : nI p ≤ 0 ↔ p = 0 := by
  have := nI_leI (a := p) (b := 0) (by omega) (by decide)
  rw [nI_0] at this
  rw [this]; omega
theorem le1_nI {p : Nat} (h : p ≤ 10) : nI p ≤ 1 ↔ p ≤ 1 := nI_leI (a := p) (b := 1) (by omega) (by decide)
theorem bI_1 (b : Bool) : bI b = 1 ↔ b = true := by cases b <;> decide
theorem rM_quar_1 (d : Nat) (z : mm_Z) (F : Nat → Nat → Value) (I : Nat → Nat → Int32) (L : Nat → Nat → Int64) (hz : zOK z) (hF : FixM F) (s o c m p : Nat) (v : Bool) (b1 b6 : Value) (ho : o < 8) (hc : c < 64) (hp : p ≤ 10) (hv : I 129 (64 * o + c) = bI v) : mm_E d mX11_quarrels 40 [.ref 120, b1, .int (nI o), .int (nI m), .int (nI c), .int (nI p), b6] [] (z, F, I, L) = mm_E d mX11_quarrels 69 [.ref 120, b1, .int (nI o), .int (nI (m + q1 p v)), .int (nI c), .int (nI p), b6] [] (z, F, I, L) := by
  have v1 : vp_in (nI (64 * o + c)) (mm_zl z 129) := vi (zl_129 hz) (by omega) (by decide)
  have c1 : (nI (64 * o + c)).toNatClampNeg = 64 * o + c := nI_clamp (by omega)
  have m1 : nI 64 * nI o + nI c = nI (64 * o + c) := by rw [pk_mul, nI_add]
  by_cases h : p = 0
  · have e : nI p ≤ 0 := (le0_nI hp).mpr h
    have t : q1 p v = 0 := by unfold q1; rw [if_neg (by omega)]
    simp (disch := first | assumption | decide | exact zO_120 hz | exact zT_125 hz | exact zT_128 hz | exact zT_129 hz | exact bI_or _) only [eX11_quarrels_40, eX11_quarrels_41, eX11_quarrels_43, eX11_quarrels_46, eX11_quarrels_47, eX11_quarrels_50, eX11_quarrels_52, eX11_quarrels_53, eX11_quarrels_54, eX11_quarrels_56, eX11_quarrels_57, eX11_quarrels_58, eX11_quarrels_59, eX11_quarrels_62, eX11_quarrels_63, eX11_quarrels_66, eX11_quarrels_67, eX11_quarrels_68, e, if_true, t, Int32.add_zero, Nat.add_zero]
  · have e : ¬ nI p ≤ 0 := fun q => h ((le0_nI hp).mp q)
    by_cases g : v = true
    · have t : q1 p v = 1 := by unfold q1; rw [if_pos ⟨by omega, g⟩]
      have e2 : bI v = 1 := (bI_1 v).mpr g
      simp (disch := first | assumption | decide | exact zO_120 hz | exact zT_125 hz | exact zT_128 hz | exact zT_129 hz | exact bI_or _) only [eX11_quarrels_40, eX11_quarrels_41, eX11_quarrels_43, eX11_quarrels_46, eX11_quarrels_47, eX11_quarrels_50, eX11_quarrels_52, eX11_quarrels_53, eX11_quarrels_54, eX11_quarrels_56, eX11_quarrels_57, eX11_quarrels_58, eX11_quarrels_59, eX11_quarrels_62, eX11_quarrels_63, eX11_quarrels_66, eX11_quarrels_67, eX11_quarrels_68, e, if_false, fM_12 hF, m1, c1, hv, e2, not_true_eq_false, t, nI_1]
    · have t : q1 p v = 0 := by unfold q1; rw [if_neg (fun q => g q.2)]
      have e2 : ¬ bI v = 1 := fun q => g ((bI_1 v).mp q)
      simp (disch := first | assumption | decide | exact zO_120 hz | exact zT_125 hz | exact zT_128 hz | exact zT_129 hz | exact bI_or _) only [eX11_quarrels_40, eX11_quarrels_41, eX11_quarrels_43, eX11_quarrels_46, eX11_quarrels_47, eX11_quarrels_50, eX11_quarrels_52, eX11_quarrels_53, eX11_quarrels_54, eX11_quarrels_56, eX11_quarrels_57, eX11_quarrels_58, eX11_quarrels_59, eX11_quarrels_62, eX11_quarrels_63, eX11_quarrels_66, eX11_quarrels_67, eX11_quarrels_68, e, if_false, fM_12 hF, m1, c1, hv, e2, not_false_eq_true, if_true, t, Int32.add_zero, Nat.add_zero]
theorem rM_quar_2 (d : Nat) (z : mm_Z) (F : Nat → Nat → Value) (I : Nat → Nat → Int32) (L : Nat → Nat → Int64) (hz : zOK z) (hF : FixM F) (s c m q : Nat) (u : Bool) (b2 b5 : Value) (hs : s < 8) (hc : c < 64) (hq : q ≤ 10) (hu : I 129 (64 * s + c) = bI u) : mm_E d mX11_quarrels 69 [.ref 120, .int (nI s), b2, .int (nI m), .int (nI c), b5, .int (nI q)] [] (z, F, I, L) = mm_E d mX11_quarrels 98 [.ref 120, .int (nI s), b2, .int (nI (m + q1 q u)), .int (nI c), b5, .int (nI q)] [] (z, F, I, L) := by
  have v1 : vp_in (nI (64 * s + c)) (mm_zl z 129) := vi (zl_129 hz) (by omega) (by decide)
  have c1 : (nI (64 * s + c)).toNatClampNeg = 64 * s + c := nI_clamp (by omega)
  have m1 : nI 64 * nI s + nI c = nI (64 * s + c) := by rw [pk_mul, nI_add]
  by_cases h : q = 0
  · have e : nI q ≤ 0 := (le0_nI hq).mpr h
    have t : q1 q u = 0 := by unfold q1; rw [if_neg (by omega)]
    simp (disch := first | assumption | decide | exact zO_120 hz | exact zT_125 hz | exact zT_128 hz | exact zT_129 hz | exact bI_or _) only [eX11_quarrels_69, eX11_quarrels_70, eX11_quarrels_72, eX11_quarrels_75, eX11_quarrels_76, eX11_quarrels_79, eX11_quarrels_81, eX11_quarrels_82, eX11_quarrels_83, eX11_quarrels_85, eX11_quarrels_86, eX11_quarrels_87, eX11_quarrels_88, eX11_quarrels_91, eX11_quarrels_92, eX11_quarrels_95, eX11_quarrels_96, eX11_quarrels_97, e, if_true, t, Int32.add_zero, Nat.add_zero]
  · have e : ¬ nI q ≤ 0 := fun r => h ((le0_nI hq).mp r)
    by_cases g : u = true
    · have t : q1 q u = 1 := by unfold q1; rw [if_pos ⟨by omega, g⟩]
      have e2 : bI u = 1 := (bI_1 u).mpr g
      simp (disch := first | assumption | decide | exact zO_120 hz | exact zT_125 hz | exact zT_128 hz | exact zT_129 hz | exact bI_or _) only [eX11_quarrels_69, eX11_quarrels_70, eX11_quarrels_72, eX11_quarrels_75, eX11_quarrels_76, eX11_quarrels_79, eX11_quarrels_81, eX11_quarrels_82, eX11_quarrels_83, eX11_quarrels_85, eX11_quarrels_86, eX11_quarrels_87, eX11_quarrels_88, eX11_quarrels_91, eX11_quarrels_92, eX11_quarrels_95, eX11_quarrels_96, eX11_quarrels_97, e, if_false, fM_12 hF, m1, c1, hu, e2, not_true_eq_false, t, nI_1]
    · have t : q1 q u = 0 := by unfold q1; rw [if_neg (fun r => g r.2)]
      have e2 : ¬ bI u = 1 := fun r => g ((bI_1 u).mp r)
      simp (disch := first | assumption | decide | exact zO_120 hz | exact zT_125 hz | exact zT_128 hz | exact zT_129 hz | exact bI_or _) only [eX11_quarrels_69, eX11_quarrels_70, eX11_quarrels_72, eX11_quarrels_75, eX11_quarrels_76, eX11_quarrels_79, eX11_quarrels_81, eX11_quarrels_82, eX11_quarrels_83, eX11_quarrels_85, eX11_quarrels_86, eX11_quarrels_87, eX11_quarrels_88, eX11_quarrels_91, eX11_quarrels_92, eX11_quarrels_95, eX11_quarrels_96, eX11_quarrels_97, e, if_false, fM_12 hF, m1, c1, hu, e2, not_false_eq_true, if_true, t, Int32.add_zero, Nat.add_zero]
theorem rM_quar_3 (d : Nat) (z : mm_Z) (F : Nat → Nat → Value) (I : Nat → Nat → Int32) (L : Nat → Nat → Int64) (b0 b1 b2 : Value) (c m p q : Nat) (hp : p ≤ 10) (hq : q ≤ 10) : mm_E d mX11_quarrels 98 [b0, b1, b2, .int (nI m), .int (nI c), .int (nI p), .int (nI q)] [] (z, F, I, L) = mm_E d mX11_quarrels 5 [b0, b1, b2, .int (nI (m + q3 p q)), .int (nI (c + 1)), .int (nI p), .int (nI q)] [] (z, F, I, L) := by
  by_cases h1 : p ≤ 1
  · have e1 := (le1_nI hp).mpr h1
    have t : q3 p q = 0 := by unfold q3; rw [if_neg (by omega)]
    simp (disch := first | assumption | decide) only [eX11_quarrels_98, eX11_quarrels_99, eX11_quarrels_101, eX11_quarrels_102, eX11_quarrels_105, eX11_quarrels_107, eX11_quarrels_108, eX11_quarrels_111, eX11_quarrels_113, eX11_quarrels_115, eX11_quarrels_118, eX11_quarrels_119, eX11_quarrels_122, eX11_quarrels_123, eX11_quarrels_124, eX11_quarrels_125, eX11_quarrels_128, e1, if_true, t, Int32.add_zero, Nat.add_zero, nI_1]
  · have e1 : ¬ nI p ≤ 1 := fun r => h1 ((le1_nI hp).mp r)
    by_cases h2 : q ≤ 1
    · have e2 := (le1_nI hq).mpr h2
      have t : q3 p q = 0 := by unfold q3; rw [if_neg (by omega)]
      simp (disch := first | assumption | decide) only [eX11_quarrels_98, eX11_quarrels_99, eX11_quarrels_101, eX11_quarrels_102, eX11_quarrels_105, eX11_quarrels_107, eX11_quarrels_108, eX11_quarrels_111, eX11_quarrels_113, eX11_quarrels_115, eX11_quarrels_118, eX11_quarrels_119, eX11_quarrels_122, eX11_quarrels_123, eX11_quarrels_124, eX11_quarrels_125, eX11_quarrels_128, e1, e2, if_false, if_true, t, Int32.add_zero, Nat.add_zero, nI_1]
    · have e2 : ¬ nI q ≤ 1 := fun r => h2 ((le1_nI hq).mp r)
      by_cases h3 : p = q
      · have e3 : (nI p = nI q) = True := by rw [h3]; exact eq_self _
        have t : q3 p q = 0 := by unfold q3; rw [if_neg (by omega)]
        simp (disch := first | assumption | decide) only [eX11_quarrels_98, eX11_quarrels_99, eX11_quarrels_101, eX11_quarrels_102, eX11_quarrels_105, eX11_quarrels_107, eX11_quarrels_108, eX11_quarrels_111, eX11_quarrels_113, eX11_quarrels_115, eX11_quarrels_118, eX11_quarrels_119, eX11_quarrels_122, eX11_quarrels_123, eX11_quarrels_124, eX11_quarrels_125, eX11_quarrels_128, e1, e2, e3, if_false, if_true, t, Int32.add_zero, Nat.add_zero, nI_1]
      · have e3 : ¬ nI p = nI q := fun r => h3 ((nI_eq (by omega) (by omega)).mp r)
        have t : q3 p q = 1 := by unfold q3; rw [if_pos (by omega)]
        simp (disch := first | assumption | decide) only [eX11_quarrels_98, eX11_quarrels_99, eX11_quarrels_101, eX11_quarrels_102, eX11_quarrels_105, eX11_quarrels_107, eX11_quarrels_108, eX11_quarrels_111, eX11_quarrels_113, eX11_quarrels_115, eX11_quarrels_118, eX11_quarrels_119, eX11_quarrels_122, eX11_quarrels_123, eX11_quarrels_124, eX11_quarrels_125, eX11_quarrels_128, e1, e2, e3, if_false, t, nI_1]
def qAt (p : Nat → Nat) (u : Nat → Bool) (q : Nat → Nat) (v : Nat → Bool) (c : Nat) : Nat := q1 (p c) (v c) + q1 (q c) (u c) + q3 (p c) (q c)
theorem rM_quar_l (d : Nat) (z : mm_Z) (F : Nat → Nat → Value) (I : Nat → Nat → Int32) (L : Nat → Nat → Int64) (hz : zOK z) (hF : FixM F) (s o : Nat) (hs : s < 8) (ho : o < 8) (p q : Nat → Nat) (u v : Nat → Bool) (hp : rowIs I s p u) (hq : rowIs I o q v) : ∀ k i, i + k = 64 → ∀ a5 a6 : Value, mm_E d mX11_quarrels 5 [.ref 120, .int (nI s), .int (nI o), .int (nI (sumT (qAt p u q v) i)), .int (nI i), a5, a6] [] (z, F, I, L) = some (some (.int (nI (sumT (qAt p u q v) 64))), (z, F, I, L)) := by
  intro k
  induction k with
  | zero =>
    intro i hi a5 a6
    have e : i = 64 := by omega
    subst e
    rw [eX11_quarrels_5]
    simp (disch := first | assumption | decide | exact zO_120 hz | exact zT_125 hz | exact zT_128 hz | exact zT_129 hz | exact bI_or _) only [eX11_quarrels_7, eX11_quarrels_9, eX11_quarrels_131, eX11_quarrels_132, nI_le (Nat.le_refl 64) (by decide), if_true]
  | succ k ih =>
    intro i hi a5 a6
    have h1 : ¬ nI 64 ≤ nI i := nI_ge (by omega) (by decide)
    have gp := hp i (by omega)
    have gq := hq i (by omega)
    have v1 : vp_in (nI (64 * s + i)) (mm_zl z 128) := vi (zl_128 hz) (by omega) (by decide)
    have v2 : vp_in (nI (64 * o + i)) (mm_zl z 128) := vi (zl_128 hz) (by omega) (by decide)
    have c1 : (nI (64 * s + i)).toNatClampNeg = 64 * s + i := nI_clamp (by omega)
    have c2 : (nI (64 * o + i)).toNatClampNeg = 64 * o + i := nI_clamp (by omega)
    rw [eX11_quarrels_5]
    simp (disch := first | assumption | decide | exact zO_120 hz | exact zT_125 hz | exact zT_128 hz | exact zT_129 hz | exact bI_or _) only [eX11_quarrels_7, eX11_quarrels_9, eX11_quarrels_12, eX11_quarrels_13, eX11_quarrels_16, eX11_quarrels_18, eX11_quarrels_19, eX11_quarrels_20, eX11_quarrels_22, eX11_quarrels_23, eX11_quarrels_24, eX11_quarrels_26, eX11_quarrels_27, eX11_quarrels_30, eX11_quarrels_32, eX11_quarrels_33, eX11_quarrels_34, eX11_quarrels_36, eX11_quarrels_37, eX11_quarrels_38, h1, if_false, fM_11 hF, pk_mul, nI_add, c1, c2, gp.1, gq.1]
    rw [rM_quar_1 d z F I L hz hF s o i _ (p i) (v i) _ _ ho (by omega) gp.2.2 gq.2.1, rM_quar_2 d z F I L hz hF s i _ (q i) (u i) _ _ hs (by omega) gq.2.2 gp.2.1, rM_quar_3 d z F I L _ _ _ i _ (p i) (q i) gp.2.2 gq.2.2]
    have e : sumT (qAt p u q v) i + q1 (p i) (v i) + q1 (q i) (u i) + q3 (p i) (q i) = sumT (qAt p u q v) (i + 1) := by rw [sumT, qAt]; omega
    rw [e]
    exact ih (i + 1) (by omega) _ _
theorem rM_quarrels (d : Nat) (z : mm_Z) (F : Nat → Nat → Value) (I : Nat → Nat → Int32) (L : Nat → Nat → Int64) (hz : zOK z) (hF : FixM F) (s o : Nat) (hs : s < 8) (ho : o < 8) (p q : Nat → Nat) (u v : Nat → Bool) (hp : rowIs I s p u) (hq : rowIs I o q v) : mm_E d mX11_quarrels 0 [.ref 120, .int (nI s), .int (nI o), uu, uu, uu, uu] [] (z, F, I, L) = some (some (.int (nI (sumT (qAt p u q v) 64))), (z, F, I, L)) := by
  rw [← rM_quar_l d z F I L hz hF s o hs ho p q u v hp hq 64 0 (by omega) uu uu]
  simp (disch := first | assumption | decide | exact zO_120 hz | exact zT_125 hz | exact zT_128 hz | exact zT_129 hz | exact bI_or _) only [eX11_quarrels_0, eX11_quarrels_1, eX11_quarrels_2, eX11_quarrels_3]
  rfl
