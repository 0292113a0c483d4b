/-! walls and corners: what they are, and the class's side -/
def cO (l a : Nat) : Nat := if l < 8 then 8 * l + a else 8 * a + (l - 8)
def hO (K : Nat → Nat) (l a : Nat) : Bool := decide (a < 8) && decide (K (cO l a) = 2)
def rn (K : Nat → Nat) (l : Nat) : Nat → Nat → Nat
  | 0, _ => 0
  | k + 1, a => if hO K l a = true then rn K l k (a + 1) + 1 else 0
def rnA (K : Nat → Nat) (l a : Nat) : Nat := rn K l (8 - a) a
def bfO (K : Nat → Nat) (l a : Nat) : Bool := decide (0 < a) && hO K l (a - 1)
def wB (K : Nat → Nat) (p : Nat) : Bool := !bfO K (p / 8) (p % 8) && decide (2 < rnA K (p / 8) (p % 8))
def wN (K : Nat → Nat) : Nat → Nat
  | 0 => 0
  | p + 1 => wN K p + if wB K p = true then 1 else 0
def wC (K : Nat → Nat) (l a : Nat) : Nat := (if l < 8 then 0 else 1000) + 10 * cO l a + rnA K l a
def wlP (K : Nat → Nat) (v r : Int) : Prop := (v = -1 ∧ r = wN K 128) ∨ (∃ l a, l < 16 ∧ a < 8 ∧ wB K (8 * l + a) = true ∧ (wN K (8 * l + a) : Int) = v ∧ r = wC K l a) ∨ (¬ v = -1 ∧ r = -1 ∧ ∀ p, p < 128 → wB K p = true → ¬ (wN K p : Int) = v)
theorem cO_lt {l a : Nat} (hl : l < 16) (ha : a < 8) : cO l a < 64 := by unfold cO; split <;> omega
theorem hO_n (K : Nat → Nat) (l : Nat) {a : Nat} (h : ¬ a < 8) : hO K l a = false := by unfold hO; rw [decide_eq_false h]; rfl
theorem rn_le (K : Nat → Nat) (l : Nat) : ∀ k a, rn K l k a ≤ k := by
  intro k
  induction k with
  | zero => intro a; exact Nat.le_refl _
  | succ k ih => intro a; rw [rn]; have := ih (a + 1); split <;> omega
theorem rnA_le (K : Nat → Nat) (l a : Nat) : rnA K l a ≤ 8 - a := rn_le K l _ _
theorem rnA_y {K : Nat → Nat} {l a : Nat} (h : hO K l a = true) : rnA K l a = rnA K l (a + 1) + 1 := by
  have ha : a < 8 := by
    apply Decidable.byContradiction
    intro q; rw [hO_n K l q] at h; exact Bool.noConfusion h
  unfold rnA
  rw [show 8 - a = (8 - (a + 1)) + 1 by omega, rn, if_pos h]
theorem rnA_n {K : Nat → Nat} {l a : Nat} (h : hO K l a = false) : rnA K l a = 0 := by
  unfold rnA
  cases e : 8 - a with
  | zero => rfl
  | succ k => rw [rn, if_neg (by rw [h]; exact Bool.false_ne_true)]
theorem rnA_in (K : Nat → Nat) (l : Nat) : ∀ m a, m = rnA K l a → (∀ j, j < m → hO K l (a + j) = true) ∧ hO K l (a + m) = false := by
  intro m
  induction m with
  | zero =>
    intro a h
    refine ⟨fun j hj => absurd hj (by omega), ?_⟩
    cases e : hO K l a with
    | false => rfl
    | true => rw [rnA_y e] at h; omega
  | succ m ih =>
    intro a h
    cases e : hO K l a with
    | false => rw [rnA_n e] at h; omega
    | true =>
      rw [rnA_y e] at h
      obtain ⟨g1, g2⟩ := ih (a + 1) (by omega)
      refine ⟨fun j hj => ?_, by rw [show a + (m + 1) = a + 1 + m by omega]; exact g2⟩
      cases j with
      | zero => exact e
      | succ j => rw [show a + (j + 1) = a + 1 + j by omega]; exact g1 j (by omega)
theorem wN_le (K : Nat → Nat) : ∀ p, wN K p ≤ p := by
  intro p
  induction p with
  | zero => exact Nat.le_refl _
  | succ p ih => rw [wN]; split <;> omega
theorem wN_mono (K : Nat → Nat) {p q : Nat} (h : p ≤ q) : wN K p ≤ wN K q := by
  obtain ⟨d, rfl⟩ : ∃ d, q = p + d := ⟨q - p, by omega⟩
  clear h
  induction d with
  | zero => exact Nat.le_refl _
  | succ d ih => rw [show p + (d + 1) = p + d + 1 by omega, wN]; omega
theorem wN_inj (K : Nat → Nat) {p q : Nat} (hp : wB K p = true) (hq : wB K q = true) (h : wN K p = wN K q) : p = q := by
  apply Decidable.byContradiction
  intro c
  rcases Nat.lt_or_gt_of_ne c with g | g
  · have e : wN K (p + 1) = wN K p + 1 := by rw [wN, if_pos hp]
    have := wN_mono K (show p + 1 ≤ q by omega)
    omega
  · have e : wN K (q + 1) = wN K q + 1 := by rw [wN, if_pos hq]
    have := wN_mono K (show q + 1 ≤ p by omega)
    omega
theorem wlP_uniq {K : Nat → Nat} {v r r' : Int} (h : wlP K v r) (h' : wlP K v r') : r = r' := by
  rcases h with ⟨a, b⟩ | ⟨l, a, h1, h2, h3, h4, h5⟩ | ⟨h1, h2, h3⟩ <;> rcases h' with ⟨a', b'⟩ | ⟨l', a', g1, g2, g3, g4, g5⟩ | ⟨g1, g2, g3⟩
  · omega
  · omega
  · omega
  · omega
  · have e := wN_inj K h3 g3 (by omega)
    have e1 : l = l' := by omega
    have e2 : a = a' := by omega
    subst e1; subst e2; rw [h5, g5]
  · exact absurd h4 (g3 _ (by omega) h3)
  · omega
  · exact absurd g4 (h3 _ (by omega) g3)
  · omega
theorem cPl_cellOn (d : Nat) (z : mm_Z) (F : Nat → Nat → Value) (I : Nat → Nat → Int32) (L : Nat → Nat → Int64) (l a : Nat) (hl : l < 16) (ha : a < 8) : mm_E d mX4_cellOn 0 [.int (nI l), .int (nI a)] [] (z, F, I, L) = some (some (.int (nI (cO l a))), (z, F, I, L)) := by
  unfold cO
  by_cases c : l < 8
  · rw [if_pos c]
    simp (disch := first | assumption | exact bI_or _ | exact zOK_O hz (by decide) (by decide) rfl | exact zOK_T hz (by decide) (by decide) rfl | (refine ix (zOK_l hz (by decide) (by decide) rfl) ?_; omega) | decide | omega) only [eX4_cellOn_0, eX4_cellOn_1, eX4_cellOn_3, eX4_cellOn_6, eX4_cellOn_8, eX4_cellOn_9, eX4_cellOn_10, eX4_cellOn_11, eX4_cellOn_12, eX4_cellOn_15, eX4_cellOn_17, eX4_cellOn_18, eX4_cellOn_19, eX4_cellOn_20, eX4_cellOn_21, eX4_cellOn_23, eX4_cellOn_24, Int.cast_ofNat_Int, Nat.reduceLT, Nat.reduceLeDiff, Nat.reduceEqDiff, Nat.reduceAdd, Nat.reduceMul, Int.reduceLE, Int.reduceLT, Int.reduceEq, not_false_iff, nlr, Nat.zero_add, Nat.add_zero, e10f, e01f, eq_self, true_and, and_true, false_and, and_false, and_self, decide_true, decide_false, mm_bd_i, mm_bd_v, if_true, if_false, not_true_eq_false, not_false_eq_true, nI_1, Bool.true_eq_false, Bool.false_eq_true, bI_0, n_le0, n_0lt, n_lt0, n_0le, n_eq0, n_eqm, n_eq1, n_le1, n_1lt, n_1le, n_lt1, nn_le, nI_ltI, nI_eq, nI_clamp, nI_add, pk_mul, i_eq0, i_eqm, i_0le, i_le0, i_0lt, i_lt0, i_mle, i_ltm, ii_le, iI_lt, iI_eq, ni_le, ni_lt, ni_eq, in_le, in_lt, in_eq, ni_add, in_add, ni_sub, in_sub, ni_mul, in_mul, iI_add, iI_sub, iI_mul, i_p1, iI_neg, n_neg, c]
  · rw [if_neg c]
    have s : nI (8 * a + l) - nI 8 = nI (8 * a + (l - 8)) := by rw [pk_sub (by omega)]; congr 1; omega
    simp (disch := first | assumption | exact bI_or _ | exact zOK_O hz (by decide) (by decide) rfl | exact zOK_T hz (by decide) (by decide) rfl | (refine ix (zOK_l hz (by decide) (by decide) rfl) ?_; omega) | decide | omega) only [eX4_cellOn_0, eX4_cellOn_1, eX4_cellOn_3, eX4_cellOn_6, eX4_cellOn_8, eX4_cellOn_9, eX4_cellOn_10, eX4_cellOn_11, eX4_cellOn_12, eX4_cellOn_15, eX4_cellOn_17, eX4_cellOn_18, eX4_cellOn_19, eX4_cellOn_20, eX4_cellOn_21, eX4_cellOn_23, eX4_cellOn_24, Int.cast_ofNat_Int, Nat.reduceLT, Nat.reduceLeDiff, Nat.reduceEqDiff, Nat.reduceAdd, Nat.reduceMul, Int.reduceLE, Int.reduceLT, Int.reduceEq, not_false_iff, nlr, Nat.zero_add, Nat.add_zero, e10f, e01f, eq_self, true_and, and_true, false_and, and_false, and_self, decide_true, decide_false, mm_bd_i, mm_bd_v, if_true, if_false, not_true_eq_false, not_false_eq_true, nI_1, Bool.true_eq_false, Bool.false_eq_true, bI_0, n_le0, n_0lt, n_lt0, n_0le, n_eq0, n_eqm, n_eq1, n_le1, n_1lt, n_1le, n_lt1, nn_le, nI_ltI, nI_eq, nI_clamp, nI_add, pk_mul, i_eq0, i_eqm, i_0le, i_le0, i_0lt, i_lt0, i_mle, i_ltm, ii_le, iI_lt, iI_eq, ni_le, ni_lt, ni_eq, in_le, in_lt, in_eq, ni_add, in_add, ni_sub, in_sub, ni_mul, in_mul, iI_add, iI_sub, iI_mul, i_p1, iI_neg, n_neg, c, s]
theorem cPl_isHitOn (d : Nat) (z : mm_Z) (F : Nat → Nat → Value) (I : Nat → Nat → Int32) (L : Nat → Nat → Int64) (K : Nat → Nat) (hz : zOK z) (h : cPn K F L) (l a : Nat) (hl : l < 16) (ha : a < 8) : mm_E (d + 1) mX4_isHitOn 0 [.ref 7, .int (nI l), .int (nI a)] [] (z, F, I, L) = some (some (.int (bI (hO K l a))), (z, F, I, L)) := by
  obtain ⟨⟨h1, h2, h3⟩, _⟩ := h
  have q : 0 ≤ (a : Int) ∧ (a : Int) ≤ 7 := by omega
  have co := fun d' => cPl_cellOn d' z F I L l a hl ha
  have ch := fun d' w => cX_has d' z F I L h1 w (cO l a) (cO_lt hl ha)
  rw [h3 _ (cO_lt hl ha)] at ch
  unfold hO
  rw [decide_eq_true ha, Bool.true_and]
  by_cases e : K (cO l a) = 2
  · rw [decide_eq_true e] at ch ⊢
    simp (disch := first | assumption | exact bI_or _ | exact zOK_O hz (by decide) (by decide) rfl | exact zOK_T hz (by decide) (by decide) rfl | (refine ix (zOK_l hz (by decide) (by decide) rfl) ?_; omega) | decide | omega) only [eX4_isHitOn_0, eX4_isHitOn_1, eX4_isHitOn_2, eX4_isHitOn_4, eX4_isHitOn_7, eX4_isHitOn_10, eX4_isHitOn_11, eX4_isHitOn_14, eX4_isHitOn_15, eX4_isHitOn_16, eX4_isHitOn_19, eX4_isHitOn_22, eX4_isHitOn_25, eX4_isHitOn_26, eX4_isHitOn_29, eX4_isHitOn_30, Int.cast_ofNat_Int, Nat.reduceLT, Nat.reduceLeDiff, Nat.reduceEqDiff, Nat.reduceAdd, Nat.reduceMul, Int.reduceLE, Int.reduceLT, Int.reduceEq, not_false_iff, nlr, Nat.zero_add, Nat.add_zero, e10f, e01f, eq_self, true_and, and_true, false_and, and_false, and_self, decide_true, decide_false, mm_bd_i, mm_bd_v, if_true, if_false, not_true_eq_false, not_false_eq_true, nI_1, Bool.true_eq_false, Bool.false_eq_true, bI_0, n_le0, n_0lt, n_lt0, n_0le, n_eq0, n_eqm, n_eq1, n_le1, n_1lt, n_1le, n_lt1, nn_le, nI_ltI, nI_eq, nI_clamp, nI_add, pk_mul, i_eq0, i_eqm, i_0le, i_le0, i_0lt, i_lt0, i_mle, i_ltm, ii_le, iI_lt, iI_eq, ni_le, ni_lt, ni_eq, in_le, in_lt, in_eq, ni_add, in_add, ni_sub, in_sub, ni_mul, in_mul, iI_add, iI_sub, iI_mul, i_p1, iI_neg, n_neg, cX_within, tI0, tI1, tIm1, tIm7, nI_toInt, iI_toInt, Int.cast_ofNat_Int, q, h2, co, ch]
    rfl
  · rw [decide_eq_false e] at ch ⊢
    simp (disch := first | assumption | exact bI_or _ | exact zOK_O hz (by decide) (by decide) rfl | exact zOK_T hz (by decide) (by decide) rfl | (refine ix (zOK_l hz (by decide) (by decide) rfl) ?_; omega) | decide | omega) only [eX4_isHitOn_0, eX4_isHitOn_1, eX4_isHitOn_2, eX4_isHitOn_4, eX4_isHitOn_7, eX4_isHitOn_10, eX4_isHitOn_11, eX4_isHitOn_14, eX4_isHitOn_15, eX4_isHitOn_16, eX4_isHitOn_19, eX4_isHitOn_22, eX4_isHitOn_25, eX4_isHitOn_26, eX4_isHitOn_29, eX4_isHitOn_30, Int.cast_ofNat_Int, Nat.reduceLT, Nat.reduceLeDiff, Nat.reduceEqDiff, Nat.reduceAdd, Nat.reduceMul, Int.reduceLE, Int.reduceLT, Int.reduceEq, not_false_iff, nlr, Nat.zero_add, Nat.add_zero, e10f, e01f, eq_self, true_and, and_true, false_and, and_false, and_self, decide_true, decide_false, mm_bd_i, mm_bd_v, if_true, if_false, not_true_eq_false, not_false_eq_true, nI_1, Bool.true_eq_false, Bool.false_eq_true, bI_0, n_le0, n_0lt, n_lt0, n_0le, n_eq0, n_eqm, n_eq1, n_le1, n_1lt, n_1le, n_lt1, nn_le, nI_ltI, nI_eq, nI_clamp, nI_add, pk_mul, i_eq0, i_eqm, i_0le, i_le0, i_0lt, i_lt0, i_mle, i_ltm, ii_le, iI_lt, iI_eq, ni_le, ni_lt, ni_eq, in_le, in_lt, in_eq, ni_add, in_add, ni_sub, in_sub, ni_mul, in_mul, iI_add, iI_sub, iI_mul, i_p1, iI_neg, n_neg, cX_within, tI0, tI1, tIm1, tIm7, nI_toInt, iI_toInt, Int.cast_ofNat_Int, q, h2, co, ch]
    rfl
theorem cPl_before (d : Nat) (z : mm_Z) (F : Nat → Nat → Value) (I : Nat → Nat → Int32) (L : Nat → Nat → Int64) (K : Nat → Nat) (hz : zOK z) (h : cPn K F L) (l a : Nat) (hl : l < 16) (ha : a < 8) : mm_E (d + 1) mX4_isHitOn 0 [.ref 7, .int (nI l), .int (nI a - 1)] [] (z, F, I, L) = some (some (.int (bI (bfO K l a))), (z, F, I, L)) := by
  unfold bfO
  by_cases c : 0 < a
  · rw [decide_eq_true c, Bool.true_and]
    have s1 : nI a - 1 = nI (a - 1) := by have := pk_sub (a := a) (b := 1) (by omega); exact this
    rw [s1]
    exact cPl_isHitOn d z F I L K hz h l (a - 1) hl (by omega)
  · have e : a = 0 := by omega
    subst e
    have q : ¬ (0 ≤ (((0 : Nat) : Int) - 1) ∧ (((0 : Nat) : Int) - 1) ≤ 7) := by omega
    rw [n_s1]
    simp (disch := first | assumption | exact bI_or _ | exact zOK_O hz (by decide) (by decide) rfl | exact zOK_T hz (by decide) (by decide) rfl | (refine ix (zOK_l hz (by decide) (by decide) rfl) ?_; omega) | decide | omega) only [eX4_isHitOn_0, eX4_isHitOn_1, eX4_isHitOn_2, eX4_isHitOn_4, eX4_isHitOn_7, eX4_isHitOn_10, eX4_isHitOn_11, eX4_isHitOn_14, eX4_isHitOn_15, eX4_isHitOn_16, eX4_isHitOn_19, eX4_isHitOn_22, eX4_isHitOn_25, eX4_isHitOn_26, eX4_isHitOn_29, eX4_isHitOn_30, cX_within, tI0, tI1, iI_toInt, nI_toInt]
    rw [decide_eq_false (by omega)]
    simp (disch := first | assumption | exact bI_or _ | exact zOK_O hz (by decide) (by decide) rfl | exact zOK_T hz (by decide) (by decide) rfl | (refine ix (zOK_l hz (by decide) (by decide) rfl) ?_; omega) | decide | omega) only [eX4_isHitOn_0, eX4_isHitOn_1, eX4_isHitOn_2, eX4_isHitOn_4, eX4_isHitOn_7, eX4_isHitOn_10, eX4_isHitOn_11, eX4_isHitOn_14, eX4_isHitOn_15, eX4_isHitOn_16, eX4_isHitOn_19, eX4_isHitOn_22, eX4_isHitOn_25, eX4_isHitOn_26, eX4_isHitOn_29, eX4_isHitOn_30, Int.cast_ofNat_Int, Nat.reduceLT, Nat.reduceLeDiff, Nat.reduceEqDiff, Nat.reduceAdd, Nat.reduceMul, Int.reduceLE, Int.reduceLT, Int.reduceEq, not_false_iff, nlr, Nat.zero_add, Nat.add_zero, e10f, e01f, eq_self, true_and, and_true, false_and, and_false, and_self, decide_true, decide_false, mm_bd_i, mm_bd_v, if_true, if_false, not_true_eq_false, not_false_eq_true, nI_1, Bool.true_eq_false, Bool.false_eq_true, bI_0, n_le0, n_0lt, n_lt0, n_0le, n_eq0, n_eqm, n_eq1, n_le1, n_1lt, n_1le, n_lt1, nn_le, nI_ltI, nI_eq, nI_clamp, nI_add, pk_mul, i_eq0, i_eqm, i_0le, i_le0, i_0lt, i_lt0, i_mle, i_ltm, ii_le, iI_lt, iI_eq, ni_le, ni_lt, ni_eq, in_le, in_lt, in_eq, ni_add, in_add, ni_sub, in_sub, ni_mul, in_mul, iI_add, iI_sub, iI_mul, i_p1, iI_neg, n_neg, bI_f]
    rfl
theorem cPl_runFrom (d : Nat) (z : mm_Z) (F : Nat → Nat → Value) (I : Nat → Nat → Int32) (L : Nat → Nat → Int64) (K : Nat → Nat) (hz : zOK z) (h : cPn K F L) (l a : Nat) (hl : l < 16) (ha : a < 8) : mm_E (d + 2) mX4_runFrom 0 [.ref 7, .int (nI l), .int (nI a), uu] [] (z, F, I, L) = some (some (.int (nI (rnA K l a))), (z, F, I, L)) := by
  have g : ∀ b, b ≤ 8 → a ≤ b → rnA K l a = b - a + rnA K l b → mm_E (d + 2) mX4_runFrom 2 [.ref 7, .int (nI l), .int (nI a), .int (nI b)] [] (z, F, I, L) = some (some (.int (nI (rnA K l a))), (z, F, I, L)) := by
    apply lp
    · intro _ e
      have e2 : rnA K l 8 = 0 := rfl
      have s : nI 8 - nI a = nI (rnA K l a) := by rw [pk_sub (by omega)]; congr 1; omega
      rw [eX4_runFrom_2]
      simp (disch := first | assumption | exact bI_or _ | exact zOK_O hz (by decide) (by decide) rfl | exact zOK_T hz (by decide) (by decide) rfl | (refine ix (zOK_l hz (by decide) (by decide) rfl) ?_; omega) | decide | omega) only [eX4_runFrom_0, eX4_runFrom_1, eX4_runFrom_3, eX4_runFrom_5, eX4_runFrom_8, eX4_runFrom_9, eX4_runFrom_10, eX4_runFrom_11, eX4_runFrom_14, eX4_runFrom_17, eX4_runFrom_18, eX4_runFrom_19, eX4_runFrom_20, eX4_runFrom_21, eX4_runFrom_24, eX4_runFrom_27, eX4_runFrom_29, eX4_runFrom_30, eX4_runFrom_31, Int.cast_ofNat_Int, Nat.reduceLT, Nat.reduceLeDiff, Nat.reduceEqDiff, Nat.reduceAdd, Nat.reduceMul, Int.reduceLE, Int.reduceLT, Int.reduceEq, not_false_iff, nlr, Nat.zero_add, Nat.add_zero, e10f, e01f, eq_self, true_and, and_true, false_and, and_false, and_self, decide_true, decide_false, mm_bd_i, mm_bd_v, if_true, if_false, not_true_eq_false, not_false_eq_true, nI_1, Bool.true_eq_false, Bool.false_eq_true, bI_0, n_le0, n_0lt, n_lt0, n_0le, n_eq0, n_eqm, n_eq1, n_le1, n_1lt, n_1le, n_lt1, nn_le, nI_ltI, nI_eq, nI_clamp, nI_add, pk_mul, i_eq0, i_eqm, i_0le, i_le0, i_0lt, i_lt0, i_mle, i_ltm, ii_le, iI_lt, iI_eq, ni_le, ni_lt, ni_eq, in_le, in_lt, in_eq, ni_add, in_add, ni_sub, in_sub, ni_mul, in_mul, iI_add, iI_sub, iI_mul, i_p1, iI_neg, n_neg, s]
    · intro b hb ih hab e
      have io := fun d' => cPl_isHitOn d' z F I L K hz h l b hl hb
      rw [eX4_runFrom_2]
      cases q : hO K l b with
      | true =>
        rw [q] at io
        rw [← ih (by omega) (by rw [e, rnA_y q]; omega)]
        simp (disch := first | assumption | exact bI_or _ | exact zOK_O hz (by decide) (by decide) rfl | exact zOK_T hz (by decide) (by decide) rfl | (refine ix (zOK_l hz (by decide) (by decide) rfl) ?_; omega) | decide | omega) only [eX4_runFrom_0, eX4_runFrom_1, eX4_runFrom_3, eX4_runFrom_5, eX4_runFrom_8, eX4_runFrom_9, eX4_runFrom_10, eX4_runFrom_11, eX4_runFrom_14, eX4_runFrom_17, eX4_runFrom_18, eX4_runFrom_19, eX4_runFrom_20, eX4_runFrom_21, eX4_runFrom_24, eX4_runFrom_27, eX4_runFrom_29, eX4_runFrom_30, eX4_runFrom_31, Int.cast_ofNat_Int, Nat.reduceLT, Nat.reduceLeDiff, Nat.reduceEqDiff, Nat.reduceAdd, Nat.reduceMul, Int.reduceLE, Int.reduceLT, Int.reduceEq, not_false_iff, nlr, Nat.zero_add, Nat.add_zero, e10f, e01f, eq_self, true_and, and_true, false_and, and_false, and_self, decide_true, decide_false, mm_bd_i, mm_bd_v, if_true, if_false, not_true_eq_false, not_false_eq_true, nI_1, Bool.true_eq_false, Bool.false_eq_true, bI_0, n_le0, n_0lt, n_lt0, n_0le, n_eq0, n_eqm, n_eq1, n_le1, n_1lt, n_1le, n_lt1, nn_le, nI_ltI, nI_eq, nI_clamp, nI_add, pk_mul, i_eq0, i_eqm, i_0le, i_le0, i_0lt, i_lt0, i_mle, i_ltm, ii_le, iI_lt, iI_eq, ni_le, ni_lt, ni_eq, in_le, in_lt, in_eq, ni_add, in_add, ni_sub, in_sub, ni_mul, in_mul, iI_add, iI_sub, iI_mul, i_p1, iI_neg, n_neg, hb, io, bI_t]
      | false =>
        rw [q] at io
        have s : nI b - nI a = nI (rnA K l a) := by rw [pk_sub (by omega)]; congr 1; rw [e, rnA_n q]; rfl
        simp (disch := first | assumption | exact bI_or _ | exact zOK_O hz (by decide) (by decide) rfl | exact zOK_T hz (by decide) (by decide) rfl | (refine ix (zOK_l hz (by decide) (by decide) rfl) ?_; omega) | decide | omega) only [eX4_runFrom_0, eX4_runFrom_1, eX4_runFrom_3, eX4_runFrom_5, eX4_runFrom_8, eX4_runFrom_9, eX4_runFrom_10, eX4_runFrom_11, eX4_runFrom_14, eX4_runFrom_17, eX4_runFrom_18, eX4_runFrom_19, eX4_runFrom_20, eX4_runFrom_21, eX4_runFrom_24, eX4_runFrom_27, eX4_runFrom_29, eX4_runFrom_30, eX4_runFrom_31, Int.cast_ofNat_Int, Nat.reduceLT, Nat.reduceLeDiff, Nat.reduceEqDiff, Nat.reduceAdd, Nat.reduceMul, Int.reduceLE, Int.reduceLT, Int.reduceEq, not_false_iff, nlr, Nat.zero_add, Nat.add_zero, e10f, e01f, eq_self, true_and, and_true, false_and, and_false, and_self, decide_true, decide_false, mm_bd_i, mm_bd_v, if_true, if_false, not_true_eq_false, not_false_eq_true, nI_1, Bool.true_eq_false, Bool.false_eq_true, bI_0, n_le0, n_0lt, n_lt0, n_0le, n_eq0, n_eqm, n_eq1, n_le1, n_1lt, n_1le, n_lt1, nn_le, nI_ltI, nI_eq, nI_clamp, nI_add, pk_mul, i_eq0, i_eqm, i_0le, i_le0, i_0lt, i_lt0, i_mle, i_ltm, ii_le, iI_lt, iI_eq, ni_le, ni_lt, ni_eq, in_le, in_lt, in_eq, ni_add, in_add, ni_sub, in_sub, ni_mul, in_mul, iI_add, iI_sub, iI_mul, i_p1, iI_neg, n_neg, hb, io, bI_f, s]
  rw [← g a (by omega) (Nat.le_refl _) (by omega)]
  simp (disch := first | assumption | exact bI_or _ | exact zOK_O hz (by decide) (by decide) rfl | exact zOK_T hz (by decide) (by decide) rfl | (refine ix (zOK_l hz (by decide) (by decide) rfl) ?_; omega) | decide | omega) only [eX4_runFrom_0, eX4_runFrom_1, eX4_runFrom_3, eX4_runFrom_5, eX4_runFrom_8, eX4_runFrom_9, eX4_runFrom_10, eX4_runFrom_11, eX4_runFrom_14, eX4_runFrom_17, eX4_runFrom_18, eX4_runFrom_19, eX4_runFrom_20, eX4_runFrom_21, eX4_runFrom_24, eX4_runFrom_27, eX4_runFrom_29, eX4_runFrom_30, eX4_runFrom_31, Int.cast_ofNat_Int, Nat.reduceLT, Nat.reduceLeDiff, Nat.reduceEqDiff, Nat.reduceAdd, Nat.reduceMul, Int.reduceLE, Int.reduceLT, Int.reduceEq, not_false_iff, nlr, Nat.zero_add, Nat.add_zero, e10f, e01f, eq_self, true_and, and_true, false_and, and_false, and_self, decide_true, decide_false, mm_bd_i, mm_bd_v, if_true, if_false, not_true_eq_false, not_false_eq_true, nI_1, Bool.true_eq_false, Bool.false_eq_true, bI_0, n_le0, n_0lt, n_lt0, n_0le, n_eq0, n_eqm, n_eq1, n_le1, n_1lt, n_1le, n_lt1, nn_le, nI_ltI, nI_eq, nI_clamp, nI_add, pk_mul, i_eq0, i_eqm, i_0le, i_le0, i_0lt, i_lt0, i_mle, i_ltm, ii_le, iI_lt, iI_eq, ni_le, ni_lt, ni_eq, in_le, in_lt, in_eq, ni_add, in_add, ni_sub, in_sub, ni_mul, in_mul, iI_add, iI_sub, iI_mul, i_p1, iI_neg, n_neg]
theorem cPl_findWall (d : Nat) (z : mm_Z) (F : Nat → Nat → Value) (I : Nat → Nat → Int32) (L : Nat → Nat → Int64) (K : Nat → Nat) (hz : zOK z) (h : cPn K F L) (v : Int) (h1 : -1 ≤ v) (h2 : v < 2147483648) : ∃ r, mm_E (d + 3) mX4_findWall 0 [.ref 7, .int (iI v), uu, uu, uu, uu] [] (z, F, I, L) = some (some (.int (iI r)), (z, F, I, L)) ∧ wlP K v r := by
  have g : ∀ l, l ≤ 16 → ∀ a4 a5 : Value, (∀ p, p < 8 * l → wB K p = true → ¬ (wN K p : Int) = v) → ∃ r, mm_E (d + 3) mX4_findWall 4 [.ref 7, .int (iI v), .int (nI (wN K (8 * l))), .int (nI l), a4, a5] [] (z, F, I, L) = some (some (.int (iI r)), (z, F, I, L)) ∧ wlP K v r := by
    apply lp
    · intro a4 a5 hp
      have wl := wN_le K 128
      by_cases c : v = -1
      · refine ⟨wN K 128, ?_, Or.inl ⟨c, rfl⟩⟩
        rw [eX4_findWall_4, ← nI_iI]
        simp (disch := first | assumption | exact bI_or _ | exact zOK_O hz (by decide) (by decide) rfl | exact zOK_T hz (by decide) (by decide) rfl | (refine ix (zOK_l hz (by decide) (by decide) rfl) ?_; omega) | decide | omega) only [eX4_findWall_0, eX4_findWall_1, eX4_findWall_2, eX4_findWall_3, eX4_findWall_5, eX4_findWall_7, eX4_findWall_10, eX4_findWall_11, eX4_findWall_15, eX4_findWall_17, eX4_findWall_20, eX4_findWall_21, eX4_findWall_22, eX4_findWall_24, eX4_findWall_25, eX4_findWall_26, eX4_findWall_29, eX4_findWall_32, eX4_findWall_33, eX4_findWall_36, eX4_findWall_37, eX4_findWall_38, eX4_findWall_40, eX4_findWall_43, eX4_findWall_45, eX4_findWall_47, eX4_findWall_48, eX4_findWall_51, eX4_findWall_52, eX4_findWall_53, eX4_findWall_56, eX4_findWall_57, eX4_findWall_59, eX4_findWall_62, eX4_findWall_63, eX4_findWall_66, eX4_findWall_69, eX4_findWall_71, eX4_findWall_72, eX4_findWall_74, eX4_findWall_77, eX4_findWall_78, eX4_findWall_79, eX4_findWall_81, eX4_findWall_82, eX4_findWall_83, eX4_findWall_86, eX4_findWall_89, eX4_findWall_92, eX4_findWall_95, eX4_findWall_98, eX4_findWall_99, eX4_findWall_100, eX4_findWall_103, eX4_findWall_104, eX4_findWall_107, eX4_findWall_108, Int.cast_ofNat_Int, Nat.reduceLT, Nat.reduceLeDiff, Nat.reduceEqDiff, Nat.reduceAdd, Nat.reduceMul, Int.reduceLE, Int.reduceLT, Int.reduceEq, not_false_iff, nlr, Nat.zero_add, Nat.add_zero, e10f, e01f, eq_self, true_and, and_true, false_and, and_false, and_self, decide_true, decide_false, mm_bd_i, mm_bd_v, if_true, if_false, not_true_eq_false, not_false_eq_true, nI_1, Bool.true_eq_false, Bool.false_eq_true, bI_0, n_le0, n_0lt, n_lt0, n_0le, n_eq0, n_eqm, n_eq1, n_le1, n_1lt, n_1le, n_lt1, nn_le, nI_ltI, nI_eq, nI_clamp, nI_add, pk_mul, i_eq0, i_eqm, i_0le, i_le0, i_0lt, i_lt0, i_mle, i_ltm, ii_le, iI_lt, iI_eq, ni_le, ni_lt, ni_eq, in_le, in_lt, in_eq, ni_add, in_add, ni_sub, in_sub, ni_mul, in_mul, iI_add, iI_sub, iI_mul, i_p1, iI_neg, n_neg, c]
      · refine ⟨-1, ?_, Or.inr (Or.inr ⟨c, rfl, hp⟩)⟩
        rw [eX4_findWall_4, iI_m1]
        simp (disch := first | assumption | exact bI_or _ | exact zOK_O hz (by decide) (by decide) rfl | exact zOK_T hz (by decide) (by decide) rfl | (refine ix (zOK_l hz (by decide) (by decide) rfl) ?_; omega) | decide | omega) only [eX4_findWall_0, eX4_findWall_1, eX4_findWall_2, eX4_findWall_3, eX4_findWall_5, eX4_findWall_7, eX4_findWall_10, eX4_findWall_11, eX4_findWall_15, eX4_findWall_17, eX4_findWall_20, eX4_findWall_21, eX4_findWall_22, eX4_findWall_24, eX4_findWall_25, eX4_findWall_26, eX4_findWall_29, eX4_findWall_32, eX4_findWall_33, eX4_findWall_36, eX4_findWall_37, eX4_findWall_38, eX4_findWall_40, eX4_findWall_43, eX4_findWall_45, eX4_findWall_47, eX4_findWall_48, eX4_findWall_51, eX4_findWall_52, eX4_findWall_53, eX4_findWall_56, eX4_findWall_57, eX4_findWall_59, eX4_findWall_62, eX4_findWall_63, eX4_findWall_66, eX4_findWall_69, eX4_findWall_71, eX4_findWall_72, eX4_findWall_74, eX4_findWall_77, eX4_findWall_78, eX4_findWall_79, eX4_findWall_81, eX4_findWall_82, eX4_findWall_83, eX4_findWall_86, eX4_findWall_89, eX4_findWall_92, eX4_findWall_95, eX4_findWall_98, eX4_findWall_99, eX4_findWall_100, eX4_findWall_103, eX4_findWall_104, eX4_findWall_107, eX4_findWall_108, Int.cast_ofNat_Int, Nat.reduceLT, Nat.reduceLeDiff, Nat.reduceEqDiff, Nat.reduceAdd, Nat.reduceMul, Int.reduceLE, Int.reduceLT, Int.reduceEq, not_false_iff, nlr, Nat.zero_add, Nat.add_zero, e10f, e01f, eq_self, true_and, and_true, false_and, and_false, and_self, decide_true, decide_false, mm_bd_i, mm_bd_v, if_true, if_false, not_true_eq_false, not_false_eq_true, nI_1, Bool.true_eq_false, Bool.false_eq_true, bI_0, n_le0, n_0lt, n_lt0, n_0le, n_eq0, n_eqm, n_eq1, n_le1, n_1lt, n_1le, n_lt1, nn_le, nI_ltI, nI_eq, nI_clamp, nI_add, pk_mul, i_eq0, i_eqm, i_0le, i_le0, i_0lt, i_lt0, i_mle, i_ltm, ii_le, iI_lt, iI_eq, ni_le, ni_lt, ni_eq, in_le, in_lt, in_eq, ni_add, in_add, ni_sub, in_sub, ni_mul, in_mul, iI_add, iI_sub, iI_mul, i_p1, iI_neg, n_neg, c]
    · intro l hl ih a4 a5 hp
      have k : ∀ a, a ≤ 8 → ∀ a5 : Value, (∀ p, p < 8 * l + a → wB K p = true → ¬ (wN K p : Int) = v) → ∃ r, mm_E (d + 3) mX4_findWall 13 [.ref 7, .int (iI v), .int (nI (wN K (8 * l + a))), .int (nI l), .int (nI a), a5] [] (z, F, I, L) = some (some (.int (iI r)), (z, F, I, L)) ∧ wlP K v r := by
        apply lp
        · intro a5 hq
          obtain ⟨r, r1, r2⟩ := ih (.int (nI 8)) a5 hq
          refine ⟨r, ?_, r2⟩
          rw [← r1, eX4_findWall_13]
          simp (disch := first | assumption | exact bI_or _ | exact zOK_O hz (by decide) (by decide) rfl | exact zOK_T hz (by decide) (by decide) rfl | (refine ix (zOK_l hz (by decide) (by decide) rfl) ?_; omega) | decide | omega) only [eX4_findWall_15, eX4_findWall_17, eX4_findWall_20, eX4_findWall_21, eX4_findWall_22, eX4_findWall_24, eX4_findWall_25, eX4_findWall_26, eX4_findWall_29, eX4_findWall_32, eX4_findWall_33, eX4_findWall_36, eX4_findWall_37, eX4_findWall_38, eX4_findWall_40, eX4_findWall_43, eX4_findWall_45, eX4_findWall_47, eX4_findWall_48, eX4_findWall_51, eX4_findWall_52, eX4_findWall_53, eX4_findWall_56, eX4_findWall_57, eX4_findWall_59, eX4_findWall_62, eX4_findWall_63, eX4_findWall_66, eX4_findWall_69, eX4_findWall_71, eX4_findWall_72, eX4_findWall_74, eX4_findWall_77, eX4_findWall_78, eX4_findWall_79, eX4_findWall_81, eX4_findWall_82, eX4_findWall_83, eX4_findWall_86, eX4_findWall_89, eX4_findWall_92, eX4_findWall_95, eX4_findWall_98, eX4_findWall_99, eX4_findWall_100, eX4_findWall_103, Int.cast_ofNat_Int, Nat.reduceLT, Nat.reduceLeDiff, Nat.reduceEqDiff, Nat.reduceAdd, Nat.reduceMul, Int.reduceLE, Int.reduceLT, Int.reduceEq, not_false_iff, nlr, Nat.zero_add, Nat.add_zero, e10f, e01f, eq_self, true_and, and_true, false_and, and_false, and_self, decide_true, decide_false, mm_bd_i, mm_bd_v, if_true, if_false, not_true_eq_false, not_false_eq_true, nI_1, Bool.true_eq_false, Bool.false_eq_true, bI_0, n_le0, n_0lt, n_lt0, n_0le, n_eq0, n_eqm, n_eq1, n_le1, n_1lt, n_1le, n_lt1, nn_le, nI_ltI, nI_eq, nI_clamp, nI_add, pk_mul, i_eq0, i_eqm, i_0le, i_le0, i_0lt, i_lt0, i_mle, i_ltm, ii_le, iI_lt, iI_eq, ni_le, ni_lt, ni_eq, in_le, in_lt, in_eq, ni_add, in_add, ni_sub, in_sub, ni_mul, in_mul, iI_add, iI_sub, iI_mul, i_p1, iI_neg, n_neg]
          rfl
        · intro a ha ih2 a5 hq
          have e1 : (8 * l + a) / 8 = l := by omega
          have e2 : (8 * l + a) % 8 = a := by omega
          have wl := wN_le K (8 * l + a)
          have bf := fun d' => cPl_before d' z F I L K hz h l a hl ha
          have rf := fun d' => cPl_runFrom d' z F I L K hz h l a hl ha
          have co := fun d' => cPl_cellOn d' z F I L l a hl ha
          have rl := rnA_le K l a
          have cl := cO_lt hl ha
          have wb : wB K (8 * l + a) = (!bfO K l a && decide (2 < rnA K l a)) := by unfold wB; rw [e1, e2]
          cases b : bfO K l a with
          | true =>
            rw [b] at bf wb
            have wf : wB K (8 * l + a) = false := by rw [wb]; rfl
            obtain ⟨r, r1, r2⟩ := ih2 (.int (nI 0)) (fun p hp' w => by
              by_cases e : p = 8 * l + a
              · rw [e, wf] at w; exact Bool.noConfusion w
              · exact hq p (by omega) w)
            refine ⟨r, ?_, r2⟩
            have en : wN K (8 * l + (a + 1)) = wN K (8 * l + a) := by
              show wN K (8 * l + a + 1) = _
              rw [wN, if_neg (by rw [wf]; exact Bool.false_ne_true)]; rfl
            rw [en, nI_0] at r1
            rw [← r1, eX4_findWall_13]
            simp (disch := first | assumption | exact bI_or _ | exact zOK_O hz (by decide) (by decide) rfl | exact zOK_T hz (by decide) (by decide) rfl | (refine ix (zOK_l hz (by decide) (by decide) rfl) ?_; omega) | decide | omega) only [eX4_findWall_15, eX4_findWall_17, eX4_findWall_20, eX4_findWall_21, eX4_findWall_22, eX4_findWall_24, eX4_findWall_25, eX4_findWall_26, eX4_findWall_29, eX4_findWall_32, eX4_findWall_33, eX4_findWall_36, eX4_findWall_37, eX4_findWall_38, eX4_findWall_40, eX4_findWall_43, eX4_findWall_45, eX4_findWall_47, eX4_findWall_48, eX4_findWall_51, eX4_findWall_52, eX4_findWall_53, eX4_findWall_56, eX4_findWall_57, eX4_findWall_59, eX4_findWall_62, eX4_findWall_63, eX4_findWall_66, eX4_findWall_69, eX4_findWall_71, eX4_findWall_72, eX4_findWall_74, eX4_findWall_77, eX4_findWall_78, eX4_findWall_79, eX4_findWall_81, eX4_findWall_82, eX4_findWall_83, eX4_findWall_86, eX4_findWall_89, eX4_findWall_92, eX4_findWall_95, Int.cast_ofNat_Int, Nat.reduceLT, Nat.reduceLeDiff, Nat.reduceEqDiff, Nat.reduceAdd, Nat.reduceMul, Int.reduceLE, Int.reduceLT, Int.reduceEq, not_false_iff, nlr, Nat.zero_add, Nat.add_zero, e10f, e01f, eq_self, true_and, and_true, false_and, and_false, and_self, decide_true, decide_false, mm_bd_i, mm_bd_v, if_true, if_false, not_true_eq_false, not_false_eq_true, nI_1, Bool.true_eq_false, Bool.false_eq_true, bI_0, n_le0, n_0lt, n_lt0, n_0le, n_eq0, n_eqm, n_eq1, n_le1, n_1lt, n_1le, n_lt1, nn_le, nI_ltI, nI_eq, nI_clamp, nI_add, pk_mul, i_eq0, i_eqm, i_0le, i_le0, i_0lt, i_lt0, i_mle, i_ltm, ii_le, iI_lt, iI_eq, ni_le, ni_lt, ni_eq, in_le, in_lt, in_eq, ni_add, in_add, ni_sub, in_sub, ni_mul, in_mul, iI_add, iI_sub, iI_mul, i_p1, iI_neg, n_neg, ha, bf, bI_t]
          | false =>
            rw [b] at bf wb
            by_cases c : rnA K l a < 3
            · have wf : wB K (8 * l + a) = false := by rw [wb, decide_eq_false (by omega)]; rfl
              obtain ⟨r, r1, r2⟩ := ih2 (.int (nI (rnA K l a))) (fun p hp' w => by
                by_cases e : p = 8 * l + a
                · rw [e, wf] at w; exact Bool.noConfusion w
                · exact hq p (by omega) w)
              refine ⟨r, ?_, r2⟩
              have en : wN K (8 * l + (a + 1)) = wN K (8 * l + a) := by
                show wN K (8 * l + a + 1) = _
                rw [wN, if_neg (by rw [wf]; exact Bool.false_ne_true)]; rfl
              rw [en] at r1
              rw [← r1, eX4_findWall_13]
              simp (disch := first | assumption | exact bI_or _ | exact zOK_O hz (by decide) (by decide) rfl | exact zOK_T hz (by decide) (by decide) rfl | (refine ix (zOK_l hz (by decide) (by decide) rfl) ?_; omega) | decide | omega) only [eX4_findWall_15, eX4_findWall_17, eX4_findWall_20, eX4_findWall_21, eX4_findWall_22, eX4_findWall_24, eX4_findWall_25, eX4_findWall_26, eX4_findWall_29, eX4_findWall_32, eX4_findWall_33, eX4_findWall_36, eX4_findWall_37, eX4_findWall_38, eX4_findWall_40, eX4_findWall_43, eX4_findWall_45, eX4_findWall_47, eX4_findWall_48, eX4_findWall_51, eX4_findWall_52, eX4_findWall_53, eX4_findWall_56, eX4_findWall_57, eX4_findWall_59, eX4_findWall_62, eX4_findWall_63, eX4_findWall_66, eX4_findWall_69, eX4_findWall_71, eX4_findWall_72, eX4_findWall_74, eX4_findWall_77, eX4_findWall_78, eX4_findWall_79, eX4_findWall_81, eX4_findWall_82, eX4_findWall_83, eX4_findWall_86, eX4_findWall_89, eX4_findWall_92, eX4_findWall_95, Int.cast_ofNat_Int, Nat.reduceLT, Nat.reduceLeDiff, Nat.reduceEqDiff, Nat.reduceAdd, Nat.reduceMul, Int.reduceLE, Int.reduceLT, Int.reduceEq, not_false_iff, nlr, Nat.zero_add, Nat.add_zero, e10f, e01f, eq_self, true_and, and_true, false_and, and_false, and_self, decide_true, decide_false, mm_bd_i, mm_bd_v, if_true, if_false, not_true_eq_false, not_false_eq_true, nI_1, Bool.true_eq_false, Bool.false_eq_true, bI_0, n_le0, n_0lt, n_lt0, n_0le, n_eq0, n_eqm, n_eq1, n_le1, n_1lt, n_1le, n_lt1, nn_le, nI_ltI, nI_eq, nI_clamp, nI_add, pk_mul, i_eq0, i_eqm, i_0le, i_le0, i_0lt, i_lt0, i_mle, i_ltm, ii_le, iI_lt, iI_eq, ni_le, ni_lt, ni_eq, in_le, in_lt, in_eq, ni_add, in_add, ni_sub, in_sub, ni_mul, in_mul, iI_add, iI_sub, iI_mul, i_p1, iI_neg, n_neg, ha, bf, bI_f, rf, c]
            · have wt : wB K (8 * l + a) = true := by rw [wb, decide_eq_true (by omega)]; rfl
              by_cases e : (wN K (8 * l + a) : Int) = v
              · refine ⟨wC K l a, ?_, Or.inr (Or.inl ⟨l, a, hl, ha, wt, e, rfl⟩)⟩
                rw [eX4_findWall_13, ← nI_iI]
                unfold wC
                by_cases cl8 : l < 8
                · rw [if_pos cl8]
                  have z0 : (0 : Int32) + nI (10 * cO l a) = nI (10 * cO l a) := by rw [← nI_0, nI_add, Nat.zero_add]
                  simp (disch := first | assumption | exact bI_or _ | exact zOK_O hz (by decide) (by decide) rfl | exact zOK_T hz (by decide) (by decide) rfl | (refine ix (zOK_l hz (by decide) (by decide) rfl) ?_; omega) | decide | omega) only [eX4_findWall_15, eX4_findWall_17, eX4_findWall_20, eX4_findWall_21, eX4_findWall_22, eX4_findWall_24, eX4_findWall_25, eX4_findWall_26, eX4_findWall_29, eX4_findWall_32, eX4_findWall_33, eX4_findWall_36, eX4_findWall_37, eX4_findWall_38, eX4_findWall_40, eX4_findWall_43, eX4_findWall_45, eX4_findWall_47, eX4_findWall_48, eX4_findWall_51, eX4_findWall_52, eX4_findWall_53, eX4_findWall_56, eX4_findWall_57, eX4_findWall_59, eX4_findWall_62, eX4_findWall_63, eX4_findWall_66, eX4_findWall_69, eX4_findWall_71, eX4_findWall_72, eX4_findWall_74, eX4_findWall_77, eX4_findWall_78, eX4_findWall_79, eX4_findWall_81, eX4_findWall_82, eX4_findWall_83, eX4_findWall_86, eX4_findWall_89, eX4_findWall_92, eX4_findWall_95, Int.cast_ofNat_Int, Nat.reduceLT, Nat.reduceLeDiff, Nat.reduceEqDiff, Nat.reduceAdd, Nat.reduceMul, Int.reduceLE, Int.reduceLT, Int.reduceEq, not_false_iff, nlr, Nat.zero_add, Nat.add_zero, e10f, e01f, eq_self, true_and, and_true, false_and, and_false, and_self, decide_true, decide_false, mm_bd_i, mm_bd_v, if_true, if_false, not_true_eq_false, not_false_eq_true, nI_1, Bool.true_eq_false, Bool.false_eq_true, bI_0, n_le0, n_0lt, n_lt0, n_0le, n_eq0, n_eqm, n_eq1, n_le1, n_1lt, n_1le, n_lt1, nn_le, nI_ltI, nI_eq, nI_clamp, nI_add, pk_mul, i_eq0, i_eqm, i_0le, i_le0, i_0lt, i_lt0, i_mle, i_ltm, ii_le, iI_lt, iI_eq, ni_le, ni_lt, ni_eq, in_le, in_lt, in_eq, ni_add, in_add, ni_sub, in_sub, ni_mul, in_mul, iI_add, iI_sub, iI_mul, i_p1, iI_neg, n_neg, ha, bf, bI_f, rf, c, e, cl8, co, z0]
                · rw [if_neg cl8]
                  simp (disch := first | assumption | exact bI_or _ | exact zOK_O hz (by decide) (by decide) rfl | exact zOK_T hz (by decide) (by decide) rfl | (refine ix (zOK_l hz (by decide) (by decide) rfl) ?_; omega) | decide | omega) only [eX4_findWall_15, eX4_findWall_17, eX4_findWall_20, eX4_findWall_21, eX4_findWall_22, eX4_findWall_24, eX4_findWall_25, eX4_findWall_26, eX4_findWall_29, eX4_findWall_32, eX4_findWall_33, eX4_findWall_36, eX4_findWall_37, eX4_findWall_38, eX4_findWall_40, eX4_findWall_43, eX4_findWall_45, eX4_findWall_47, eX4_findWall_48, eX4_findWall_51, eX4_findWall_52, eX4_findWall_53, eX4_findWall_56, eX4_findWall_57, eX4_findWall_59, eX4_findWall_62, eX4_findWall_63, eX4_findWall_66, eX4_findWall_69, eX4_findWall_71, eX4_findWall_72, eX4_findWall_74, eX4_findWall_77, eX4_findWall_78, eX4_findWall_79, eX4_findWall_81, eX4_findWall_82, eX4_findWall_83, eX4_findWall_86, eX4_findWall_89, eX4_findWall_92, eX4_findWall_95, Int.cast_ofNat_Int, Nat.reduceLT, Nat.reduceLeDiff, Nat.reduceEqDiff, Nat.reduceAdd, Nat.reduceMul, Int.reduceLE, Int.reduceLT, Int.reduceEq, not_false_iff, nlr, Nat.zero_add, Nat.add_zero, e10f, e01f, eq_self, true_and, and_true, false_and, and_false, and_self, decide_true, decide_false, mm_bd_i, mm_bd_v, if_true, if_false, not_true_eq_false, not_false_eq_true, nI_1, Bool.true_eq_false, Bool.false_eq_true, bI_0, n_le0, n_0lt, n_lt0, n_0le, n_eq0, n_eqm, n_eq1, n_le1, n_1lt, n_1le, n_lt1, nn_le, nI_ltI, nI_eq, nI_clamp, nI_add, pk_mul, i_eq0, i_eqm, i_0le, i_le0, i_0lt, i_lt0, i_mle, i_ltm, ii_le, iI_lt, iI_eq, ni_le, ni_lt, ni_eq, in_le, in_lt, in_eq, ni_add, in_add, ni_sub, in_sub, ni_mul, in_mul, iI_add, iI_sub, iI_mul, i_p1, iI_neg, n_neg, ha, bf, bI_f, rf, c, e, cl8, co]
              · obtain ⟨r, r1, r2⟩ := ih2 (.int (nI (rnA K l a))) (fun p hp' w => by
                  by_cases e' : p = 8 * l + a
                  · rw [e']; exact e
                  · exact hq p (by omega) w)
                refine ⟨r, ?_, r2⟩
                have en : wN K (8 * l + (a + 1)) = wN K (8 * l + a) + 1 := by
                  show wN K (8 * l + a + 1) = _
                  rw [wN, if_pos wt]
                rw [en] at r1
                rw [← r1, eX4_findWall_13]
                simp (disch := first | assumption | exact bI_or _ | exact zOK_O hz (by decide) (by decide) rfl | exact zOK_T hz (by decide) (by decide) rfl | (refine ix (zOK_l hz (by decide) (by decide) rfl) ?_; omega) | decide | omega) only [eX4_findWall_15, eX4_findWall_17, eX4_findWall_20, eX4_findWall_21, eX4_findWall_22, eX4_findWall_24, eX4_findWall_25, eX4_findWall_26, eX4_findWall_29, eX4_findWall_32, eX4_findWall_33, eX4_findWall_36, eX4_findWall_37, eX4_findWall_38, eX4_findWall_40, eX4_findWall_43, eX4_findWall_45, eX4_findWall_47, eX4_findWall_48, eX4_findWall_51, eX4_findWall_52, eX4_findWall_53, eX4_findWall_56, eX4_findWall_57, eX4_findWall_59, eX4_findWall_62, eX4_findWall_63, eX4_findWall_66, eX4_findWall_69, eX4_findWall_71, eX4_findWall_72, eX4_findWall_74, eX4_findWall_77, eX4_findWall_78, eX4_findWall_79, eX4_findWall_81, eX4_findWall_82, eX4_findWall_83, eX4_findWall_86, eX4_findWall_89, eX4_findWall_92, eX4_findWall_95, Int.cast_ofNat_Int, Nat.reduceLT, Nat.reduceLeDiff, Nat.reduceEqDiff, Nat.reduceAdd, Nat.reduceMul, Int.reduceLE, Int.reduceLT, Int.reduceEq, not_false_iff, nlr, Nat.zero_add, Nat.add_zero, e10f, e01f, eq_self, true_and, and_true, false_and, and_false, and_self, decide_true, decide_false, mm_bd_i, mm_bd_v, if_true, if_false, not_true_eq_false, not_false_eq_true, nI_1, Bool.true_eq_false, Bool.false_eq_true, bI_0, n_le0, n_0lt, n_lt0, n_0le, n_eq0, n_eqm, n_eq1, n_le1, n_1lt, n_1le, n_lt1, nn_le, nI_ltI, nI_eq, nI_clamp, nI_add, pk_mul, i_eq0, i_eqm, i_0le, i_le0, i_0lt, i_lt0, i_mle, i_ltm, ii_le, iI_lt, iI_eq, ni_le, ni_lt, ni_eq, in_le, in_lt, in_eq, ni_add, in_add, ni_sub, in_sub, ni_mul, in_mul, iI_add, iI_sub, iI_mul, i_p1, iI_neg, n_neg, ha, bf, bI_f, rf, c, e]
      obtain ⟨r, r1, r2⟩ := k 0 (by omega) a5 hp
      refine ⟨r, ?_, r2⟩
      rw [← r1, eX4_findWall_4]
      simp (disch := first | assumption | exact bI_or _ | exact zOK_O hz (by decide) (by decide) rfl | exact zOK_T hz (by decide) (by decide) rfl | (refine ix (zOK_l hz (by decide) (by decide) rfl) ?_; omega) | decide | omega) only [eX4_findWall_5, eX4_findWall_7, eX4_findWall_10, eX4_findWall_11, Int.cast_ofNat_Int, Nat.reduceLT, Nat.reduceLeDiff, Nat.reduceEqDiff, Nat.reduceAdd, Nat.reduceMul, Int.reduceLE, Int.reduceLT, Int.reduceEq, not_false_iff, nlr, Nat.zero_add, Nat.add_zero, e10f, e01f, eq_self, true_and, and_true, false_and, and_false, and_self, decide_true, decide_false, mm_bd_i, mm_bd_v, if_true, if_false, not_true_eq_false, not_false_eq_true, nI_1, Bool.true_eq_false, Bool.false_eq_true, bI_0, n_le0, n_0lt, n_lt0, n_0le, n_eq0, n_eqm, n_eq1, n_le1, n_1lt, n_1le, n_lt1, nn_le, nI_ltI, nI_eq, nI_clamp, nI_add, pk_mul, i_eq0, i_eqm, i_0le, i_le0, i_0lt, i_lt0, i_mle, i_ltm, ii_le, iI_lt, iI_eq, ni_le, ni_lt, ni_eq, in_le, in_lt, in_eq, ni_add, in_add, ni_sub, in_sub, ni_mul, in_mul, iI_add, iI_sub, iI_mul, i_p1, iI_neg, n_neg, hl]
      rfl
  obtain ⟨r, r1, r2⟩ := g 0 (by omega) uu uu (fun p hp => absurd hp (by omega))
  refine ⟨r, ?_, r2⟩
  rw [← r1]
  simp (disch := first | assumption | exact bI_or _ | exact zOK_O hz (by decide) (by decide) rfl | exact zOK_T hz (by decide) (by decide) rfl | (refine ix (zOK_l hz (by decide) (by decide) rfl) ?_; omega) | decide | omega) only [eX4_findWall_0, eX4_findWall_1, eX4_findWall_2, eX4_findWall_3, Int.cast_ofNat_Int, Nat.reduceLT, Nat.reduceLeDiff, Nat.reduceEqDiff, Nat.reduceAdd, Nat.reduceMul, Int.reduceLE, Int.reduceLT, Int.reduceEq, not_false_iff, nlr, Nat.zero_add, Nat.add_zero, e10f, e01f, eq_self, true_and, and_true, false_and, and_false, and_self, decide_true, decide_false, mm_bd_i, mm_bd_v, if_true, if_false, not_true_eq_false, not_false_eq_true, nI_1, Bool.true_eq_false, Bool.false_eq_true, bI_0, n_le0, n_0lt, n_lt0, n_0le, n_eq0, n_eqm, n_eq1, n_le1, n_1lt, n_1le, n_lt1, nn_le, nI_ltI, nI_eq, nI_clamp, nI_add, pk_mul, i_eq0, i_eqm, i_0le, i_le0, i_0lt, i_lt0, i_mle, i_ltm, ii_le, iI_lt, iI_eq, ni_le, ni_lt, ni_eq, in_le, in_lt, in_eq, ni_add, in_add, ni_sub, in_sub, ni_mul, in_mul, iI_add, iI_sub, iI_mul, i_p1, iI_neg, n_neg]
  rfl
theorem cX_wall_out (d : Nat) (z : mm_Z) (F : Nat → Nat → Value) (I : Nat → Nat → Int32) (L : Nat → Nat → Int64) (x : Int32) (hx : x.toInt < -1) : mm_E (d + 4) mX10_wall 0 [.ref 2, .int x] [] (z, F, I, L) = some (some (.int (-3)), (z, F, I, L)) := by
  obtain ⟨b1, b2⟩ := i32_b x
  rw [iI_of x]
  generalize x.toInt = v at *
  simp (disch := first | assumption | exact bI_or _ | exact zOK_O hz (by decide) (by decide) rfl | exact zOK_T hz (by decide) (by decide) rfl | (refine ix (zOK_l hz (by decide) (by decide) rfl) ?_; omega) | decide | omega) only [eX10_wall_0, eX10_wall_1, eX10_wall_2, eX10_wall_5, eX10_wall_7, eX10_wall_10, eX10_wall_11, eX10_wall_14, eX10_wall_17, eX10_wall_18, eX10_wall_21, Int.cast_ofNat_Int, Nat.reduceLT, Nat.reduceLeDiff, Nat.reduceEqDiff, Nat.reduceAdd, Nat.reduceMul, Int.reduceLE, Int.reduceLT, Int.reduceEq, not_false_iff, nlr, Nat.zero_add, Nat.add_zero, e10f, e01f, eq_self, true_and, and_true, false_and, and_false, and_self, decide_true, decide_false, mm_bd_i, mm_bd_v, if_true, if_false, not_true_eq_false, not_false_eq_true, nI_1, Bool.true_eq_false, Bool.false_eq_true, bI_0, n_le0, n_0lt, n_lt0, n_0le, n_eq0, n_eqm, n_eq1, n_le1, n_1lt, n_1le, n_lt1, nn_le, nI_ltI, nI_eq, nI_clamp, nI_add, pk_mul, i_eq0, i_eqm, i_0le, i_le0, i_0lt, i_lt0, i_mle, i_ltm, ii_le, iI_lt, iI_eq, ni_le, ni_lt, ni_eq, in_le, in_lt, in_eq, ni_add, in_add, ni_sub, in_sub, ni_mul, in_mul, iI_add, iI_sub, iI_mul, i_p1, iI_neg, n_neg, hx]
theorem cX_wall (d : Nat) (z : mm_Z) (F : Nat → Nat → Value) (I : Nat → Nat → Int32) (L : Nat → Nat → Int64) (K : Nat → Nat) (hz : zOK z) (ht : cTop F) (h0 : cH0 F) (h : cPn K F L) (x : Int32) (hx : ¬ x.toInt < -1) : ∃ r, mm_E (d + 4) mX10_wall 0 [.ref 2, .int x] [] (z, F, I, L) = some (some (.int (iI r)), (z, F, I, L)) ∧ wlP K x.toInt r := by
  obtain ⟨b1, b2⟩ := i32_b x
  obtain ⟨r, r1, r2⟩ := cPl_findWall d z F I L K hz h x.toInt (by omega) b2
  refine ⟨r, ?_, r2⟩
  conv => lhs; rw [iI_of x]
  generalize x.toInt = v at *
  simp (disch := first | assumption | exact bI_or _ | exact zOK_O hz (by decide) (by decide) rfl | exact zOK_T hz (by decide) (by decide) rfl | (refine ix (zOK_l hz (by decide) (by decide) rfl) ?_; omega) | decide | omega) only [eX10_wall_0, eX10_wall_1, eX10_wall_2, eX10_wall_5, eX10_wall_7, eX10_wall_10, eX10_wall_11, eX10_wall_14, eX10_wall_17, eX10_wall_18, eX10_wall_21, Int.cast_ofNat_Int, Nat.reduceLT, Nat.reduceLeDiff, Nat.reduceEqDiff, Nat.reduceAdd, Nat.reduceMul, Int.reduceLE, Int.reduceLT, Int.reduceEq, not_false_iff, nlr, Nat.zero_add, Nat.add_zero, e10f, e01f, eq_self, true_and, and_true, false_and, and_false, and_self, decide_true, decide_false, mm_bd_i, mm_bd_v, if_true, if_false, not_true_eq_false, not_false_eq_true, nI_1, Bool.true_eq_false, Bool.false_eq_true, bI_0, n_le0, n_0lt, n_lt0, n_0le, n_eq0, n_eqm, n_eq1, n_le1, n_1lt, n_1le, n_lt1, nn_le, nI_ltI, nI_eq, nI_clamp, nI_add, pk_mul, i_eq0, i_eqm, i_0le, i_le0, i_0lt, i_lt0, i_mle, i_ltm, ii_le, iI_lt, iI_eq, ni_le, ni_lt, ni_eq, in_le, in_lt, in_eq, ni_add, in_add, ni_sub, in_sub, ni_mul, in_mul, iI_add, iI_sub, iI_mul, i_p1, iI_neg, n_neg, hx, ht.1, h0.1.2.2.1, r1]
def w3 (K : Nat → Nat) (l a : Nat) : Bool := hO K l a && hO K l (a + 1) && hO K l (a + 2)
def tri (K : Nat → Nat) (l a : Nat) : Bool := w3 K l a || (decide (0 < a) && w3 K l (a - 1)) || (decide (1 < a) && w3 K l (a - 2))
def coC (K : Nat → Nat) (c : Nat) : Bool := tri K (c / 8) (c % 8) && tri K (8 + c % 8) (c / 8)
theorem lb_wmb : ∀ a, a < 64 → lb 4557430888798830399 a = decide (a % 8 < 6) := by decide +kernel
theorem w3_row (K : Nat → Nat) (h : Int64) (hh : ∀ a, a < 64 → lb h a = decide (K a = 2)) {a : Nat} (ha : a < 64) : (((lb h a && lb h (1 + a)) && lb h (2 + a)) && decide (a % 8 < 6)) = w3 K (a / 8) (a % 8) := by
  have c0 : cO (a / 8) (a % 8) = a := by unfold cO; rw [if_pos (by omega)]; omega
  unfold w3 hO
  by_cases c : a % 8 < 6
  · have c1 : cO (a / 8) (a % 8 + 1) = 1 + a := by unfold cO; rw [if_pos (by omega)]; omega
    have c2 : cO (a / 8) (a % 8 + 2) = 2 + a := by unfold cO; rw [if_pos (by omega)]; omega
    rw [c0, c1, c2, hh a ha, hh (1 + a) (by omega), hh (2 + a) (by omega), decide_eq_true c, decide_eq_true (show a % 8 < 8 by omega), decide_eq_true (show a % 8 + 1 < 8 by omega), decide_eq_true (show a % 8 + 2 < 8 by omega), Bool.and_true, Bool.true_and, Bool.true_and, Bool.true_and]
  · rw [decide_eq_false c, decide_eq_false (show ¬ a % 8 + 2 < 8 by omega), Bool.and_false, Bool.false_and, Bool.and_false]
theorem w3_col (K : Nat → Nat) (h : Int64) (hh : ∀ a, a < 64 → lb h a = decide (K a = 2)) {a : Nat} (ha : a < 64) : ((lb h a && lb h (8 + a)) && lb h (16 + a)) = w3 K (8 + a % 8) (a / 8) := by
  have co : ∀ b, cO (8 + a % 8) b = 8 * b + a % 8 := by intro b; unfold cO; rw [if_neg (by omega)]; omega
  unfold w3 hO
  rw [co, co, co]
  by_cases c : 16 + a < 64
  · rw [show 8 * (a / 8) + a % 8 = a by omega, show 8 * (a / 8 + 1) + a % 8 = 8 + a by omega, show 8 * (a / 8 + 2) + a % 8 = 16 + a by omega, hh a ha, hh (8 + a) (by omega), hh (16 + a) (by omega), decide_eq_true (show a / 8 < 8 by omega), decide_eq_true (show a / 8 + 1 < 8 by omega), decide_eq_true (show a / 8 + 2 < 8 by omega), Bool.true_and, Bool.true_and, Bool.true_and]
  · rw [lb_big (show 64 ≤ 16 + a by omega), decide_eq_false (show ¬ a / 8 + 2 < 8 by omega), Bool.and_false, Bool.false_and, Bool.and_false]
theorem cPl_corners (d : Nat) (z : mm_Z) (F : Nat → Nat → Value) (I : Nat → Nat → Int32) (L : Nat → Nat → Int64) (K : Nat → Nat) (hz : zOK z) (h : cPn K F L) : mm_E d mX4_allCorners 0 [.ref 7, uu, uu, uu, uu] [] (z, F, I, L) = some (some (.long (lOr (coC K) 64)), (z, F, I, L)) := by
  obtain ⟨⟨h1, h2, h3⟩, _⟩ := h
  have r3 := fun a ha => w3_row K h1 h3 (a := a) ha
  have c3 := fun a ha => w3_col K h1 h3 (a := a) ha
  simp (disch := first | assumption | exact bI_or _ | exact zOK_O hz (by decide) (by decide) rfl | exact zOK_T hz (by decide) (by decide) rfl | (refine ix (zOK_l hz (by decide) (by decide) rfl) ?_; omega) | decide | omega) only [eX4_allCorners_0, eX4_allCorners_1, eX4_allCorners_4, eX4_allCorners_5, eX4_allCorners_8, eX4_allCorners_9, eX4_allCorners_10, eX4_allCorners_11, eX4_allCorners_12, eX4_allCorners_15, eX4_allCorners_16, eX4_allCorners_17, eX4_allCorners_18, eX4_allCorners_21, eX4_allCorners_22, eX4_allCorners_23, eX4_allCorners_24, eX4_allCorners_27, eX4_allCorners_28, eX4_allCorners_31, eX4_allCorners_33, eX4_allCorners_34, eX4_allCorners_35, eX4_allCorners_36, eX4_allCorners_39, eX4_allCorners_41, eX4_allCorners_42, eX4_allCorners_43, eX4_allCorners_44, eX4_allCorners_45, eX4_allCorners_46, eX4_allCorners_47, eX4_allCorners_48, eX4_allCorners_49, eX4_allCorners_50, eX4_allCorners_51, eX4_allCorners_52, eX4_allCorners_53, eX4_allCorners_54, eX4_allCorners_55, eX4_allCorners_57, eX4_allCorners_58, eX4_allCorners_59, eX4_allCorners_60, eX4_allCorners_62, eX4_allCorners_63, eX4_allCorners_64, eX4_allCorners_65, h2]
  congr 4
  apply lOr_eq
  intro a ha
  have u1 := fun (x : Int64) i => lb_ushr 1 (by decide) x i
  have u2 := fun (x : Int64) i => lb_ushr 2 (by decide) x i
  have u8 := fun (x : Int64) i => lb_ushr 8 (by decide) x i
  have u16 := fun (x : Int64) i => lb_ushr 16 (by decide) x i
  have l1 := fun (x : Int64) => lb_shl 1 (by decide) x ha
  have l2 := fun (x : Int64) => lb_shl 2 (by decide) x ha
  have l8 := fun (x : Int64) => lb_shl 8 (by decide) x ha
  have l16 := fun (x : Int64) => lb_shl 16 (by decide) x ha
  simp only [← sh1] at u1 l1
  simp only [lb_and, lb_or, u1, u2, u8, u16, l1, l2, l8, l16]
  rw [lb_wmb a ha, lb_wmb (a - 1) (by omega), lb_wmb (a - 2) (by omega), r3 a ha, r3 (a - 1) (by omega), r3 (a - 2) (by omega), c3 a ha, c3 (a - 8) (by omega), c3 (a - 16) (by omega)]
  have far : ∀ l b, 5 < b → w3 K l b = false := by
    intro l b hb
    unfold w3
    rw [hO_n K l (show ¬ b + 2 < 8 by omega), Bool.and_false]
  unfold coC tri
  congr 1
  · congr 1
    · congr 1
      by_cases c : 0 < a % 8
      · rw [decide_eq_true c, decide_eq_true (show 1 ≤ a by omega), show (a - 1) / 8 = a / 8 by omega, show (a - 1) % 8 = a % 8 - 1 by omega]
      · rw [decide_eq_false c]
        by_cases c2 : 1 ≤ a
        · rw [far _ _ (show 5 < (a - 1) % 8 by omega), Bool.and_false, Bool.false_and]
        · rw [decide_eq_false c2, Bool.false_and, Bool.false_and]
    · by_cases c : 1 < a % 8
      · rw [decide_eq_true c, decide_eq_true (show 2 ≤ a by omega), show (a - 2) / 8 = a / 8 by omega, show (a - 2) % 8 = a % 8 - 2 by omega]
      · rw [decide_eq_false c]
        by_cases c2 : 2 ≤ a
        · rw [far _ _ (show 5 < (a - 2) % 8 by omega), Bool.and_false, Bool.false_and]
        · rw [decide_eq_false c2, Bool.false_and, Bool.false_and]
  · congr 1
    · congr 1
      by_cases c : 0 < a / 8
      · rw [decide_eq_true c, decide_eq_true (show 8 ≤ a by omega), show (a - 8) / 8 = a / 8 - 1 by omega, show (a - 8) % 8 = a % 8 by omega]
      · rw [decide_eq_false c, decide_eq_false (show ¬ 8 ≤ a by omega), Bool.false_and, Bool.false_and]
    · by_cases c : 1 < a / 8
      · rw [decide_eq_true c, decide_eq_true (show 16 ≤ a by omega), show (a - 16) / 8 = a / 8 - 2 by omega, show (a - 16) % 8 = a % 8 by omega]
      · rw [decide_eq_false c, decide_eq_false (show ¬ 16 ≤ a by omega), Bool.false_and, Bool.false_and]
theorem cX_corners (d : Nat) (z : mm_Z) (F : Nat → Nat → Value) (I : Nat → Nat → Int32) (L : Nat → Nat → Int64) (K : Nat → Nat) (hz : zOK z) (ht : cTop F) (h0 : cH0 F) (h : cPn K F L) : mm_E (d + 1) mX10_corners 0 [.ref 2] [] (z, F, I, L) = some (some (.long (lOr (coC K) 64)), (z, F, I, L)) := by
  have co := fun d' => cPl_corners d' z F I L K hz h
  simp (disch := first | assumption | exact bI_or _ | exact zOK_O hz (by decide) (by decide) rfl | exact zOK_T hz (by decide) (by decide) rfl | (refine ix (zOK_l hz (by decide) (by decide) rfl) ?_; omega) | decide | omega) only [eX10_corners_0, eX10_corners_1, eX10_corners_4, eX10_corners_7, eX10_corners_10, Int.cast_ofNat_Int, Nat.reduceLT, Nat.reduceLeDiff, Nat.reduceEqDiff, Nat.reduceAdd, Nat.reduceMul, Int.reduceLE, Int.reduceLT, Int.reduceEq, not_false_iff, nlr, Nat.zero_add, Nat.add_zero, e10f, e01f, eq_self, true_and, and_true, false_and, and_false, and_self, decide_true, decide_false, mm_bd_i, mm_bd_v, if_true, if_false, not_true_eq_false, not_false_eq_true, nI_1, Bool.true_eq_false, Bool.false_eq_true, bI_0, n_le0, n_0lt, n_lt0, n_0le, n_eq0, n_eqm, n_eq1, n_le1, n_1lt, n_1le, n_lt1, nn_le, nI_ltI, nI_eq, nI_clamp, nI_add, pk_mul, i_eq0, i_eqm, i_0le, i_le0, i_0lt, i_lt0, i_mle, i_ltm, ii_le, iI_lt, iI_eq, ni_le, ni_lt, ni_eq, in_le, in_lt, in_eq, ni_add, in_add, ni_sub, in_sub, ni_mul, in_mul, iI_add, iI_sub, iI_mul, i_p1, iI_neg, n_neg, ht.1, h0.1.2.2.1, co]
