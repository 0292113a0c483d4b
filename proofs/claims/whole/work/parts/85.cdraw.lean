/-! the class: how a print is drawn and laid -/
/-- sweep s has the hits l -/
def swp (s : Nat) (l : List (Int × Int × Nat)) (F : Nat → Nat → Value) (I : Nat → Nat → Int32) : Prop := (F (9 + 6 * s) 0 = .ref (10 + 6 * s) ∧ F (9 + 6 * s) 1 = .ref (11 + 6 * s) ∧ F (9 + 6 * s) 2 = .ref (12 + 6 * s)) ∧ F (9 + 6 * s) 4 = .int (nI l.length) ∧ ∀ k, k < l.length → I (10 + 6 * s) k = iI (hg l k).1 ∧ I (11 + 6 * s) k = iI (hg l k).2.1 ∧ I (12 + 6 * s) k = nI (hg l k).2.2
def okH (l : List (Int × Int × Nat)) : Prop := l.length ≤ 16 ∧ ∀ k, k < l.length → (-7 ≤ (hg l k).1 ∧ (hg l k).1 ≤ 7) ∧ (-7 ≤ (hg l k).2.1 ∧ (hg l k).2.1 ≤ 7) ∧ (hg l k).2.2 ≤ 9 ∧ ¬ ((hg l k).1 = 0 ∧ (hg l k).2.1 = 0)
def tX (l : List (Int × Int × Nat)) (t k : Nat) : Int := tuX (hg l k).1 (hg l k).2.1 t
def tY (l : List (Int × Int × Nat)) (t k : Nat) : Int := tuY (hg l k).1 (hg l k).2.1 t
theorem tXY_b {l : List (Int × Int × Nat)} (h : okH l) (t : Nat) {k : Nat} (hk : k < l.length) : (-7 ≤ tX l t k ∧ tX l t k ≤ 7) ∧ (-7 ≤ tY l t k ∧ tY l t k ≤ 7) := tu_b t (h.2 k hk).1 (h.2 k hk).2.1
theorem tXY_0 {l : List (Int × Int × Nat)} (h : okH l) (t : Nat) {k : Nat} (hk : k < l.length) : ¬ (tX l t k = 0 ∧ tY l t k = 0) := by
  have := (h.2 k hk).2.2.2
  unfold tX tY tuX tuY
  split
  · exact this
  · split
    · omega
    · split <;> omega
def mnI (f : Nat → Int) : Nat → Int
  | 0 => 0
  | k + 1 => min (mnI f k) (f k)
def mxI (f : Nat → Int) : Nat → Int
  | 0 => 0
  | k + 1 => max (mxI f k) (f k)
theorem mnI_b (f : Nat → Int) : ∀ k, (∀ j, j < k → -7 ≤ f j ∧ f j ≤ 7) → (-7 ≤ mnI f k ∧ mnI f k ≤ 0) ∧ ∀ j, j < k → mnI f k ≤ f j := by
  intro k
  induction k with
  | zero => intro _; exact ⟨by unfold mnI; omega, fun j hj => absurd hj (by omega)⟩
  | succ k ih =>
    intro h
    have a := ih (fun j hj => h j (by omega))
    have b := h k (by omega)
    rw [mnI]
    refine ⟨by omega, fun j hj => ?_⟩
    by_cases e : j = k
    · subst e; omega
    · have := a.2 j (by omega); omega
theorem mxI_b (f : Nat → Int) : ∀ k, (∀ j, j < k → -7 ≤ f j ∧ f j ≤ 7) → (0 ≤ mxI f k ∧ mxI f k ≤ 7) ∧ ∀ j, j < k → f j ≤ mxI f k := by
  intro k
  induction k with
  | zero => intro _; exact ⟨by unfold mxI; omega, fun j hj => absurd hj (by omega)⟩
  | succ k ih =>
    intro h
    have a := ih (fun j hj => h j (by omega))
    have b := h k (by omega)
    rw [mxI]
    refine ⟨by omega, fun j hj => ?_⟩
    by_cases e : j = k
    · subst e; omega
    · have := a.2 j (by omega); omega
theorem mnI_ge (f : Nat → Int) (c : Int) (hc : c ≤ 0) : ∀ k, (∀ j, j < k → c ≤ f j) → c ≤ mnI f k := by
  intro k
  induction k with
  | zero => intro _; exact hc
  | succ k ih => intro h; have a := ih (fun j hj => h j (by omega)); have b := h k (by omega); rw [mnI]; omega
theorem mxI_le (f : Nat → Int) (c : Int) (hc : 0 ≤ c) : ∀ k, (∀ j, j < k → f j ≤ c) → mxI f k ≤ c := by
  intro k
  induction k with
  | zero => intro _; exact hc
  | succ k ih => intro h; have a := ih (fun j hj => h j (by omega)); have b := h k (by omega); rw [mxI]; omega
/-- the print r has these bounds -/
def pBd (r : Nat) (a b c e : Int) (F : Nat → Nat → Value) : Prop := F r 3 = .int (iI a) ∧ F r 4 = .int (iI b) ∧ F r 5 = .int (iI c) ∧ F r 6 = .int (iI e)
/-- only fields of r from a to b have changed -/
def frP (r a b : Nat) (F F' : Nat → Nat → Value) : Prop := ∀ x j, ¬ (x = r ∧ a ≤ j ∧ j ≤ b) → F' x j = F x j
theorem frP_trans {r a b : Nat} {F F' F'' : Nat → Nat → Value} (h : frP r a b F F') (h' : frP r a b F' F'') : frP r a b F F'' := fun x j q => (h' x j q).trans (h x j q)
theorem frP_mono {r a b a' b' : Nat} {F F' : Nat → Nat → Value} (h : frP r a b F F') (h1 : a' ≤ a) (h2 : b ≤ b') : frP r a' b' F F' := fun x j q => h x j (by omega)
theorem frP_up (r a b j : Nat) (F : Nat → Nat → Value) (v : Value) (h1 : a ≤ j) (h2 : j ≤ b) : frP r a b F (mm_up2 F r j v) := fun x i q => by unfold mm_up2; rw [if_neg (by omega)]
theorem swp_fr {s r a b : Nat} {l : List (Int × Int × Nat)} {F F' : Nat → Nat → Value} {I : Nat → Nat → Int32} (h : swp s l F I) (hf : frP r a b F F') (hr : ¬ 9 + 6 * s = r) : swp s l F' I := by
  unfold swp at *
  rw [hf _ _ (by omega), hf _ _ (by omega), hf _ _ (by omega), hf _ _ (by omega)]
  exact h
theorem cP_measure (d : Nat) (z : mm_Z) (F : Nat → Nat → Value) (I : Nat → Nat → Int32) (L : Nat → Nat → Int64) (r s t : Nat) (l : List (Int × Int × Nat)) (hz : zOK z) (zr : mm_zO z r 5) (hs : s < 8) (ht : t < 4) (hr : ¬ 9 + 6 * s = r) (ok : okH l) (h : swp s l F I) : ∃ F', mm_E (d + 1) mX5_measure 0 [.ref r, .ref (9 + 6 * s), .int (nI t), uu, uu, uu] [] (z, F, I, L) = some (none, (z, F', I, L)) ∧ pBd r (mnI (tX l t) l.length) (mxI (tX l t) l.length) (mnI (tY l t) l.length) (mxI (tY l t) l.length) F' ∧ frP r 3 6 F F' := by
  have ol := ok.1
  have lo : ∀ i, i ≤ l.length → ∀ (F : Nat → Nat → Value) (a4 a5 : Value), swp s l F I → pBd r (mnI (tX l t) i) (mxI (tX l t) i) (mnI (tY l t) i) (mxI (tY l t) i) F → ∃ F', mm_E (d + 1) mX5_measure 22 [.ref r, .ref (9 + 6 * s), .int (nI t), .int (nI i), a4, a5] [] (z, F, I, L) = some (none, (z, F', I, L)) ∧ pBd r (mnI (tX l t) l.length) (mxI (tX l t) l.length) (mnI (tY l t) l.length) (mxI (tY l t) l.length) F' ∧ frP r 3 6 F F' := by
    apply lp
    · intro F a4 a5 hw hp
      refine ⟨F, ?_, hp, fun _ _ _ => rfl⟩
      rw [eX5_measure_22]
      simp (disch := first | assumption | exact zSw hz (by omega) | exact zSx hz (by omega) | exact zSy hz (by omega) | exact zSm hz (by omega) | exact ix (zSxl hz (by omega)) (by omega) | exact ix (zSyl hz (by omega)) (by omega) | exact ix (zSml hz (by omega)) (by omega) | exact bI_or _ | exact zOK_O hz (by decide) (by decide) rfl | exact zOK_T hz (by decide) (by decide) rfl | (refine ix (zOK_l hz (by decide) (by decide) rfl) ?_; omega) | exact ix zlm (by omega) | decide | omega) only [eX5_measure_23, eX5_measure_24, eX5_measure_27, eX5_measure_30, eX5_measure_31, eX5_measure_34, eX5_measure_35, eX5_measure_36, eX5_measure_37, eX5_measure_40, eX5_measure_41, eX5_measure_42, eX5_measure_43, eX5_measure_46, eX5_measure_48, eX5_measure_49, eX5_measure_52, eX5_measure_53, eX5_measure_54, eX5_measure_55, eX5_measure_58, eX5_measure_59, eX5_measure_60, eX5_measure_61, eX5_measure_64, eX5_measure_66, eX5_measure_67, eX5_measure_68, eX5_measure_71, eX5_measure_73, eX5_measure_76, eX5_measure_79, eX5_measure_80, eX5_measure_81, eX5_measure_84, eX5_measure_86, eX5_measure_89, eX5_measure_92, eX5_measure_93, eX5_measure_94, eX5_measure_97, eX5_measure_99, eX5_measure_102, eX5_measure_105, eX5_measure_106, eX5_measure_107, eX5_measure_110, eX5_measure_112, eX5_measure_115, eX5_measure_118, eX5_measure_121, eX5_measure_124, Nat.reduceLT, Nat.reduceLeDiff, Nat.reduceEqDiff, Nat.reduceAdd, Nat.reduceMul, Int.reduceLE, Int.reduceLT, Int.reduceEq, not_false_iff, nlr, Nat.zero_add, Nat.add_zero, e10f, e01f, eq_self, true_and, and_true, false_and, and_false, and_self, decide_true, decide_false, mm_bd_i, mm_bd_v, if_true, if_false, not_true_eq_false, not_false_eq_true, nI_1, Bool.true_eq_false, Bool.false_eq_true, bI_0, n_le0, n_0lt, n_lt0, n_0le, n_eq0, n_eqm, n_eq1, n_le1, n_1lt, n_1le, n_lt1, nn_le, nI_ltI, nI_eq, nI_clamp, nI_add, pk_mul, i_eq0, i_eqm, i_0le, i_le0, i_0lt, i_lt0, i_mle, i_ltm, ii_le, iI_lt, iI_eq, ni_le, ni_lt, ni_eq, in_le, in_lt, in_eq, ni_add, in_add, ni_sub, in_sub, ni_mul, in_mul, iI_add, iI_sub, iI_mul, i_p1, iI_neg, n_neg, hw.2.1]
    · intro i hi ih F a4 a5 hw hp
      obtain ⟨⟨w0, w1, w2⟩, w4, w5⟩ := hw
      obtain ⟨p3, p4, p5, p6⟩ := hp
      have q := w5 i hi
      have tb := tXY_b ok t hi
      have bx := mnI_b (tX l t) i (fun j hj => (tXY_b ok t (by omega)).1)
      have by' := mnI_b (tY l t) i (fun j hj => (tXY_b ok t (by omega)).2)
      have cx := mxI_b (tX l t) i (fun j hj => (tXY_b ok t (by omega)).1)
      have cy := mxI_b (tY l t) i (fun j hj => (tXY_b ok t (by omega)).2)
      have tx := fun d' F' => cX_turnedX d' z F' I L (hg l i).1 (hg l i).2.1 t ht
      have ty := fun d' F' => cX_turnedY d' z F' I L (hg l i).1 (hg l i).2.1 t ht
      have etx : tuX (hg l i).1 (hg l i).2.1 t = tX l t i := rfl
      have ety : tuY (hg l i).1 (hg l i).2.1 t = tY l t i := rfl
      let F1 := mm_up2 (mm_up2 (mm_up2 (mm_up2 F r 3 (.int (iI (mnI (tX l t) (i + 1))))) r 4 (.int (iI (mxI (tX l t) (i + 1))))) r 5 (.int (iI (mnI (tY l t) (i + 1))))) r 6 (.int (iI (mxI (tY l t) (i + 1))))
      have f1 : frP r 3 6 F F1 := frP_trans (frP_trans (frP_trans (frP_up r 3 6 3 _ _ (by decide) (by decide)) (frP_up r 3 6 4 _ _ (by decide) (by decide))) (frP_up r 3 6 5 _ _ (by decide) (by decide))) (frP_up r 3 6 6 _ _ (by decide) (by decide))
      obtain ⟨F', k1, k2, k3⟩ := ih F1 (.int (iI (tX l t i))) (.int (iI (tY l t i))) (swp_fr ⟨⟨w0, w1, w2⟩, w4, w5⟩ f1 hr) ⟨by show mm_up2 _ _ _ _ _ _ = _; rw [up_k _ _ _ _ (by decide), up_k _ _ _ _ (by decide), up_k _ _ _ _ (by decide), up_s], by show mm_up2 _ _ _ _ _ _ = _; rw [up_k _ _ _ _ (by decide), up_k _ _ _ _ (by decide), up_s], by show mm_up2 _ _ _ _ _ _ = _; rw [up_k _ _ _ _ (by decide), up_s], up_s _ _ _ _⟩
      refine ⟨F', ?_, k2, frP_trans f1 k3⟩
      rw [← k1, eX5_measure_22]
      simp (disch := first | assumption | exact zSw hz (by omega) | exact zSx hz (by omega) | exact zSy hz (by omega) | exact zSm hz (by omega) | exact ix (zSxl hz (by omega)) (by omega) | exact ix (zSyl hz (by omega)) (by omega) | exact ix (zSml hz (by omega)) (by omega) | exact bI_or _ | exact zOK_O hz (by decide) (by decide) rfl | exact zOK_T hz (by decide) (by decide) rfl | (refine ix (zOK_l hz (by decide) (by decide) rfl) ?_; omega) | exact ix zlm (by omega) | decide | omega) only [eX5_measure_23, eX5_measure_24, eX5_measure_27, eX5_measure_30, eX5_measure_31, eX5_measure_34, eX5_measure_35, eX5_measure_36, eX5_measure_37, eX5_measure_40, eX5_measure_41, eX5_measure_42, eX5_measure_43, eX5_measure_46, eX5_measure_48, eX5_measure_49, eX5_measure_52, eX5_measure_53, eX5_measure_54, eX5_measure_55, eX5_measure_58, eX5_measure_59, eX5_measure_60, eX5_measure_61, eX5_measure_64, eX5_measure_66, eX5_measure_67, eX5_measure_68, eX5_measure_71, eX5_measure_73, eX5_measure_76, eX5_measure_79, eX5_measure_80, eX5_measure_81, eX5_measure_84, eX5_measure_86, eX5_measure_89, eX5_measure_92, eX5_measure_93, eX5_measure_94, eX5_measure_97, eX5_measure_99, eX5_measure_102, eX5_measure_105, eX5_measure_106, eX5_measure_107, eX5_measure_110, eX5_measure_112, eX5_measure_115, eX5_measure_118, eX5_measure_121, eX5_measure_124, Nat.reduceLT, Nat.reduceLeDiff, Nat.reduceEqDiff, Nat.reduceAdd, Nat.reduceMul, Int.reduceLE, Int.reduceLT, Int.reduceEq, not_false_iff, nlr, Nat.zero_add, Nat.add_zero, e10f, e01f, eq_self, true_and, and_true, false_and, and_false, and_self, decide_true, decide_false, mm_bd_i, mm_bd_v, if_true, if_false, not_true_eq_false, not_false_eq_true, nI_1, Bool.true_eq_false, Bool.false_eq_true, bI_0, n_le0, n_0lt, n_lt0, n_0le, n_eq0, n_eqm, n_eq1, n_le1, n_1lt, n_1le, n_lt1, nn_le, nI_ltI, nI_eq, nI_clamp, nI_add, pk_mul, i_eq0, i_eqm, i_0le, i_le0, i_0lt, i_lt0, i_mle, i_ltm, ii_le, iI_lt, iI_eq, ni_le, ni_lt, ni_eq, in_le, in_lt, in_eq, ni_add, in_add, ni_sub, in_sub, ni_mul, in_mul, iI_add, iI_sub, iI_mul, i_p1, iI_neg, n_neg, w0, w1, w4, hi, q.1, q.2.1, tx, ty, etx, ety, p3, p4, p5, p6, cJ_min, cJ_max, up_k]
      rfl
  let F0 := mm_up2 (mm_up2 (mm_up2 (mm_up2 F r 3 (.int (iI 0))) r 4 (.int (iI 0))) r 5 (.int (iI 0))) r 6 (.int (iI 0))
  have f0 : frP r 3 6 F F0 := frP_trans (frP_trans (frP_trans (frP_up r 3 6 3 _ _ (by decide) (by decide)) (frP_up r 3 6 4 _ _ (by decide) (by decide))) (frP_up r 3 6 5 _ _ (by decide) (by decide))) (frP_up r 3 6 6 _ _ (by decide) (by decide))
  obtain ⟨F', k1, k2, k3⟩ := lo 0 (by omega) F0 uu uu (swp_fr h f0 hr) ⟨by show mm_up2 _ _ _ _ _ _ = _; rw [up_k _ _ _ _ (by decide), up_k _ _ _ _ (by decide), up_k _ _ _ _ (by decide), up_s]; rfl, by show mm_up2 _ _ _ _ _ _ = _; rw [up_k _ _ _ _ (by decide), up_k _ _ _ _ (by decide), up_s]; rfl, by show mm_up2 _ _ _ _ _ _ = _; rw [up_k _ _ _ _ (by decide), up_s]; rfl, up_s _ _ _ _⟩
  refine ⟨F', ?_, k2, frP_trans f0 k3⟩
  rw [← k1]
  simp (disch := first | assumption | exact zSw hz (by omega) | exact zSx hz (by omega) | exact zSy hz (by omega) | exact zSm hz (by omega) | exact ix (zSxl hz (by omega)) (by omega) | exact ix (zSyl hz (by omega)) (by omega) | exact ix (zSml hz (by omega)) (by omega) | exact bI_or _ | exact zOK_O hz (by decide) (by decide) rfl | exact zOK_T hz (by decide) (by decide) rfl | (refine ix (zOK_l hz (by decide) (by decide) rfl) ?_; omega) | exact ix zlm (by omega) | decide | omega) only [eX5_measure_0, eX5_measure_1, eX5_measure_2, eX5_measure_5, eX5_measure_6, eX5_measure_7, eX5_measure_10, eX5_measure_11, eX5_measure_12, eX5_measure_15, eX5_measure_16, eX5_measure_17, eX5_measure_20, eX5_measure_21, Nat.reduceLT, Nat.reduceLeDiff, Nat.reduceEqDiff, Nat.reduceAdd, Nat.reduceMul, Int.reduceLE, Int.reduceLT, Int.reduceEq, not_false_iff, nlr, Nat.zero_add, Nat.add_zero, e10f, e01f, eq_self, true_and, and_true, false_and, and_false, and_self, decide_true, decide_false, mm_bd_i, mm_bd_v, if_true, if_false, not_true_eq_false, not_false_eq_true, nI_1, Bool.true_eq_false, Bool.false_eq_true, bI_0, n_le0, n_0lt, n_lt0, n_0le, n_eq0, n_eqm, n_eq1, n_le1, n_1lt, n_1le, n_lt1, nn_le, nI_ltI, nI_eq, nI_clamp, nI_add, pk_mul, i_eq0, i_eqm, i_0le, i_le0, i_0lt, i_lt0, i_mle, i_ltm, ii_le, iI_lt, iI_eq, ni_le, ni_lt, ni_eq, in_le, in_lt, in_eq, ni_add, in_add, ni_sub, in_sub, ni_mul, in_mul, iI_add, iI_sub, iI_mul, i_p1, iI_neg, n_neg]
  rfl
/-- what is drawn of k hits -/
def dPs (l : List (Int × Int × Nat)) (t k : Nat) (lf tp : Int) : Int := 8 * (tY l t k - tp) + (tX l t k - lf)
def dH (l : List (Int × Int × Nat)) (t : Nat) (lf tp : Int) : Nat → Nat → Bool
  | 0, _ => false
  | k + 1, a => dH l t lf tp k a || decide ((a : Int) = dPs l t k lf tp)
def dM (l : List (Int × Int × Nat)) (t : Nat) (lf tp : Int) (m : Nat) : Nat → Nat → Bool
  | 0, _ => false
  | k + 1, a => dM l t lf tp m k a || (decide ((hg l k).2.2 = m) && decide ((a : Int) = dPs l t k lf tp))
def dB (l : List (Int × Int × Nat)) (t : Nat) (lf tp : Int) : Nat → Nat → Bool
  | 0, _ => false
  | k + 1, a => dB l t lf tp k a || bRD (-(lf + 8 * tp)) (tX l t k) (tY l t k) (Int.gcd (tX l t k) (tY l t k)) 0 (Int.gcd (tX l t k) (tY l t k)) a
/-- the print r (its row rm) holds what is drawn of k hits -/
def pDr (r rm : Nat) (l : List (Int × Int × Nat)) (t : Nat) (lf tp : Int) (k : Nat) (F : Nat → Nat → Value) (L : Nat → Nat → Int64) : Prop := ∃ dh db, F r 1 = .long dh ∧ F r 2 = .long db ∧ (∀ a, a < 64 → lb dh a = dH l t lf tp k a) ∧ (∀ a, a < 64 → lb db a = dB l t lf tp k a) ∧ ∀ m, m < 10 → ∀ a, a < 64 → lb (L rm m) a = dM l t lf tp m k a
