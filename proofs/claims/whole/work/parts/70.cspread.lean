/-! joins and the row: the class's spread and calls -/
def euF : Nat → Nat → Nat → Nat
  | 0, a, _ => a
  | f + 1, a, b => if b = 0 then a else euF f b (a % b)
theorem euF_gcd : ∀ n f a b, b < 2 ^ n → 2 * n ≤ f → euF f a b = Nat.gcd b a := by
  intro n
  induction n with
  | zero =>
    intro f a b hb _
    have e : b = 0 := by simpa using hb
    subst e
    rw [Nat.gcd_zero_left]
    cases f <;> rfl
  | succ n ih =>
    intro f a b hb hf
    obtain ⟨f', rfl⟩ : ∃ f', f = f' + 2 := ⟨f - 2, by omega⟩
    rw [euF]
    by_cases e : b = 0
    · rw [if_pos e, e, Nat.gcd_zero_left]
    · rw [if_neg e, euF]
      by_cases e2 : a % b = 0
      · rw [if_pos e2, Nat.gcd_rec, e2, Nat.gcd_zero_left]
      · have r1 : a % b < b := Nat.mod_lt _ (by omega)
        have r2 : b % (a % b) < 2 ^ n := by
          have p2 : 2 ^ (n + 1) = 2 * 2 ^ n := by rw [Nat.pow_succ]; omega
          have q1 : b % (a % b) < a % b := Nat.mod_lt _ (by omega)
          have q2 := Nat.mod_add_div b (a % b)
          have q3 : 1 ≤ b / (a % b) := (Nat.le_div_iff_mul_le (by omega)).mpr (by omega)
          have q4 : a % b ≤ a % b * (b / (a % b)) := Nat.le_mul_of_pos_right _ (by omega)
          omega
        rw [if_neg e2, ih f' (a % b) (b % (a % b)) r2 (by omega), ← Nat.gcd_rec, ← Nat.gcd_rec]
theorem cX_gd_l (d : Nat) (z : mm_Z) (F : Nat → Nat → Value) (I : Nat → Nat → Int32) (L : Nat → Nat → Int64) (x y : Value) : ∀ k i a b w, i + k = 64 → a < 2 ^ 31 → b < 2 ^ 31 → mm_E d mX10_greatestDivisor 13 [x, y, .int (nI a), .int (nI b), .int (nI i), w] [] (z, F, I, L) = some (some (.int (nI (euF k a b))), (z, F, I, L)) := by
  intro k
  induction k with
  | zero =>
    intro i a b w hi ha hb
    have e : i = 64 := by omega
    subst e
    rw [eX10_greatestDivisor_13, euF]
    simp (disch := first | assumption | exact bI_or _ | exact zOK_O hz (by decide) (by decide) rfl | exact zOK_T hz (by decide) (by decide) rfl | (refine ix (zOK_l hz (by decide) (by decide) rfl) ?_; omega) | decide | omega) only [eX10_greatestDivisor_0, eX10_greatestDivisor_1, eX10_greatestDivisor_4, eX10_greatestDivisor_5, eX10_greatestDivisor_6, eX10_greatestDivisor_9, eX10_greatestDivisor_10, eX10_greatestDivisor_11, eX10_greatestDivisor_15, eX10_greatestDivisor_17, eX10_greatestDivisor_20, eX10_greatestDivisor_21, eX10_greatestDivisor_24, eX10_greatestDivisor_25, eX10_greatestDivisor_26, eX10_greatestDivisor_27, eX10_greatestDivisor_29, eX10_greatestDivisor_30, eX10_greatestDivisor_31, eX10_greatestDivisor_33, eX10_greatestDivisor_34, eX10_greatestDivisor_37, eX10_greatestDivisor_40, eX10_greatestDivisor_41, Nat.reduceLT, Nat.reduceLeDiff, Nat.reduceEqDiff, Nat.reduceAdd, Nat.reduceMul, Int.reduceLE, Int.reduceLT, Int.reduceEq, not_false_iff, nlr, Nat.zero_add, Nat.add_zero, e10f, e01f, eq_self, true_and, and_true, false_and, and_false, and_self, decide_true, decide_false, mm_bd_i, mm_bd_v, if_true, if_false, not_true_eq_false, not_false_eq_true, nI_1, Bool.true_eq_false, Bool.false_eq_true, bI_0, n_le0, n_0lt, n_lt0, n_0le, n_eq0, n_eqm, n_eq1, n_le1, n_1lt, n_1le, n_lt1, nn_le, nI_ltI, nI_eq, nI_clamp, nI_add, pk_mul, i_eq0, i_eqm, i_0le, i_le0, i_0lt, i_lt0, i_mle, i_ltm, ii_le, iI_lt, iI_eq, ni_le, ni_lt, ni_eq, in_le, in_lt, in_eq, ni_add, in_add, ni_sub, in_sub, ni_mul, in_mul, iI_add, iI_sub, iI_mul, i_p1, iI_neg, n_neg]
  | succ k ih =>
    intro i a b w hi ha hb
    have hi' : i < 64 := by omega
    rw [eX10_greatestDivisor_13, euF]
    by_cases e : b = 0
    · subst e
      simp (disch := first | assumption | exact bI_or _ | exact zOK_O hz (by decide) (by decide) rfl | exact zOK_T hz (by decide) (by decide) rfl | (refine ix (zOK_l hz (by decide) (by decide) rfl) ?_; omega) | decide | omega) only [eX10_greatestDivisor_0, eX10_greatestDivisor_1, eX10_greatestDivisor_4, eX10_greatestDivisor_5, eX10_greatestDivisor_6, eX10_greatestDivisor_9, eX10_greatestDivisor_10, eX10_greatestDivisor_11, eX10_greatestDivisor_15, eX10_greatestDivisor_17, eX10_greatestDivisor_20, eX10_greatestDivisor_21, eX10_greatestDivisor_24, eX10_greatestDivisor_25, eX10_greatestDivisor_26, eX10_greatestDivisor_27, eX10_greatestDivisor_29, eX10_greatestDivisor_30, eX10_greatestDivisor_31, eX10_greatestDivisor_33, eX10_greatestDivisor_34, eX10_greatestDivisor_37, eX10_greatestDivisor_40, eX10_greatestDivisor_41, Nat.reduceLT, Nat.reduceLeDiff, Nat.reduceEqDiff, Nat.reduceAdd, Nat.reduceMul, Int.reduceLE, Int.reduceLT, Int.reduceEq, not_false_iff, nlr, Nat.zero_add, Nat.add_zero, e10f, e01f, eq_self, true_and, and_true, false_and, and_false, and_self, decide_true, decide_false, mm_bd_i, mm_bd_v, if_true, if_false, not_true_eq_false, not_false_eq_true, nI_1, Bool.true_eq_false, Bool.false_eq_true, bI_0, n_le0, n_0lt, n_lt0, n_0le, n_eq0, n_eqm, n_eq1, n_le1, n_1lt, n_1le, n_lt1, nn_le, nI_ltI, nI_eq, nI_clamp, nI_add, pk_mul, i_eq0, i_eqm, i_0le, i_le0, i_0lt, i_lt0, i_mle, i_ltm, ii_le, iI_lt, iI_eq, ni_le, ni_lt, ni_eq, in_le, in_lt, in_eq, ni_add, in_add, ni_sub, in_sub, ni_mul, in_mul, iI_add, iI_sub, iI_mul, i_p1, iI_neg, n_neg, hi']
    · have e1 : ¬ nI b = 0 := nI_ne0 (by omega) hb
      have e2 : 0 < b := by omega
      rw [if_neg e, ← ih (i + 1) b (a % b) (.int (nI (a % b))) (by omega) hb (Nat.lt_trans (Nat.mod_lt _ e2) hb)]
      simp (disch := first | assumption | exact bI_or _ | exact zOK_O hz (by decide) (by decide) rfl | exact zOK_T hz (by decide) (by decide) rfl | (refine ix (zOK_l hz (by decide) (by decide) rfl) ?_; omega) | decide | omega) only [eX10_greatestDivisor_0, eX10_greatestDivisor_1, eX10_greatestDivisor_4, eX10_greatestDivisor_5, eX10_greatestDivisor_6, eX10_greatestDivisor_9, eX10_greatestDivisor_10, eX10_greatestDivisor_11, eX10_greatestDivisor_15, eX10_greatestDivisor_17, eX10_greatestDivisor_20, eX10_greatestDivisor_21, eX10_greatestDivisor_24, eX10_greatestDivisor_25, eX10_greatestDivisor_26, eX10_greatestDivisor_27, eX10_greatestDivisor_29, eX10_greatestDivisor_30, eX10_greatestDivisor_31, eX10_greatestDivisor_33, eX10_greatestDivisor_34, eX10_greatestDivisor_37, eX10_greatestDivisor_40, eX10_greatestDivisor_41, Nat.reduceLT, Nat.reduceLeDiff, Nat.reduceEqDiff, Nat.reduceAdd, Nat.reduceMul, Int.reduceLE, Int.reduceLT, Int.reduceEq, not_false_iff, nlr, Nat.zero_add, Nat.add_zero, e10f, e01f, eq_self, true_and, and_true, false_and, and_false, and_self, decide_true, decide_false, mm_bd_i, mm_bd_v, if_true, if_false, not_true_eq_false, not_false_eq_true, nI_1, Bool.true_eq_false, Bool.false_eq_true, bI_0, n_le0, n_0lt, n_lt0, n_0le, n_eq0, n_eqm, n_eq1, n_le1, n_1lt, n_1le, n_lt1, nn_le, nI_ltI, nI_eq, nI_clamp, nI_add, pk_mul, i_eq0, i_eqm, i_0le, i_le0, i_0lt, i_lt0, i_mle, i_ltm, ii_le, iI_lt, iI_eq, ni_le, ni_lt, ni_eq, in_le, in_lt, in_eq, ni_add, in_add, ni_sub, in_sub, ni_mul, in_mul, iI_add, iI_sub, iI_mul, i_p1, iI_neg, n_neg, hi', e, pk_rem]
theorem cX_gd (d : Nat) (z : mm_Z) (F : Nat → Nat → Value) (I : Nat → Nat → Int32) (L : Nat → Nat → Int64) (a b : Int) (ha : -1000000 < a) (ha' : a < 1000000) (hb : -1000000 < b) (hb' : b < 1000000) : mm_E (d + 1) mX10_greatestDivisor 0 [.int (iI a), .int (iI b), uu, uu, uu, uu] [] (z, F, I, L) = some (some (.int (nI (Int.gcd a b))), (z, F, I, L)) := by
  have g : euF 64 a.natAbs b.natAbs = Int.gcd a b := by
    rw [euF_gcd 32 64 a.natAbs b.natAbs (by omega) (by omega), Nat.gcd_comm]; rfl
  rw [← g, ← cX_gd_l (d + 1) z F I L (.int (iI a)) (.int (iI b)) 64 0 a.natAbs b.natAbs uu (by omega) (by omega) (by omega)]
  simp (disch := first | assumption | exact bI_or _ | exact zOK_O hz (by decide) (by decide) rfl | exact zOK_T hz (by decide) (by decide) rfl | (refine ix (zOK_l hz (by decide) (by decide) rfl) ?_; omega) | decide | omega) only [eX10_greatestDivisor_0, eX10_greatestDivisor_1, eX10_greatestDivisor_4, eX10_greatestDivisor_5, eX10_greatestDivisor_6, eX10_greatestDivisor_9, eX10_greatestDivisor_10, eX10_greatestDivisor_11, eX10_greatestDivisor_15, eX10_greatestDivisor_17, eX10_greatestDivisor_20, eX10_greatestDivisor_21, eX10_greatestDivisor_24, eX10_greatestDivisor_25, eX10_greatestDivisor_26, eX10_greatestDivisor_27, eX10_greatestDivisor_29, eX10_greatestDivisor_30, eX10_greatestDivisor_31, eX10_greatestDivisor_33, eX10_greatestDivisor_34, eX10_greatestDivisor_37, eX10_greatestDivisor_40, eX10_greatestDivisor_41, Nat.reduceLT, Nat.reduceLeDiff, Nat.reduceEqDiff, Nat.reduceAdd, Nat.reduceMul, Int.reduceLE, Int.reduceLT, Int.reduceEq, not_false_iff, nlr, Nat.zero_add, Nat.add_zero, e10f, e01f, eq_self, true_and, and_true, false_and, and_false, and_self, decide_true, decide_false, mm_bd_i, mm_bd_v, if_true, if_false, not_true_eq_false, not_false_eq_true, nI_1, Bool.true_eq_false, Bool.false_eq_true, bI_0, n_le0, n_0lt, n_lt0, n_0le, n_eq0, n_eqm, n_eq1, n_le1, n_1lt, n_1le, n_lt1, nn_le, nI_ltI, nI_eq, nI_clamp, nI_add, pk_mul, i_eq0, i_eqm, i_0le, i_le0, i_0lt, i_lt0, i_mle, i_ltm, ii_le, iI_lt, iI_eq, ni_le, ni_lt, ni_eq, in_le, in_lt, in_eq, ni_add, in_add, ni_sub, in_sub, ni_mul, in_mul, iI_add, iI_sub, iI_mul, i_p1, iI_neg, n_neg, cJ_abs]
  rfl
def sumI (f : Nat → Int) : Nat → Int
  | 0 => 0
  | k + 1 => sumI f k + f k
theorem sumI_b (f : Nat → Int) (B : Nat) : ∀ k, (∀ j, j < k → -(B : Int) ≤ f j ∧ f j ≤ B) → -((B * k : Nat) : Int) ≤ sumI f k ∧ sumI f k ≤ (B * k : Nat) := by
  intro k
  induction k with
  | zero => intro _; simp [sumI]
  | succ k ih =>
    intro h
    have a := ih (fun j hj => h j (by omega))
    have b := h k (by omega)
    rw [sumI, Nat.mul_succ]
    omega
def msI (jv : Nat → Int) (c : Nat) (ro : Nat → Nat) (rb : Nat → Bool) : Int := sumI (fun k => jtl jv (ro k) (rb k)) c
def lsN (jw : Nat → Nat) (c : Nat) (ro : Nat → Nat) (rb : Nat → Bool) : Nat := sumT (fun k => 51 - jw (ro k)) c
theorem ms_b (m : Nat) (ja jb : Nat → Nat) (jv : Nat → Int) (jw : Nat → Nat) (c : Nat) (ro : Nat → Nat) (rb : Nat → Bool) (ok : okJ m ja jb jv jw) (okr : okR m c ro) : -800 < msI jv c ro rb ∧ msI jv c ro rb < 800 := by
  have o := okr.1
  have h := sumI_b (fun k => jtl jv (ro k) (rb k)) 99 c (fun j hj => by
    have := ok.2 _ (okr.2 j hj)
    show -((99 : Nat) : Int) ≤ jtl jv (ro j) (rb j) ∧ jtl jv (ro j) (rb j) ≤ (99 : Nat)
    unfold jtl
    split <;> omega)
  unfold msI
  omega
theorem ls_b (m : Nat) (ja jb : Nat → Nat) (jv : Nat → Int) (jw : Nat → Nat) (c : Nat) (ro : Nat → Nat) (rb : Nat → Bool) (ok : okJ m ja jb jv jw) (okr : okR m c ro) : c ≤ lsN jw c ro rb ∧ lsN jw c ro rb ≤ 400 := by
  have o := okr.1
  have h1 := sumT_mono (f := fun _ => 1) (g := fun k => 51 - jw (ro k)) c (fun j hj => by have := ok.2 _ (okr.2 j hj); omega)
  have h2 := sumT_mono (g := fun _ => 50) (f := fun k => 51 - jw (ro k)) c (fun j hj => by have := ok.2 _ (okr.2 j hj); omega)
  have h3 := sumT_le (fun _ => 50) 50 (fun _ => Nat.le_refl _) c
  have h4 : ∀ k, sumT (fun _ => 1) k = k := by
    intro k
    induction k with
    | zero => rfl
    | succ k ih => rw [sumT, ih]
  rw [h4] at h1
  unfold lsN
  omega
theorem cR_miss (d : Nat) (z : mm_Z) (F : Nat → Nat → Value) (I : Nat → Nat → Int32) (L : Nat → Nat → Int64) (m : Nat) (ja jb : Nat → Nat) (jv : Nat → Int) (jw : Nat → Nat) (c : Nat) (ro : Nat → Nat) (rb : Nat → Bool) (hz : zOK z) (ok : okJ m ja jb jv jw) (h : cJ0 m ja jb jv jw F I) (okr : okR m c ro) (hr : cRw c ro rb F I) : mm_E (d + 1) mX6_missOf 0 [.ref 113, .ref 80, uu, uu] [] (z, F, I, L) = some (some (.int (iI (msI jv c ro rb))), (z, F, I, L)) := by
  have oc := okr.1
  obtain ⟨r0, r1, r2, r3⟩ := hr
  have l : ∀ i, i ≤ c → mm_E (d + 1) mX6_missOf 4 [.ref 113, .ref 80, .int (iI (sumI (fun k => jtl jv (ro k) (rb k)) i)), .int (nI i)] [] (z, F, I, L) = some (some (.int (iI (msI jv c ro rb))), (z, F, I, L)) := by
    apply lp
    · rw [eX6_missOf_4]
      simp (disch := first | assumption | exact bI_or _ | exact zOK_O hz (by decide) (by decide) rfl | exact zOK_T hz (by decide) (by decide) rfl | (refine ix (zOK_l hz (by decide) (by decide) rfl) ?_; omega) | decide | omega) only [eX6_missOf_0, eX6_missOf_1, eX6_missOf_2, eX6_missOf_3, eX6_missOf_5, eX6_missOf_6, eX6_missOf_9, eX6_missOf_12, eX6_missOf_13, eX6_missOf_14, eX6_missOf_15, eX6_missOf_18, eX6_missOf_19, eX6_missOf_20, eX6_missOf_21, eX6_missOf_24, eX6_missOf_25, eX6_missOf_26, eX6_missOf_29, eX6_missOf_30, eX6_missOf_31, eX6_missOf_34, eX6_missOf_37, eX6_missOf_38, Nat.reduceLT, Nat.reduceLeDiff, Nat.reduceEqDiff, Nat.reduceAdd, Nat.reduceMul, Int.reduceLE, Int.reduceLT, Int.reduceEq, not_false_iff, nlr, Nat.zero_add, Nat.add_zero, e10f, e01f, eq_self, true_and, and_true, false_and, and_false, and_self, decide_true, decide_false, mm_bd_i, mm_bd_v, if_true, if_false, not_true_eq_false, not_false_eq_true, nI_1, Bool.true_eq_false, Bool.false_eq_true, bI_0, n_le0, n_0lt, n_lt0, n_0le, n_eq0, n_eqm, n_eq1, n_le1, n_1lt, n_1le, n_lt1, nn_le, nI_ltI, nI_eq, nI_clamp, nI_add, pk_mul, i_eq0, i_eqm, i_0le, i_le0, i_0lt, i_lt0, i_mle, i_ltm, ii_le, iI_lt, iI_eq, ni_le, ni_lt, ni_eq, in_le, in_lt, in_eq, ni_add, in_add, ni_sub, in_sub, ni_mul, in_mul, iI_add, iI_sub, iI_mul, i_p1, iI_neg, n_neg, r2]
      rfl
    · intro i hi ih
      have q := r3 i hi
      have te := fun d' => cJ_tellsOf d' z F I L m ja jb jv jw hz ok h (ro i) (okr.2 i hi) (rb i)
      rw [← ih, eX6_missOf_4, sumI]
      simp (disch := first | assumption | exact bI_or _ | exact zOK_O hz (by decide) (by decide) rfl | exact zOK_T hz (by decide) (by decide) rfl | (refine ix (zOK_l hz (by decide) (by decide) rfl) ?_; omega) | decide | omega) only [eX6_missOf_0, eX6_missOf_1, eX6_missOf_2, eX6_missOf_3, eX6_missOf_5, eX6_missOf_6, eX6_missOf_9, eX6_missOf_12, eX6_missOf_13, eX6_missOf_14, eX6_missOf_15, eX6_missOf_18, eX6_missOf_19, eX6_missOf_20, eX6_missOf_21, eX6_missOf_24, eX6_missOf_25, eX6_missOf_26, eX6_missOf_29, eX6_missOf_30, eX6_missOf_31, eX6_missOf_34, eX6_missOf_37, eX6_missOf_38, Nat.reduceLT, Nat.reduceLeDiff, Nat.reduceEqDiff, Nat.reduceAdd, Nat.reduceMul, Int.reduceLE, Int.reduceLT, Int.reduceEq, not_false_iff, nlr, Nat.zero_add, Nat.add_zero, e10f, e01f, eq_self, true_and, and_true, false_and, and_false, and_self, decide_true, decide_false, mm_bd_i, mm_bd_v, if_true, if_false, not_true_eq_false, not_false_eq_true, nI_1, Bool.true_eq_false, Bool.false_eq_true, bI_0, n_le0, n_0lt, n_lt0, n_0le, n_eq0, n_eqm, n_eq1, n_le1, n_1lt, n_1le, n_lt1, nn_le, nI_ltI, nI_eq, nI_clamp, nI_add, pk_mul, i_eq0, i_eqm, i_0le, i_le0, i_0lt, i_lt0, i_mle, i_ltm, ii_le, iI_lt, iI_eq, ni_le, ni_lt, ni_eq, in_le, in_lt, in_eq, ni_add, in_add, ni_sub, in_sub, ni_mul, in_mul, iI_add, iI_sub, iI_mul, i_p1, iI_neg, n_neg, r0, r1, r2, hi, q.1, q.2, te]
  rw [← l 0 (by omega)]
  simp (disch := first | assumption | exact bI_or _ | exact zOK_O hz (by decide) (by decide) rfl | exact zOK_T hz (by decide) (by decide) rfl | (refine ix (zOK_l hz (by decide) (by decide) rfl) ?_; omega) | decide | omega) only [eX6_missOf_0, eX6_missOf_1, eX6_missOf_2, eX6_missOf_3, eX6_missOf_5, eX6_missOf_6, eX6_missOf_9, eX6_missOf_12, eX6_missOf_13, eX6_missOf_14, eX6_missOf_15, eX6_missOf_18, eX6_missOf_19, eX6_missOf_20, eX6_missOf_21, eX6_missOf_24, eX6_missOf_25, eX6_missOf_26, eX6_missOf_29, eX6_missOf_30, eX6_missOf_31, eX6_missOf_34, eX6_missOf_37, eX6_missOf_38, Nat.reduceLT, Nat.reduceLeDiff, Nat.reduceEqDiff, Nat.reduceAdd, Nat.reduceMul, Int.reduceLE, Int.reduceLT, Int.reduceEq, not_false_iff, nlr, Nat.zero_add, Nat.add_zero, e10f, e01f, eq_self, true_and, and_true, false_and, and_false, and_self, decide_true, decide_false, mm_bd_i, mm_bd_v, if_true, if_false, not_true_eq_false, not_false_eq_true, nI_1, Bool.true_eq_false, Bool.false_eq_true, bI_0, n_le0, n_0lt, n_lt0, n_0le, n_eq0, n_eqm, n_eq1, n_le1, n_1lt, n_1le, n_lt1, nn_le, nI_ltI, nI_eq, nI_clamp, nI_add, pk_mul, i_eq0, i_eqm, i_0le, i_le0, i_0lt, i_lt0, i_mle, i_ltm, ii_le, iI_lt, iI_eq, ni_le, ni_lt, ni_eq, in_le, in_lt, in_eq, ni_add, in_add, ni_sub, in_sub, ni_mul, in_mul, iI_add, iI_sub, iI_mul, i_p1, iI_neg, n_neg]
  rfl
theorem cR_loose (d : Nat) (z : mm_Z) (F : Nat → Nat → Value) (I : Nat → Nat → Int32) (L : Nat → Nat → Int64) (m : Nat) (ja jb : Nat → Nat) (jv : Nat → Int) (jw : Nat → Nat) (c : Nat) (ro : Nat → Nat) (rb : Nat → Bool) (hz : zOK z) (ok : okJ m ja jb jv jw) (h : cJ0 m ja jb jv jw F I) (okr : okR m c ro) (hr : cRw c ro rb F I) : mm_E (d + 1) mX6_looseTogether 0 [.ref 113, .ref 80, uu, uu] [] (z, F, I, L) = some (some (.int (nI (lsN jw c ro rb))), (z, F, I, L)) := by
  have oc := okr.1
  obtain ⟨r0, r1, r2, r3⟩ := hr
  have l : ∀ i, i ≤ c → mm_E (d + 1) mX6_looseTogether 4 [.ref 113, .ref 80, .int (nI (sumT (fun k => 51 - jw (ro k)) i)), .int (nI i)] [] (z, F, I, L) = some (some (.int (nI (lsN jw c ro rb))), (z, F, I, L)) := by
    apply lp
    · rw [eX6_looseTogether_4]
      simp (disch := first | assumption | exact bI_or _ | exact zOK_O hz (by decide) (by decide) rfl | exact zOK_T hz (by decide) (by decide) rfl | (refine ix (zOK_l hz (by decide) (by decide) rfl) ?_; omega) | decide | omega) only [eX6_looseTogether_0, eX6_looseTogether_1, eX6_looseTogether_2, eX6_looseTogether_3, eX6_looseTogether_5, eX6_looseTogether_6, eX6_looseTogether_9, eX6_looseTogether_12, eX6_looseTogether_13, eX6_looseTogether_14, eX6_looseTogether_15, eX6_looseTogether_18, eX6_looseTogether_19, eX6_looseTogether_20, eX6_looseTogether_23, eX6_looseTogether_24, eX6_looseTogether_25, eX6_looseTogether_28, eX6_looseTogether_31, eX6_looseTogether_32, Nat.reduceLT, Nat.reduceLeDiff, Nat.reduceEqDiff, Nat.reduceAdd, Nat.reduceMul, Int.reduceLE, Int.reduceLT, Int.reduceEq, not_false_iff, nlr, Nat.zero_add, Nat.add_zero, e10f, e01f, eq_self, true_and, and_true, false_and, and_false, and_self, decide_true, decide_false, mm_bd_i, mm_bd_v, if_true, if_false, not_true_eq_false, not_false_eq_true, nI_1, Bool.true_eq_false, Bool.false_eq_true, bI_0, n_le0, n_0lt, n_lt0, n_0le, n_eq0, n_eqm, n_eq1, n_le1, n_1lt, n_1le, n_lt1, nn_le, nI_ltI, nI_eq, nI_clamp, nI_add, pk_mul, i_eq0, i_eqm, i_0le, i_le0, i_0lt, i_lt0, i_mle, i_ltm, ii_le, iI_lt, iI_eq, ni_le, ni_lt, ni_eq, in_le, in_lt, in_eq, ni_add, in_add, ni_sub, in_sub, ni_mul, in_mul, iI_add, iI_sub, iI_mul, i_p1, iI_neg, n_neg, r2]
      rfl
    · intro i hi ih
      have q := r3 i hi
      have te := fun d' => cJ_looseOf d' z F I L m ja jb jv jw hz ok h (ro i) (okr.2 i hi)
      rw [← ih, eX6_looseTogether_4, sumT]
      simp (disch := first | assumption | exact bI_or _ | exact zOK_O hz (by decide) (by decide) rfl | exact zOK_T hz (by decide) (by decide) rfl | (refine ix (zOK_l hz (by decide) (by decide) rfl) ?_; omega) | decide | omega) only [eX6_looseTogether_0, eX6_looseTogether_1, eX6_looseTogether_2, eX6_looseTogether_3, eX6_looseTogether_5, eX6_looseTogether_6, eX6_looseTogether_9, eX6_looseTogether_12, eX6_looseTogether_13, eX6_looseTogether_14, eX6_looseTogether_15, eX6_looseTogether_18, eX6_looseTogether_19, eX6_looseTogether_20, eX6_looseTogether_23, eX6_looseTogether_24, eX6_looseTogether_25, eX6_looseTogether_28, eX6_looseTogether_31, eX6_looseTogether_32, Nat.reduceLT, Nat.reduceLeDiff, Nat.reduceEqDiff, Nat.reduceAdd, Nat.reduceMul, Int.reduceLE, Int.reduceLT, Int.reduceEq, not_false_iff, nlr, Nat.zero_add, Nat.add_zero, e10f, e01f, eq_self, true_and, and_true, false_and, and_false, and_self, decide_true, decide_false, mm_bd_i, mm_bd_v, if_true, if_false, not_true_eq_false, not_false_eq_true, nI_1, Bool.true_eq_false, Bool.false_eq_true, bI_0, n_le0, n_0lt, n_lt0, n_0le, n_eq0, n_eqm, n_eq1, n_le1, n_1lt, n_1le, n_lt1, nn_le, nI_ltI, nI_eq, nI_clamp, nI_add, pk_mul, i_eq0, i_eqm, i_0le, i_le0, i_0lt, i_lt0, i_mle, i_ltm, ii_le, iI_lt, iI_eq, ni_le, ni_lt, ni_eq, in_le, in_lt, in_eq, ni_add, in_add, ni_sub, in_sub, ni_mul, in_mul, iI_add, iI_sub, iI_mul, i_p1, iI_neg, n_neg, r0, r1, r2, hi, q.1, q.2, te]
  rw [← l 0 (by omega)]
  simp (disch := first | assumption | exact bI_or _ | exact zOK_O hz (by decide) (by decide) rfl | exact zOK_T hz (by decide) (by decide) rfl | (refine ix (zOK_l hz (by decide) (by decide) rfl) ?_; omega) | decide | omega) only [eX6_looseTogether_0, eX6_looseTogether_1, eX6_looseTogether_2, eX6_looseTogether_3, eX6_looseTogether_5, eX6_looseTogether_6, eX6_looseTogether_9, eX6_looseTogether_12, eX6_looseTogether_13, eX6_looseTogether_14, eX6_looseTogether_15, eX6_looseTogether_18, eX6_looseTogether_19, eX6_looseTogether_20, eX6_looseTogether_23, eX6_looseTogether_24, eX6_looseTogether_25, eX6_looseTogether_28, eX6_looseTogether_31, eX6_looseTogether_32, Nat.reduceLT, Nat.reduceLeDiff, Nat.reduceEqDiff, Nat.reduceAdd, Nat.reduceMul, Int.reduceLE, Int.reduceLT, Int.reduceEq, not_false_iff, nlr, Nat.zero_add, Nat.add_zero, e10f, e01f, eq_self, true_and, and_true, false_and, and_false, and_self, decide_true, decide_false, mm_bd_i, mm_bd_v, if_true, if_false, not_true_eq_false, not_false_eq_true, nI_1, Bool.true_eq_false, Bool.false_eq_true, bI_0, n_le0, n_0lt, n_lt0, n_0le, n_eq0, n_eqm, n_eq1, n_le1, n_1lt, n_1le, n_lt1, nn_le, nI_ltI, nI_eq, nI_clamp, nI_add, pk_mul, i_eq0, i_eqm, i_0le, i_le0, i_0lt, i_lt0, i_mle, i_ltm, ii_le, iI_lt, iI_eq, ni_le, ni_lt, ni_eq, in_le, in_lt, in_eq, ni_add, in_add, ni_sub, in_sub, ni_mul, in_mul, iI_add, iI_sub, iI_mul, i_p1, iI_neg, n_neg]
  rfl
/-- what the i-th tells then, above -/
def upI (jv : Nat → Int) (jw : Nat → Nat) (c : Nat) (ro : Nat → Nat) (rb : Nat → Bool) (i : Nat) : Int := jtl jv (ro i) (rb i) * lsN jw c ro rb - msI jv c ro rb * (51 - jw (ro i) : Nat)
def spV (jv : Nat → Int) (jw : Nat → Nat) (c : Nat) (ro : Nat → Nat) (rb : Nat → Bool) (i part : Nat) : Int32 := (if part = 0 then iI (upI jv jw c ro rb i) else nI (lsN jw c ro rb)) / nI (Int.gcd (upI jv jw c ro rb i) (lsN jw c ro rb))
theorem up_b (m : Nat) (ja jb : Nat → Nat) (jv : Nat → Int) (jw : Nat → Nat) (c : Nat) (ro : Nat → Nat) (rb : Nat → Bool) (ok : okJ m ja jb jv jw) (okr : okR m c ro) (i : Nat) (hi : i < c) : -1000000 < upI jv jw c ro rb i ∧ upI jv jw c ro rb i < 1000000 := by
  have a := ms_b m ja jb jv jw c ro rb ok okr
  have b := ls_b m ja jb jv jw c ro rb ok okr
  have o := ok.2 _ (okr.2 i hi)
  have e1 : -((99 * 400 : Nat) : Int) ≤ jtl jv (ro i) (rb i) * lsN jw c ro rb ∧ jtl jv (ro i) (rb i) * lsN jw c ro rb ≤ (99 * 400 : Nat) := by
    have : (jtl jv (ro i) (rb i) * lsN jw c ro rb).natAbs ≤ 99 * 400 := by
      rw [Int.natAbs_mul]
      exact Nat.mul_le_mul (by unfold jtl; split <;> omega) (by omega)
    omega
  have e2 : -((800 * 50 : Nat) : Int) ≤ msI jv c ro rb * (51 - jw (ro i) : Nat) ∧ msI jv c ro rb * (51 - jw (ro i) : Nat) ≤ (800 * 50 : Nat) := by
    have : (msI jv c ro rb * (51 - jw (ro i) : Nat)).natAbs ≤ 800 * 50 := by
      rw [Int.natAbs_mul]
      exact Nat.mul_le_mul (by omega) (by omega)
    omega
  unfold upI
  omega
theorem gcd_pos' (m : Nat) (ja jb : Nat → Nat) (jv : Nat → Int) (jw : Nat → Nat) (c : Nat) (ro : Nat → Nat) (rb : Nat → Bool) (ok : okJ m ja jb jv jw) (okr : okR m c ro) (i : Nat) (hi : i < c) : 0 < Int.gcd (upI jv jw c ro rb i) (lsN jw c ro rb) ∧ Int.gcd (upI jv jw c ro rb i) (lsN jw c ro rb) ≤ 400 := by
  have b := ls_b m ja jb jv jw c ro rb ok okr
  have : ¬ ((lsN jw c ro rb : Nat) : Int) = 0 := by omega
  refine ⟨Int.gcd_pos_of_ne_zero_right _ this, ?_⟩
  have h := Nat.gcd_le_right (upI jv jw c ro rb i).natAbs (by omega : 0 < ((lsN jw c ro rb : Nat) : Int).natAbs)
  have e : Int.gcd (upI jv jw c ro rb i) (lsN jw c ro rb) = Nat.gcd (upI jv jw c ro rb i).natAbs ((lsN jw c ro rb : Nat) : Int).natAbs := rfl
  omega
theorem cR_part (d : Nat) (z : mm_Z) (F : Nat → Nat → Value) (I : Nat → Nat → Int32) (L : Nat → Nat → Int64) (m : Nat) (ja jb : Nat → Nat) (jv : Nat → Int) (jw : Nat → Nat) (c : Nat) (ro : Nat → Nat) (rb : Nat → Bool) (hz : zOK z) (ok : okJ m ja jb jv jw) (h : cJ0 m ja jb jv jw F I) (okr : okR m c ro) (hr : cRw c ro rb F I) (i part : Nat) (hi : i < c) (hp : part < 2) : mm_E (d + 2) mX6_spreadPart 0 [.ref 113, .ref 80, .int (nI i), .int (bI (decide (part = 0))), uu, uu, uu] [] (z, F, I, L) = some (some (.int (spV jv jw c ro rb i part)), (z, F, I, L)) := by
  have oc := okr.1
  have lo := fun d' => cR_loose d' z F I L m ja jb jv jw c ro rb hz ok h okr hr
  have mi := fun d' => cR_miss d' z F I L m ja jb jv jw c ro rb hz ok h okr hr
  have te := fun d' => cJ_tellsOf d' z F I L m ja jb jv jw hz ok h (ro i) (okr.2 i hi) (rb i)
  have ls := fun d' => cJ_looseOf d' z F I L m ja jb jv jw hz ok h (ro i) (okr.2 i hi)
  have ub := up_b m ja jb jv jw c ro rb ok okr i hi
  have lb := ls_b m ja jb jv jw c ro rb ok okr
  have gb := gcd_pos' m ja jb jv jw c ro rb ok okr i hi
  have gd := fun d' => cX_gd d' z F I L (upI jv jw c ro rb i) (lsN jw c ro rb) ub.1 ub.2 (by omega) (by omega)
  rw [← nI_iI] at gd
  obtain ⟨r0, r1, r2, r3⟩ := hr
  have q := r3 i hi
  have ue : iI (jtl jv (ro i) (rb i)) * nI (lsN jw c ro rb) - iI (msI jv c ro rb) * nI (51 - jw (ro i)) = iI (upI jv jw c ro rb i) := by rw [in_mul, in_mul, iI_sub]; rfl
  have g0 : ¬ nI (Int.gcd (upI jv jw c ro rb i) (lsN jw c ro rb)) = 0 := nI_ne0 (by omega) (by omega)
  unfold spV
  by_cases e : part = 0
  · simp (disch := first | assumption | exact bI_or _ | exact zOK_O hz (by decide) (by decide) rfl | exact zOK_T hz (by decide) (by decide) rfl | (refine ix (zOK_l hz (by decide) (by decide) rfl) ?_; omega) | decide | omega) only [eX6_spreadPart_0, eX6_spreadPart_1, eX6_spreadPart_2, eX6_spreadPart_5, eX6_spreadPart_7, eX6_spreadPart_8, eX6_spreadPart_9, eX6_spreadPart_12, eX6_spreadPart_13, eX6_spreadPart_14, eX6_spreadPart_15, eX6_spreadPart_18, eX6_spreadPart_19, eX6_spreadPart_20, eX6_spreadPart_23, eX6_spreadPart_25, eX6_spreadPart_26, eX6_spreadPart_27, eX6_spreadPart_28, eX6_spreadPart_31, eX6_spreadPart_32, eX6_spreadPart_33, eX6_spreadPart_36, eX6_spreadPart_37, eX6_spreadPart_38, eX6_spreadPart_41, eX6_spreadPart_42, eX6_spreadPart_43, eX6_spreadPart_45, eX6_spreadPart_47, eX6_spreadPart_49, eX6_spreadPart_52, eX6_spreadPart_54, eX6_spreadPart_56, eX6_spreadPart_59, eX6_spreadPart_61, eX6_spreadPart_62, eX6_spreadPart_63, eX6_spreadPart_66, eX6_spreadPart_68, eX6_spreadPart_71, eX6_spreadPart_73, eX6_spreadPart_75, eX6_spreadPart_76, mm_bd_i, lo, mi, te, ls, r0, r1, q.1, q.2, nI_clamp, ue, gd, g0, e, decide_true, bI_t, e10f, if_true, if_false, not_false_eq_true]
  · simp (disch := first | assumption | exact bI_or _ | exact zOK_O hz (by decide) (by decide) rfl | exact zOK_T hz (by decide) (by decide) rfl | (refine ix (zOK_l hz (by decide) (by decide) rfl) ?_; omega) | decide | omega) only [eX6_spreadPart_0, eX6_spreadPart_1, eX6_spreadPart_2, eX6_spreadPart_5, eX6_spreadPart_7, eX6_spreadPart_8, eX6_spreadPart_9, eX6_spreadPart_12, eX6_spreadPart_13, eX6_spreadPart_14, eX6_spreadPart_15, eX6_spreadPart_18, eX6_spreadPart_19, eX6_spreadPart_20, eX6_spreadPart_23, eX6_spreadPart_25, eX6_spreadPart_26, eX6_spreadPart_27, eX6_spreadPart_28, eX6_spreadPart_31, eX6_spreadPart_32, eX6_spreadPart_33, eX6_spreadPart_36, eX6_spreadPart_37, eX6_spreadPart_38, eX6_spreadPart_41, eX6_spreadPart_42, eX6_spreadPart_43, eX6_spreadPart_45, eX6_spreadPart_47, eX6_spreadPart_49, eX6_spreadPart_52, eX6_spreadPart_54, eX6_spreadPart_56, eX6_spreadPart_59, eX6_spreadPart_61, eX6_spreadPart_62, eX6_spreadPart_63, eX6_spreadPart_66, eX6_spreadPart_68, eX6_spreadPart_71, eX6_spreadPart_73, eX6_spreadPart_75, eX6_spreadPart_76, mm_bd_i, lo, mi, te, ls, r0, r1, q.1, q.2, nI_clamp, ue, gd, g0, e, decide_false, bI_f, eq_self, if_true, if_false, not_false_eq_true]
