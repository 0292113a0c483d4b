/-! the class: bits, steps, beams -/
theorem cJ_maxn (d : Nat) (z : mm_Z) (F : Nat → Nat → Value) (I : Nat → Nat → Int32) (L : Nat → Nat → Int64) (a b : Nat) (h1 : a < 2 ^ 31) (h2 : b < 2 ^ 31) : mm_E d mJ9_max_7cf53 0 [.int (nI a), .int (nI b)] [] (z, F, I, L) = some (some (.int (nI (max a b))), (z, F, I, L)) := by
  by_cases h : a < b
  · rw [show max a b = b by omega]
    simp (disch := first | assumption | exact bI_or _ | exact zOK_O hz (by decide) (by decide) rfl | exact zOK_T hz (by decide) (by decide) rfl | (refine ix (zOK_l hz (by decide) (by decide) rfl) ?_; omega) | decide | omega) only [eJ9_max_7cf53_0, eJ9_max_7cf53_1, eJ9_max_7cf53_2, eJ9_max_7cf53_5, eJ9_max_7cf53_6, eJ9_max_7cf53_9, eJ9_max_7cf53_10, Nat.reduceLT, Nat.reduceLeDiff, Nat.reduceEqDiff, Nat.reduceAdd, Nat.reduceMul, Int.reduceLE, Int.reduceLT, Int.reduceEq, not_false_iff, nlr, Nat.zero_add, Nat.add_zero, e10f, e01f, eq_self, true_and, and_true, false_and, and_false, and_self, decide_true, decide_false, mm_bd_i, mm_bd_v, if_true, if_false, not_true_eq_false, not_false_eq_true, nI_1, Bool.true_eq_false, Bool.false_eq_true, bI_0, n_le0, n_0lt, n_lt0, n_0le, n_eq0, n_eqm, n_eq1, n_le1, n_1lt, n_1le, n_lt1, nn_le, nI_ltI, nI_eq, nI_clamp, nI_add, pk_mul, i_eq0, i_eqm, i_0le, i_le0, i_0lt, i_lt0, i_mle, i_ltm, ii_le, iI_lt, iI_eq, ni_le, ni_lt, ni_eq, in_le, in_lt, in_eq, ni_add, in_add, ni_sub, in_sub, ni_mul, in_mul, iI_add, iI_sub, iI_mul, i_p1, iI_neg, n_neg, h]
  · rw [show max a b = a by omega]
    simp (disch := first | assumption | exact bI_or _ | exact zOK_O hz (by decide) (by decide) rfl | exact zOK_T hz (by decide) (by decide) rfl | (refine ix (zOK_l hz (by decide) (by decide) rfl) ?_; omega) | decide | omega) only [eJ9_max_7cf53_0, eJ9_max_7cf53_1, eJ9_max_7cf53_2, eJ9_max_7cf53_5, eJ9_max_7cf53_6, eJ9_max_7cf53_9, eJ9_max_7cf53_10, Nat.reduceLT, Nat.reduceLeDiff, Nat.reduceEqDiff, Nat.reduceAdd, Nat.reduceMul, Int.reduceLE, Int.reduceLT, Int.reduceEq, not_false_iff, nlr, Nat.zero_add, Nat.add_zero, e10f, e01f, eq_self, true_and, and_true, false_and, and_false, and_self, decide_true, decide_false, mm_bd_i, mm_bd_v, if_true, if_false, not_true_eq_false, not_false_eq_true, nI_1, Bool.true_eq_false, Bool.false_eq_true, bI_0, n_le0, n_0lt, n_lt0, n_0le, n_eq0, n_eqm, n_eq1, n_le1, n_1lt, n_1le, n_lt1, nn_le, nI_ltI, nI_eq, nI_clamp, nI_add, pk_mul, i_eq0, i_eqm, i_0le, i_le0, i_0lt, i_lt0, i_mle, i_ltm, ii_le, iI_lt, iI_eq, ni_le, ni_lt, ni_eq, in_le, in_lt, in_eq, ni_add, in_add, ni_sub, in_sub, ni_mul, in_mul, iI_add, iI_sub, iI_mul, i_p1, iI_neg, n_neg, h]
theorem cJ_minn (d : Nat) (z : mm_Z) (F : Nat → Nat → Value) (I : Nat → Nat → Int32) (L : Nat → Nat → Int64) (a b : Nat) (h1 : a < 2 ^ 31) (h2 : b < 2 ^ 31) : mm_E d mJ9_min_7cf53 0 [.int (nI a), .int (nI b)] [] (z, F, I, L) = some (some (.int (nI (min a b))), (z, F, I, L)) := by
  by_cases h : b < a
  · rw [show min a b = b by omega]
    simp (disch := first | assumption | exact bI_or _ | exact zOK_O hz (by decide) (by decide) rfl | exact zOK_T hz (by decide) (by decide) rfl | (refine ix (zOK_l hz (by decide) (by decide) rfl) ?_; omega) | decide | omega) only [eJ9_min_7cf53_0, eJ9_min_7cf53_1, eJ9_min_7cf53_2, eJ9_min_7cf53_5, eJ9_min_7cf53_6, eJ9_min_7cf53_9, eJ9_min_7cf53_10, Nat.reduceLT, Nat.reduceLeDiff, Nat.reduceEqDiff, Nat.reduceAdd, Nat.reduceMul, Int.reduceLE, Int.reduceLT, Int.reduceEq, not_false_iff, nlr, Nat.zero_add, Nat.add_zero, e10f, e01f, eq_self, true_and, and_true, false_and, and_false, and_self, decide_true, decide_false, mm_bd_i, mm_bd_v, if_true, if_false, not_true_eq_false, not_false_eq_true, nI_1, Bool.true_eq_false, Bool.false_eq_true, bI_0, n_le0, n_0lt, n_lt0, n_0le, n_eq0, n_eqm, n_eq1, n_le1, n_1lt, n_1le, n_lt1, nn_le, nI_ltI, nI_eq, nI_clamp, nI_add, pk_mul, i_eq0, i_eqm, i_0le, i_le0, i_0lt, i_lt0, i_mle, i_ltm, ii_le, iI_lt, iI_eq, ni_le, ni_lt, ni_eq, in_le, in_lt, in_eq, ni_add, in_add, ni_sub, in_sub, ni_mul, in_mul, iI_add, iI_sub, iI_mul, i_p1, iI_neg, n_neg, h]
  · rw [show min a b = a by omega]
    simp (disch := first | assumption | exact bI_or _ | exact zOK_O hz (by decide) (by decide) rfl | exact zOK_T hz (by decide) (by decide) rfl | (refine ix (zOK_l hz (by decide) (by decide) rfl) ?_; omega) | decide | omega) only [eJ9_min_7cf53_0, eJ9_min_7cf53_1, eJ9_min_7cf53_2, eJ9_min_7cf53_5, eJ9_min_7cf53_6, eJ9_min_7cf53_9, eJ9_min_7cf53_10, Nat.reduceLT, Nat.reduceLeDiff, Nat.reduceEqDiff, Nat.reduceAdd, Nat.reduceMul, Int.reduceLE, Int.reduceLT, Int.reduceEq, not_false_iff, nlr, Nat.zero_add, Nat.add_zero, e10f, e01f, eq_self, true_and, and_true, false_and, and_false, and_self, decide_true, decide_false, mm_bd_i, mm_bd_v, if_true, if_false, not_true_eq_false, not_false_eq_true, nI_1, Bool.true_eq_false, Bool.false_eq_true, bI_0, n_le0, n_0lt, n_lt0, n_0le, n_eq0, n_eqm, n_eq1, n_le1, n_1lt, n_1le, n_lt1, nn_le, nI_ltI, nI_eq, nI_clamp, nI_add, pk_mul, i_eq0, i_eqm, i_0le, i_le0, i_0lt, i_lt0, i_mle, i_ltm, ii_le, iI_lt, iI_eq, ni_le, ni_lt, ni_eq, in_le, in_lt, in_eq, ni_add, in_add, ni_sub, in_sub, ni_mul, in_mul, iI_add, iI_sub, iI_mul, i_p1, iI_neg, n_neg, h]
def b1 (n : Nat) : Int64 := (1 : Int64) <<< ((nI n).toInt64 &&& 63)
theorem lb_b1 {n : Nat} (h : n < 64) (i : Nat) : lb (b1 n) i = decide (i = n) := lb_one n h i
theorem cX_bitOf (d : Nat) (z : mm_Z) (F : Nat → Nat → Value) (I : Nat → Nat → Int32) (L : Nat → Nat → Int64) (X Y : Int) (hX : 0 ≤ X ∧ X ≤ 7) (hY : 0 ≤ Y ∧ Y ≤ 7) : mm_E d mX10_bitOf 0 [.int (iI X), .int (iI Y)] [] (z, F, I, L) = some (some (.long (b1 (8 * Y + X).toNat)), (z, F, I, L)) := by
  have e : iI ((8 : Nat) * Y + X) = nI (8 * Y + X).toNat := by rw [nI_iI]; congr 1; omega
  simp (disch := first | assumption | exact bI_or _ | exact zOK_O hz (by decide) (by decide) rfl | exact zOK_T hz (by decide) (by decide) rfl | (refine ix (zOK_l hz (by decide) (by decide) rfl) ?_; omega) | decide | omega) only [eX10_bitOf_0, eX10_bitOf_1, eX10_bitOf_3, eX10_bitOf_4, eX10_bitOf_5, eX10_bitOf_6, eX10_bitOf_7, eX10_bitOf_8, Nat.reduceLT, Nat.reduceLeDiff, Nat.reduceEqDiff, Nat.reduceAdd, Nat.reduceMul, Int.reduceLE, Int.reduceLT, Int.reduceEq, not_false_iff, nlr, Nat.zero_add, Nat.add_zero, e10f, e01f, eq_self, true_and, and_true, false_and, and_false, and_self, decide_true, decide_false, mm_bd_i, mm_bd_v, if_true, if_false, not_true_eq_false, not_false_eq_true, nI_1, Bool.true_eq_false, Bool.false_eq_true, bI_0, n_le0, n_0lt, n_lt0, n_0le, n_eq0, n_eqm, n_eq1, n_le1, n_1lt, n_1le, n_lt1, nn_le, nI_ltI, nI_eq, nI_clamp, nI_add, pk_mul, i_eq0, i_eqm, i_0le, i_le0, i_0lt, i_lt0, i_mle, i_ltm, ii_le, iI_lt, iI_eq, ni_le, ni_lt, ni_eq, in_le, in_lt, in_eq, ni_add, in_add, ni_sub, in_sub, ni_mul, in_mul, iI_add, iI_sub, iI_mul, i_p1, iI_neg, n_neg, e]
  rfl
theorem lb_has2 (n : Nat) (hn : n < 64) (x : Int64) : ((x.toUInt64 >>> ((nI n).toInt64.toUInt64 &&& Int64.toUInt64 63)).toInt64 &&& 1) = if lb x n then 1 else 0 := by
  apply lb_ext
  intro i hi
  rw [lb_and, lb_ushr n hn, lb_1]
  by_cases h : i = 0
  · subst h
    simp only [Nat.add_zero, decide_true, Bool.and_true]
    cases lb x n
    · simp [lb_0]
    · simp [lb_1]
  · cases lb x n
    · simp [lb_0, h]
    · simp [lb_1, h]
theorem cX_has (d : Nat) (z : mm_Z) (F : Nat → Nat → Value) (I : Nat → Nat → Int32) (L : Nat → Nat → Int64) (x : Int64) (w : Value) (n : Nat) (hn : n < 64) : mm_E d mX10_has 0 [.long x, w, .int (nI n)] [] (z, F, I, L) = some (some (.int (bI (lb x n))), (z, F, I, L)) := by
  have e := lb_has2 n hn x
  cases h : lb x n with
  | true =>
    rw [h] at e
    have e2 : ¬ (1 : Int64) = 0 := by decide
    simp (disch := first | assumption | exact bI_or _ | exact zOK_O hz (by decide) (by decide) rfl | exact zOK_T hz (by decide) (by decide) rfl | (refine ix (zOK_l hz (by decide) (by decide) rfl) ?_; omega) | decide | omega) only [eX10_has_0, eX10_has_1, eX10_has_2, eX10_has_3, eX10_has_4, eX10_has_5, eX10_has_6, eX10_has_7, eX10_has_10, eX10_has_11, eX10_has_14, eX10_has_15, Nat.reduceLT, Nat.reduceLeDiff, Nat.reduceEqDiff, Nat.reduceAdd, Nat.reduceMul, Int.reduceLE, Int.reduceLT, Int.reduceEq, not_false_iff, nlr, Nat.zero_add, Nat.add_zero, e10f, e01f, eq_self, true_and, and_true, false_and, and_false, and_self, decide_true, decide_false, mm_bd_i, mm_bd_v, if_true, if_false, not_true_eq_false, not_false_eq_true, nI_1, Bool.true_eq_false, Bool.false_eq_true, bI_0, n_le0, n_0lt, n_lt0, n_0le, n_eq0, n_eqm, n_eq1, n_le1, n_1lt, n_1le, n_lt1, nn_le, nI_ltI, nI_eq, nI_clamp, nI_add, pk_mul, i_eq0, i_eqm, i_0le, i_le0, i_0lt, i_lt0, i_mle, i_ltm, ii_le, iI_lt, iI_eq, ni_le, ni_lt, ni_eq, in_le, in_lt, in_eq, ni_add, in_add, ni_sub, in_sub, ni_mul, in_mul, iI_add, iI_sub, iI_mul, i_p1, iI_neg, n_neg, e, lg_cmp_eq, e2, bI_t]
  | false =>
    rw [h] at e
    simp (disch := first | assumption | exact bI_or _ | exact zOK_O hz (by decide) (by decide) rfl | exact zOK_T hz (by decide) (by decide) rfl | (refine ix (zOK_l hz (by decide) (by decide) rfl) ?_; omega) | decide | omega) only [eX10_has_0, eX10_has_1, eX10_has_2, eX10_has_3, eX10_has_4, eX10_has_5, eX10_has_6, eX10_has_7, eX10_has_10, eX10_has_11, eX10_has_14, eX10_has_15, Nat.reduceLT, Nat.reduceLeDiff, Nat.reduceEqDiff, Nat.reduceAdd, Nat.reduceMul, Int.reduceLE, Int.reduceLT, Int.reduceEq, not_false_iff, nlr, Nat.zero_add, Nat.add_zero, e10f, e01f, eq_self, true_and, and_true, false_and, and_false, and_self, decide_true, decide_false, mm_bd_i, mm_bd_v, if_true, if_false, not_true_eq_false, not_false_eq_true, nI_1, Bool.true_eq_false, Bool.false_eq_true, bI_0, n_le0, n_0lt, n_lt0, n_0le, n_eq0, n_eqm, n_eq1, n_le1, n_1lt, n_1le, n_lt1, nn_le, nI_ltI, nI_eq, nI_clamp, nI_add, pk_mul, i_eq0, i_eqm, i_0le, i_le0, i_0lt, i_lt0, i_mle, i_ltm, ii_le, iI_lt, iI_eq, ni_le, ni_lt, ni_eq, in_le, in_lt, in_eq, ni_add, in_add, ni_sub, in_sub, ni_mul, in_mul, iI_add, iI_sub, iI_mul, i_p1, iI_neg, n_neg, e, lg_cmp_eq, bI_f]
/-- the greatest step from s downward -/
def stF (x y : Int) : Nat → Nat
  | 0 => 1
  | s + 1 => if s = 0 then 1 else if x.tmod ((s + 1 : Nat) : Int) = 0 ∧ y.tmod ((s + 1 : Nat) : Int) = 0 then s + 1 else stF x y s
theorem stF_gcd : ∀ a : Nat, a < 15 → ∀ b : Nat, b < 15 → ¬ ((a : Int) - 7 = 0 ∧ (b : Int) - 7 = 0) → stF ((a : Int) - 7) ((b : Int) - 7) (min (max ((a : Int) - 7).natAbs ((b : Int) - 7).natAbs) 7) = Int.gcd ((a : Int) - 7) ((b : Int) - 7) := by decide +kernel
theorem stF_eq {x y : Int} (hx : -7 ≤ x ∧ x ≤ 7) (hy : -7 ≤ y ∧ y ≤ 7) (h0 : ¬ (x = 0 ∧ y = 0)) : stF x y (min (max x.natAbs y.natAbs) 7) = Int.gcd x y := by
  have h := stF_gcd (x + 7).toNat (by omega) (y + 7).toNat (by omega)
  have e1 : (((x + 7).toNat : Nat) : Int) - 7 = x := by omega
  have e2 : (((y + 7).toNat : Nat) : Int) - 7 = y := by omega
  rw [e1, e2] at h
  exact h h0
theorem in_rem {a : Int} {b : Nat} (ha : -2147483648 < a) (ha' : a < 2147483648) (hb' : b < 2147483648) : iI a - iI a / nI b * nI b = iI (a.tmod (b : Int)) := by rw [nI_iI, iI_rem ha ha' (by omega) (by omega)]
theorem in_div {a : Int} {b : Nat} (ha : -2147483648 < a) (ha' : a < 2147483648) (hb' : b < 2147483648) : iI a / nI b = iI (a.tdiv (b : Int)) := by rw [nI_iI, iI_div ha ha' (by omega) (by omega)]
theorem tmod_b (a : Int) (b : Nat) : -2147483648 < a → a < 2147483648 → -2147483648 ≤ a.tmod b ∧ a.tmod b < 2147483648 := by
  intro h1 h2
  have h : (a.tmod b).natAbs ≤ a.natAbs := by rw [Int.natAbs_tmod]; exact Nat.mod_le _ _
  omega
theorem cX_steps (d : Nat) (z : mm_Z) (F : Nat → Nat → Value) (I : Nat → Nat → Int32) (L : Nat → Nat → Int64) (x y : Int) (hx : -7 ≤ x ∧ x ≤ 7) (hy : -7 ≤ y ∧ y ≤ 7) (h0 : ¬ (x = 0 ∧ y = 0)) : mm_E (d + 1) mX10_stepsOf 0 [.int (iI x), .int (iI y), uu, uu] [] (z, F, I, L) = some (some (.int (nI (Int.gcd x y))), (z, F, I, L)) := by
  have l : ∀ s, s ≤ 7 → ∀ a2 : Value, mm_E (d + 1) mX10_stepsOf 19 [.int (iI x), .int (iI y), a2, .int (nI s)] [] (z, F, I, L) = some (some (.int (nI (stF x y s))), (z, F, I, L)) := by
    intro s
    induction s with
    | zero =>
      intro _ a2
      rw [eX10_stepsOf_19, stF]
      simp (disch := first | assumption | exact bI_or _ | exact zOK_O hz (by decide) (by decide) rfl | exact zOK_T hz (by decide) (by decide) rfl | (refine ix (zOK_l hz (by decide) (by decide) rfl) ?_; omega) | decide | omega) only [eX10_stepsOf_20, eX10_stepsOf_21, eX10_stepsOf_24, eX10_stepsOf_25, eX10_stepsOf_26, eX10_stepsOf_27, eX10_stepsOf_30, eX10_stepsOf_31, eX10_stepsOf_32, eX10_stepsOf_33, eX10_stepsOf_36, eX10_stepsOf_37, eX10_stepsOf_38, eX10_stepsOf_41, eX10_stepsOf_44, eX10_stepsOf_45, Nat.reduceLT, Nat.reduceLeDiff, Nat.reduceEqDiff, Nat.reduceAdd, Nat.reduceMul, Int.reduceLE, Int.reduceLT, Int.reduceEq, not_false_iff, nlr, Nat.zero_add, Nat.add_zero, e10f, e01f, eq_self, true_and, and_true, false_and, and_false, and_self, decide_true, decide_false, mm_bd_i, mm_bd_v, if_true, if_false, not_true_eq_false, not_false_eq_true, nI_1, Bool.true_eq_false, Bool.false_eq_true, bI_0, n_le0, n_0lt, n_lt0, n_0le, n_eq0, n_eqm, n_eq1, n_le1, n_1lt, n_1le, n_lt1, nn_le, nI_ltI, nI_eq, nI_clamp, nI_add, pk_mul, i_eq0, i_eqm, i_0le, i_le0, i_0lt, i_lt0, i_mle, i_ltm, ii_le, iI_lt, iI_eq, ni_le, ni_lt, ni_eq, in_le, in_lt, in_eq, ni_add, in_add, ni_sub, in_sub, ni_mul, in_mul, iI_add, iI_sub, iI_mul, i_p1, iI_neg, n_neg]
      rfl
    | succ s ih =>
      intro hs a2
      rw [eX10_stepsOf_19, stF]
      by_cases c : s = 0
      · subst c
        simp (disch := first | assumption | exact bI_or _ | exact zOK_O hz (by decide) (by decide) rfl | exact zOK_T hz (by decide) (by decide) rfl | (refine ix (zOK_l hz (by decide) (by decide) rfl) ?_; omega) | decide | omega) only [eX10_stepsOf_20, eX10_stepsOf_21, eX10_stepsOf_24, eX10_stepsOf_25, eX10_stepsOf_26, eX10_stepsOf_27, eX10_stepsOf_30, eX10_stepsOf_31, eX10_stepsOf_32, eX10_stepsOf_33, eX10_stepsOf_36, eX10_stepsOf_37, eX10_stepsOf_38, eX10_stepsOf_41, eX10_stepsOf_44, eX10_stepsOf_45, Nat.reduceLT, Nat.reduceLeDiff, Nat.reduceEqDiff, Nat.reduceAdd, Nat.reduceMul, Int.reduceLE, Int.reduceLT, Int.reduceEq, not_false_iff, nlr, Nat.zero_add, Nat.add_zero, e10f, e01f, eq_self, true_and, and_true, false_and, and_false, and_self, decide_true, decide_false, mm_bd_i, mm_bd_v, if_true, if_false, not_true_eq_false, not_false_eq_true, nI_1, Bool.true_eq_false, Bool.false_eq_true, bI_0, n_le0, n_0lt, n_lt0, n_0le, n_eq0, n_eqm, n_eq1, n_le1, n_1lt, n_1le, n_lt1, nn_le, nI_ltI, nI_eq, nI_clamp, nI_add, pk_mul, i_eq0, i_eqm, i_0le, i_le0, i_0lt, i_lt0, i_mle, i_ltm, ii_le, iI_lt, iI_eq, ni_le, ni_lt, ni_eq, in_le, in_lt, in_eq, ni_add, in_add, ni_sub, in_sub, ni_mul, in_mul, iI_add, iI_sub, iI_mul, i_p1, iI_neg, n_neg]
        rfl
      · have c1 : 1 < s + 1 := by omega
        have c2 : ¬ nI (s + 1) = 0 := nI_ne0 (by omega) (by omega)
        have m1 := tmod_b x (s + 1) (by omega) (by omega)
        have m2 := tmod_b y (s + 1) (by omega) (by omega)
        have pm : nI (s + 1) + -1 = nI s := pk_m1 s
        rw [if_neg c]
        by_cases e1 : x.tmod ((s + 1 : Nat) : Int) = 0
        · by_cases e2 : y.tmod ((s + 1 : Nat) : Int) = 0
          · rw [if_pos ⟨e1, e2⟩]
            simp (disch := first | assumption | exact bI_or _ | exact zOK_O hz (by decide) (by decide) rfl | exact zOK_T hz (by decide) (by decide) rfl | (refine ix (zOK_l hz (by decide) (by decide) rfl) ?_; omega) | decide | omega) only [eX10_stepsOf_20, eX10_stepsOf_21, eX10_stepsOf_24, eX10_stepsOf_25, eX10_stepsOf_26, eX10_stepsOf_27, eX10_stepsOf_30, eX10_stepsOf_31, eX10_stepsOf_32, eX10_stepsOf_33, eX10_stepsOf_36, eX10_stepsOf_37, eX10_stepsOf_38, eX10_stepsOf_41, eX10_stepsOf_44, eX10_stepsOf_45, Nat.reduceLT, Nat.reduceLeDiff, Nat.reduceEqDiff, Nat.reduceAdd, Nat.reduceMul, Int.reduceLE, Int.reduceLT, Int.reduceEq, not_false_iff, nlr, Nat.zero_add, Nat.add_zero, e10f, e01f, eq_self, true_and, and_true, false_and, and_false, and_self, decide_true, decide_false, mm_bd_i, mm_bd_v, if_true, if_false, not_true_eq_false, not_false_eq_true, nI_1, Bool.true_eq_false, Bool.false_eq_true, bI_0, n_le0, n_0lt, n_lt0, n_0le, n_eq0, n_eqm, n_eq1, n_le1, n_1lt, n_1le, n_lt1, nn_le, nI_ltI, nI_eq, nI_clamp, nI_add, pk_mul, i_eq0, i_eqm, i_0le, i_le0, i_0lt, i_lt0, i_mle, i_ltm, ii_le, iI_lt, iI_eq, ni_le, ni_lt, ni_eq, in_le, in_lt, in_eq, ni_add, in_add, ni_sub, in_sub, ni_mul, in_mul, iI_add, iI_sub, iI_mul, i_p1, iI_neg, n_neg, c1, in_rem, e1, e2]
          · rw [if_neg (fun q => e2 q.2), ← ih (by omega) a2]
            simp (disch := first | assumption | exact bI_or _ | exact zOK_O hz (by decide) (by decide) rfl | exact zOK_T hz (by decide) (by decide) rfl | (refine ix (zOK_l hz (by decide) (by decide) rfl) ?_; omega) | decide | omega) only [eX10_stepsOf_20, eX10_stepsOf_21, eX10_stepsOf_24, eX10_stepsOf_25, eX10_stepsOf_26, eX10_stepsOf_27, eX10_stepsOf_30, eX10_stepsOf_31, eX10_stepsOf_32, eX10_stepsOf_33, eX10_stepsOf_36, eX10_stepsOf_37, eX10_stepsOf_38, eX10_stepsOf_41, eX10_stepsOf_44, eX10_stepsOf_45, Nat.reduceLT, Nat.reduceLeDiff, Nat.reduceEqDiff, Nat.reduceAdd, Nat.reduceMul, Int.reduceLE, Int.reduceLT, Int.reduceEq, not_false_iff, nlr, Nat.zero_add, Nat.add_zero, e10f, e01f, eq_self, true_and, and_true, false_and, and_false, and_self, decide_true, decide_false, mm_bd_i, mm_bd_v, if_true, if_false, not_true_eq_false, not_false_eq_true, nI_1, Bool.true_eq_false, Bool.false_eq_true, bI_0, n_le0, n_0lt, n_lt0, n_0le, n_eq0, n_eqm, n_eq1, n_le1, n_1lt, n_1le, n_lt1, nn_le, nI_ltI, nI_eq, nI_clamp, nI_add, pk_mul, i_eq0, i_eqm, i_0le, i_le0, i_0lt, i_lt0, i_mle, i_ltm, ii_le, iI_lt, iI_eq, ni_le, ni_lt, ni_eq, in_le, in_lt, in_eq, ni_add, in_add, ni_sub, in_sub, ni_mul, in_mul, iI_add, iI_sub, iI_mul, i_p1, iI_neg, n_neg, c1, in_rem, e1, e2, pm]
        · rw [if_neg (fun q => e1 q.1), ← ih (by omega) a2]
          simp (disch := first | assumption | exact bI_or _ | exact zOK_O hz (by decide) (by decide) rfl | exact zOK_T hz (by decide) (by decide) rfl | (refine ix (zOK_l hz (by decide) (by decide) rfl) ?_; omega) | decide | omega) only [eX10_stepsOf_20, eX10_stepsOf_21, eX10_stepsOf_24, eX10_stepsOf_25, eX10_stepsOf_26, eX10_stepsOf_27, eX10_stepsOf_30, eX10_stepsOf_31, eX10_stepsOf_32, eX10_stepsOf_33, eX10_stepsOf_36, eX10_stepsOf_37, eX10_stepsOf_38, eX10_stepsOf_41, eX10_stepsOf_44, eX10_stepsOf_45, Nat.reduceLT, Nat.reduceLeDiff, Nat.reduceEqDiff, Nat.reduceAdd, Nat.reduceMul, Int.reduceLE, Int.reduceLT, Int.reduceEq, not_false_iff, nlr, Nat.zero_add, Nat.add_zero, e10f, e01f, eq_self, true_and, and_true, false_and, and_false, and_self, decide_true, decide_false, mm_bd_i, mm_bd_v, if_true, if_false, not_true_eq_false, not_false_eq_true, nI_1, Bool.true_eq_false, Bool.false_eq_true, bI_0, n_le0, n_0lt, n_lt0, n_0le, n_eq0, n_eqm, n_eq1, n_le1, n_1lt, n_1le, n_lt1, nn_le, nI_ltI, nI_eq, nI_clamp, nI_add, pk_mul, i_eq0, i_eqm, i_0le, i_le0, i_0lt, i_lt0, i_mle, i_ltm, ii_le, iI_lt, iI_eq, ni_le, ni_lt, ni_eq, in_le, in_lt, in_eq, ni_add, in_add, ni_sub, in_sub, ni_mul, in_mul, iI_add, iI_sub, iI_mul, i_p1, iI_neg, n_neg, c1, in_rem, e1, pm]
  have e := l (min (max x.natAbs y.natAbs) 7) (by omega) (.int (nI (max x.natAbs y.natAbs)))
  rw [stF_eq hx hy h0] at e
  rw [← e]
  simp (disch := first | assumption | exact bI_or _ | exact zOK_O hz (by decide) (by decide) rfl | exact zOK_T hz (by decide) (by decide) rfl | (refine ix (zOK_l hz (by decide) (by decide) rfl) ?_; omega) | decide | omega) only [eX10_stepsOf_0, eX10_stepsOf_1, eX10_stepsOf_4, eX10_stepsOf_5, eX10_stepsOf_8, eX10_stepsOf_11, eX10_stepsOf_12, eX10_stepsOf_13, eX10_stepsOf_15, eX10_stepsOf_18, Nat.reduceLT, Nat.reduceLeDiff, Nat.reduceEqDiff, Nat.reduceAdd, Nat.reduceMul, Int.reduceLE, Int.reduceLT, Int.reduceEq, not_false_iff, nlr, Nat.zero_add, Nat.add_zero, e10f, e01f, eq_self, true_and, and_true, false_and, and_false, and_self, decide_true, decide_false, mm_bd_i, mm_bd_v, if_true, if_false, not_true_eq_false, not_false_eq_true, nI_1, Bool.true_eq_false, Bool.false_eq_true, bI_0, n_le0, n_0lt, n_lt0, n_0le, n_eq0, n_eqm, n_eq1, n_le1, n_1lt, n_1le, n_lt1, nn_le, nI_ltI, nI_eq, nI_clamp, nI_add, pk_mul, i_eq0, i_eqm, i_0le, i_le0, i_0lt, i_lt0, i_mle, i_ltm, ii_le, iI_lt, iI_eq, ni_le, ni_lt, ni_eq, in_le, in_lt, in_eq, ni_add, in_add, ni_sub, in_sub, ni_mul, in_mul, iI_add, iI_sub, iI_mul, i_p1, iI_neg, n_neg, cJ_abs, cJ_maxn, cJ_minn]
/-- the place of a beam's step from o on -/
def bD (o X Y : Int) (g j : Nat) : Int := o + j * X.tdiv g + 8 * (j * Y.tdiv g)
def bRD (o X Y : Int) (g i m a : Nat) : Bool := (List.range' i m).any (fun j => decide ((a : Int) = bD o X Y g j))
theorem bRD_s (o X Y : Int) (g i m a : Nat) : bRD o X Y g i (m + 1) a = (decide ((a : Int) = bD o X Y g i) || bRD o X Y g (i + 1) m a) := by unfold bRD; rw [List.range'_succ, List.any_cons]
theorem cP_beam (d : Nat) (z : mm_Z) (F : Nat → Nat → Value) (I : Nat → Nat → Int32) (L : Nat → Nat → Int64) (r : Nat) (hz : zOK z) (zr : mm_zO z r 5) (lf tp x y : Int) (db : Int64) (h2 : F r 2 = .long db) (h3 : F r 3 = .int (iI lf)) (h5 : F r 5 = .int (iI tp)) (hx : -7 ≤ x ∧ x ≤ 7) (hy : -7 ≤ y ∧ y ≤ 7) (h0 : ¬ (x = 0 ∧ y = 0)) (l1 : -7 ≤ lf ∧ lf ≤ 0 ∧ lf ≤ x ∧ x - lf ≤ 7) (t1 : -7 ≤ tp ∧ tp ≤ 0 ∧ tp ≤ y ∧ y - tp ≤ 7) : ∃ db', mm_E (d + 2) mX5_drawBeam 0 [.ref r, .int (iI x), .int (iI y), uu, uu] [] (z, F, I, L) = some (none, (z, mm_up2 F r 2 (.long db'), I, L)) ∧ ∀ a, a < 64 → lb db' a = (lb db a || bRD (-(lf + 8 * tp)) x y (Int.gcd x y) 0 (Int.gcd x y) a) := by
  have gb : Int.gcd x y < 1000 := gcd_b hx hy
  have gp : 0 < Int.gcd x y := by
    rcases Nat.eq_zero_or_pos (Int.gcd x y) with q | q
    · exact absurd (Int.gcd_eq_zero_iff.mp q) h0
    · exact q
  have g0 : ¬ nI (Int.gcd x y) = 0 := nI_ne0 gp (by omega)
  have st := fun d' => cX_steps d' z F I L x y hx hy h0
  have upup : ∀ (F : Nat → Nat → Value) (v w : Value), mm_up2 (mm_up2 F r 2 v) r 2 w = mm_up2 F r 2 w := by
    intro F v w
    funext p q
    unfold mm_up2
    split <;> simp_all
  have l : ∀ k, k ≤ Int.gcd x y → ∀ db, ∃ db', mm_E (d + 2) mX5_drawBeam 9 [.ref r, .int (iI x), .int (iI y), .int (nI (Int.gcd x y)), .int (nI k)] [] (z, mm_up2 F r 2 (.long db), I, L) = some (none, (z, mm_up2 F r 2 (.long db'), I, L)) ∧ ∀ a, a < 64 → lb db' a = (lb db a || bRD (-(lf + 8 * tp)) x y (Int.gcd x y) k (Int.gcd x y - k) a) := by
    apply lp
    · intro db
      refine ⟨db, ?_, fun a _ => by rw [Nat.sub_self]; unfold bRD; simp⟩
      rw [eX5_drawBeam_9]
      simp (disch := first | assumption | exact bI_or _ | exact zOK_O hz (by decide) (by decide) rfl | exact zOK_T hz (by decide) (by decide) rfl | (refine ix (zOK_l hz (by decide) (by decide) rfl) ?_; omega) | decide | omega) only [eX5_drawBeam_11, eX5_drawBeam_12, eX5_drawBeam_15, eX5_drawBeam_16, eX5_drawBeam_17, eX5_drawBeam_20, eX5_drawBeam_22, eX5_drawBeam_23, eX5_drawBeam_24, eX5_drawBeam_25, eX5_drawBeam_26, eX5_drawBeam_27, eX5_drawBeam_30, eX5_drawBeam_31, eX5_drawBeam_33, eX5_drawBeam_34, eX5_drawBeam_35, eX5_drawBeam_36, eX5_drawBeam_37, eX5_drawBeam_38, eX5_drawBeam_41, eX5_drawBeam_42, eX5_drawBeam_45, eX5_drawBeam_46, eX5_drawBeam_49, eX5_drawBeam_52, eX5_drawBeam_55, Nat.reduceLT, Nat.reduceLeDiff, Nat.reduceEqDiff, Nat.reduceAdd, Nat.reduceMul, Int.reduceLE, Int.reduceLT, Int.reduceEq, not_false_iff, nlr, Nat.zero_add, Nat.add_zero, e10f, e01f, eq_self, true_and, and_true, false_and, and_false, and_self, decide_true, decide_false, mm_bd_i, mm_bd_v, if_true, if_false, not_true_eq_false, not_false_eq_true, nI_1, Bool.true_eq_false, Bool.false_eq_true, bI_0, n_le0, n_0lt, n_lt0, n_0le, n_eq0, n_eqm, n_eq1, n_le1, n_1lt, n_1le, n_lt1, nn_le, nI_ltI, nI_eq, nI_clamp, nI_add, pk_mul, i_eq0, i_eqm, i_0le, i_le0, i_0lt, i_lt0, i_mle, i_ltm, ii_le, iI_lt, iI_eq, ni_le, ni_lt, ni_eq, in_le, in_lt, in_eq, ni_add, in_add, ni_sub, in_sub, ni_mul, in_mul, iI_add, iI_sub, iI_mul, i_p1, iI_neg, n_neg]
    · intro k hk ih db
      have w1 := btw (Nat.le_of_lt hk) (Int.gcd_dvd_left (a := x) (b := y))
      have w2 := btw (Nat.le_of_lt hk) (Int.gcd_dvd_right (a := x) (b := y))
      have X0 : 0 ≤ (k : Int) * x.tdiv (Int.gcd x y) - lf ∧ (k : Int) * x.tdiv (Int.gcd x y) - lf ≤ 7 := by omega
      have Y0 : 0 ≤ (k : Int) * y.tdiv (Int.gcd x y) - tp ∧ (k : Int) * y.tdiv (Int.gcd x y) - tp ≤ 7 := by omega
      have bo := fun d' F' => cX_bitOf d' z F' I L _ _ X0 Y0
      obtain ⟨db', k1, k2⟩ := ih (db ||| b1 (8 * ((k : Int) * y.tdiv (Int.gcd x y) - tp) + ((k : Int) * x.tdiv (Int.gcd x y) - lf)).toNat)
      refine ⟨db', ?_, ?_⟩
      · rw [← k1, eX5_drawBeam_9]
        have h3' : mm_up2 F r 2 (.long db) r 3 = .int (iI lf) := by rw [up_k _ _ _ _ (by decide)]; exact h3
        have h5' : mm_up2 F r 2 (.long db) r 5 = .int (iI tp) := by rw [up_k _ _ _ _ (by decide)]; exact h5
        simp (disch := first | assumption | exact bI_or _ | exact zOK_O hz (by decide) (by decide) rfl | exact zOK_T hz (by decide) (by decide) rfl | (refine ix (zOK_l hz (by decide) (by decide) rfl) ?_; omega) | decide | omega) only [eX5_drawBeam_11, eX5_drawBeam_12, eX5_drawBeam_15, eX5_drawBeam_16, eX5_drawBeam_17, eX5_drawBeam_20, eX5_drawBeam_22, eX5_drawBeam_23, eX5_drawBeam_24, eX5_drawBeam_25, eX5_drawBeam_26, eX5_drawBeam_27, eX5_drawBeam_30, eX5_drawBeam_31, eX5_drawBeam_33, eX5_drawBeam_34, eX5_drawBeam_35, eX5_drawBeam_36, eX5_drawBeam_37, eX5_drawBeam_38, eX5_drawBeam_41, eX5_drawBeam_42, eX5_drawBeam_45, eX5_drawBeam_46, eX5_drawBeam_49, eX5_drawBeam_52, eX5_drawBeam_55, Nat.reduceLT, Nat.reduceLeDiff, Nat.reduceEqDiff, Nat.reduceAdd, Nat.reduceMul, Int.reduceLE, Int.reduceLT, Int.reduceEq, not_false_iff, nlr, Nat.zero_add, Nat.add_zero, e10f, e01f, eq_self, true_and, and_true, false_and, and_false, and_self, decide_true, decide_false, mm_bd_i, mm_bd_v, if_true, if_false, not_true_eq_false, not_false_eq_true, nI_1, Bool.true_eq_false, Bool.false_eq_true, bI_0, n_le0, n_0lt, n_lt0, n_0le, n_eq0, n_eqm, n_eq1, n_le1, n_1lt, n_1le, n_lt1, nn_le, nI_ltI, nI_eq, nI_clamp, nI_add, pk_mul, i_eq0, i_eqm, i_0le, i_le0, i_0lt, i_lt0, i_mle, i_ltm, ii_le, iI_lt, iI_eq, ni_le, ni_lt, ni_eq, in_le, in_lt, in_eq, ni_add, in_add, ni_sub, in_sub, ni_mul, in_mul, iI_add, iI_sub, iI_mul, i_p1, iI_neg, n_neg, hk, up_s, h3', h5', in_div, bo, upup]
      · intro a ha
        rw [k2 a ha, lb_or, lb_b1 (by omega)]
        have e : Int.gcd x y - k = (Int.gcd x y - (k + 1)) + 1 := by omega
        rw [e, bRD_s, Bool.or_assoc]
        congr 2
        apply decide_eq_decide.mpr
        unfold bD
        omega
  obtain ⟨db', k1, k2⟩ := l 0 (by omega) db
  have e0 : mm_up2 F r 2 (.long db) = F := by
    funext p q
    unfold mm_up2
    split
    · rename_i h; rw [h.1, h.2, h2]
    · rfl
  rw [e0] at k1
  refine ⟨db', ?_, k2⟩
  rw [← k1]
  simp (disch := first | assumption | exact bI_or _ | exact zOK_O hz (by decide) (by decide) rfl | exact zOK_T hz (by decide) (by decide) rfl | (refine ix (zOK_l hz (by decide) (by decide) rfl) ?_; omega) | decide | omega) only [eX5_drawBeam_0, eX5_drawBeam_1, eX5_drawBeam_2, eX5_drawBeam_5, eX5_drawBeam_6, eX5_drawBeam_7, Nat.reduceLT, Nat.reduceLeDiff, Nat.reduceEqDiff, Nat.reduceAdd, Nat.reduceMul, Int.reduceLE, Int.reduceLT, Int.reduceEq, not_false_iff, nlr, Nat.zero_add, Nat.add_zero, e10f, e01f, eq_self, true_and, and_true, false_and, and_false, and_self, decide_true, decide_false, mm_bd_i, mm_bd_v, if_true, if_false, not_true_eq_false, not_false_eq_true, nI_1, Bool.true_eq_false, Bool.false_eq_true, bI_0, n_le0, n_0lt, n_lt0, n_0le, n_eq0, n_eqm, n_eq1, n_le1, n_1lt, n_1le, n_lt1, nn_le, nI_ltI, nI_eq, nI_clamp, nI_add, pk_mul, i_eq0, i_eqm, i_0le, i_le0, i_0lt, i_lt0, i_mle, i_ltm, ii_le, iI_lt, iI_eq, ni_le, ni_lt, ni_eq, in_le, in_lt, in_eq, ni_add, in_add, ni_sub, in_sub, ni_mul, in_mul, iI_add, iI_sub, iI_mul, i_p1, iI_neg, n_neg, st]
  rfl
