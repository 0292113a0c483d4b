/-! catches: gather, apart, moved of the reference -/
theorem rM_apart (d : Nat) (z : mm_Z) (F : Nat → Nat → Value) (I : Nat → Nat → Int32) (L : Nat → Nat → Int64) (r : Value) (a b : Nat) (ha : a < 64) (hb : b < 64) : mm_E d mX11_apart 0 [r, .int (nI a), .int (nI b), uu, uu] [] (z, F, I, L) = some (some (.int (nI (dst a b))), (z, F, I, L)) := by
  have s1 := nn_sub (a % 8) (b % 8)
  have s2 := nn_sub (a / 8) (b / 8)
  unfold dst
  have p1 : ((a % 8 : Nat) : Int) - (b % 8 : Nat) < 0 → - iI (((a % 8 : Nat) : Int) - (b % 8 : Nat)) = nI (((a % 8 : Nat) : Int) - (b % 8 : Nat)).natAbs := fun q => by rw [iI_neg, iI_nn (by omega)]; congr 1; omega
  have p1' : ¬ ((a % 8 : Nat) : Int) - (b % 8 : Nat) < 0 → iI (((a % 8 : Nat) : Int) - (b % 8 : Nat)) = nI (((a % 8 : Nat) : Int) - (b % 8 : Nat)).natAbs := fun q => by rw [iI_nn (by omega)]; congr 1; omega
  have p2 : ((a / 8 : Nat) : Int) - (b / 8 : Nat) < 0 → - iI (((a / 8 : Nat) : Int) - (b / 8 : Nat)) = nI (((a / 8 : Nat) : Int) - (b / 8 : Nat)).natAbs := fun q => by rw [iI_neg, iI_nn (by omega)]; congr 1; omega
  have p2' : ¬ ((a / 8 : Nat) : Int) - (b / 8 : Nat) < 0 → iI (((a / 8 : Nat) : Int) - (b / 8 : Nat)) = nI (((a / 8 : Nat) : Int) - (b / 8 : Nat)).natAbs := fun q => by rw [iI_nn (by omega)]; congr 1; omega
  have b1 : -2147483648 ≤ ((a % 8 : Nat) : Int) - (b % 8 : Nat) ∧ ((a % 8 : Nat) : Int) - (b % 8 : Nat) < 2147483648 := by omega
  have b2 : -2147483648 ≤ ((a / 8 : Nat) : Int) - (b / 8 : Nat) ∧ ((a / 8 : Nat) : Int) - (b / 8 : Nat) < 2147483648 := by omega
  generalize ((a % 8 : Nat) : Int) - (b % 8 : Nat) = X at *
  generalize ((a / 8 : Nat) : Int) - (b / 8 : Nat) = Y at *
  by_cases c1 : X < 0 <;> by_cases c2 : Y < 0
  · have e1 := p1 c1
    have e2 := p2 c2
    simp only [iI_neg] at e1 e2
    simp (disch := first | assumption | exact bI_or _ | exact zOK_O hz (by decide) (by decide) rfl | exact zOK_T hz (by decide) (by decide) rfl | (refine ix (zOK_l hz (by decide) (by decide) rfl) ?_; omega) | decide | omega) only [eX11_apart_0, eX11_apart_1, eX11_apart_3, eX11_apart_4, eX11_apart_5, eX11_apart_7, eX11_apart_8, eX11_apart_9, eX11_apart_10, eX11_apart_11, eX11_apart_13, eX11_apart_14, eX11_apart_15, eX11_apart_17, eX11_apart_18, eX11_apart_19, eX11_apart_21, eX11_apart_22, eX11_apart_25, eX11_apart_26, eX11_apart_27, eX11_apart_30, eX11_apart_31, eX11_apart_33, eX11_apart_36, eX11_apart_38, eX11_apart_39, eX11_apart_42, eX11_apart_44, eX11_apart_45, Int.cast_ofNat_Int, Nat.reduceLT, Nat.reduceLeDiff, Nat.reduceEqDiff, Nat.reduceAdd, Nat.reduceMul, Int.reduceLE, Int.reduceLT, Int.reduceEq, not_false_iff, nlr, Nat.zero_add, Nat.add_zero, e10f, e01f, eq_self, true_and, and_true, false_and, and_false, and_self, decide_true, decide_false, mm_bd_i, mm_bd_v, if_true, if_false, not_true_eq_false, not_false_eq_true, nI_1, Bool.true_eq_false, Bool.false_eq_true, bI_0, n_le0, n_0lt, n_lt0, n_0le, n_eq0, n_eqm, n_eq1, n_le1, n_1lt, n_1le, n_lt1, nn_le, nI_ltI, nI_eq, nI_clamp, nI_add, pk_mul, i_eq0, i_eqm, i_0le, i_le0, i_0lt, i_lt0, i_mle, i_ltm, ii_le, iI_lt, iI_eq, ni_le, ni_lt, ni_eq, in_le, in_lt, in_eq, ni_add, in_add, ni_sub, in_sub, ni_mul, in_mul, iI_add, iI_sub, iI_mul, i_p1, iI_neg, n_neg, pk_div, n_m8, s1, s2, c1, c2, e1, e2]
  · have e1 := p1 c1
    have e2 := p2' c2
    simp only [iI_neg] at e1
    simp (disch := first | assumption | exact bI_or _ | exact zOK_O hz (by decide) (by decide) rfl | exact zOK_T hz (by decide) (by decide) rfl | (refine ix (zOK_l hz (by decide) (by decide) rfl) ?_; omega) | decide | omega) only [eX11_apart_0, eX11_apart_1, eX11_apart_3, eX11_apart_4, eX11_apart_5, eX11_apart_7, eX11_apart_8, eX11_apart_9, eX11_apart_10, eX11_apart_11, eX11_apart_13, eX11_apart_14, eX11_apart_15, eX11_apart_17, eX11_apart_18, eX11_apart_19, eX11_apart_21, eX11_apart_22, eX11_apart_25, eX11_apart_26, eX11_apart_27, eX11_apart_30, eX11_apart_31, eX11_apart_33, eX11_apart_36, eX11_apart_38, eX11_apart_39, eX11_apart_42, eX11_apart_44, eX11_apart_45, Int.cast_ofNat_Int, Nat.reduceLT, Nat.reduceLeDiff, Nat.reduceEqDiff, Nat.reduceAdd, Nat.reduceMul, Int.reduceLE, Int.reduceLT, Int.reduceEq, not_false_iff, nlr, Nat.zero_add, Nat.add_zero, e10f, e01f, eq_self, true_and, and_true, false_and, and_false, and_self, decide_true, decide_false, mm_bd_i, mm_bd_v, if_true, if_false, not_true_eq_false, not_false_eq_true, nI_1, Bool.true_eq_false, Bool.false_eq_true, bI_0, n_le0, n_0lt, n_lt0, n_0le, n_eq0, n_eqm, n_eq1, n_le1, n_1lt, n_1le, n_lt1, nn_le, nI_ltI, nI_eq, nI_clamp, nI_add, pk_mul, i_eq0, i_eqm, i_0le, i_le0, i_0lt, i_lt0, i_mle, i_ltm, ii_le, iI_lt, iI_eq, ni_le, ni_lt, ni_eq, in_le, in_lt, in_eq, ni_add, in_add, ni_sub, in_sub, ni_mul, in_mul, iI_add, iI_sub, iI_mul, i_p1, iI_neg, n_neg, pk_div, n_m8, s1, s2, c1, c2, e1]
    rw [show ((X.natAbs : Int) + Y) = ((X.natAbs + Y.natAbs : Nat) : Int) by omega, ← nI_iI]
  · have e1 := p1' c1
    have e2 := p2 c2
    simp only [iI_neg] at e2
    simp (disch := first | assumption | exact bI_or _ | exact zOK_O hz (by decide) (by decide) rfl | exact zOK_T hz (by decide) (by decide) rfl | (refine ix (zOK_l hz (by decide) (by decide) rfl) ?_; omega) | decide | omega) only [eX11_apart_0, eX11_apart_1, eX11_apart_3, eX11_apart_4, eX11_apart_5, eX11_apart_7, eX11_apart_8, eX11_apart_9, eX11_apart_10, eX11_apart_11, eX11_apart_13, eX11_apart_14, eX11_apart_15, eX11_apart_17, eX11_apart_18, eX11_apart_19, eX11_apart_21, eX11_apart_22, eX11_apart_25, eX11_apart_26, eX11_apart_27, eX11_apart_30, eX11_apart_31, eX11_apart_33, eX11_apart_36, eX11_apart_38, eX11_apart_39, eX11_apart_42, eX11_apart_44, eX11_apart_45, Int.cast_ofNat_Int, Nat.reduceLT, Nat.reduceLeDiff, Nat.reduceEqDiff, Nat.reduceAdd, Nat.reduceMul, Int.reduceLE, Int.reduceLT, Int.reduceEq, not_false_iff, nlr, Nat.zero_add, Nat.add_zero, e10f, e01f, eq_self, true_and, and_true, false_and, and_false, and_self, decide_true, decide_false, mm_bd_i, mm_bd_v, if_true, if_false, not_true_eq_false, not_false_eq_true, nI_1, Bool.true_eq_false, Bool.false_eq_true, bI_0, n_le0, n_0lt, n_lt0, n_0le, n_eq0, n_eqm, n_eq1, n_le1, n_1lt, n_1le, n_lt1, nn_le, nI_ltI, nI_eq, nI_clamp, nI_add, pk_mul, i_eq0, i_eqm, i_0le, i_le0, i_0lt, i_lt0, i_mle, i_ltm, ii_le, iI_lt, iI_eq, ni_le, ni_lt, ni_eq, in_le, in_lt, in_eq, ni_add, in_add, ni_sub, in_sub, ni_mul, in_mul, iI_add, iI_sub, iI_mul, i_p1, iI_neg, n_neg, pk_div, n_m8, s1, s2, c1, c2, e2]
    rw [show (X + (Y.natAbs : Int)) = ((X.natAbs + Y.natAbs : Nat) : Int) by omega, ← nI_iI]
  · have e1 := p1' c1
    have e2 := p2' c2
    simp (disch := first | assumption | exact bI_or _ | exact zOK_O hz (by decide) (by decide) rfl | exact zOK_T hz (by decide) (by decide) rfl | (refine ix (zOK_l hz (by decide) (by decide) rfl) ?_; omega) | decide | omega) only [eX11_apart_0, eX11_apart_1, eX11_apart_3, eX11_apart_4, eX11_apart_5, eX11_apart_7, eX11_apart_8, eX11_apart_9, eX11_apart_10, eX11_apart_11, eX11_apart_13, eX11_apart_14, eX11_apart_15, eX11_apart_17, eX11_apart_18, eX11_apart_19, eX11_apart_21, eX11_apart_22, eX11_apart_25, eX11_apart_26, eX11_apart_27, eX11_apart_30, eX11_apart_31, eX11_apart_33, eX11_apart_36, eX11_apart_38, eX11_apart_39, eX11_apart_42, eX11_apart_44, eX11_apart_45, Int.cast_ofNat_Int, Nat.reduceLT, Nat.reduceLeDiff, Nat.reduceEqDiff, Nat.reduceAdd, Nat.reduceMul, Int.reduceLE, Int.reduceLT, Int.reduceEq, not_false_iff, nlr, Nat.zero_add, Nat.add_zero, e10f, e01f, eq_self, true_and, and_true, false_and, and_false, and_self, decide_true, decide_false, mm_bd_i, mm_bd_v, if_true, if_false, not_true_eq_false, not_false_eq_true, nI_1, Bool.true_eq_false, Bool.false_eq_true, bI_0, n_le0, n_0lt, n_lt0, n_0le, n_eq0, n_eqm, n_eq1, n_le1, n_1lt, n_1le, n_lt1, nn_le, nI_ltI, nI_eq, nI_clamp, nI_add, pk_mul, i_eq0, i_eqm, i_0le, i_le0, i_0lt, i_lt0, i_mle, i_ltm, ii_le, iI_lt, iI_eq, ni_le, ni_lt, ni_eq, in_le, in_lt, in_eq, ni_add, in_add, ni_sub, in_sub, ni_mul, in_mul, iI_add, iI_sub, iI_mul, i_p1, iI_neg, n_neg, pk_div, n_m8, s1, s2, c1, c2]
    rw [show (X + Y) = ((X.natAbs + Y.natAbs : Nat) : Int) by omega, ← nI_iI]
theorem rM_gather (d : Nat) (z : mm_Z) (F : Nat → Nat → Value) (I : Nat → Nat → Int32) (L : Nat → Nat → Int64) (hz : zOK z) (hF : FixM F) (ca : Nat → Nat → Nat) (ok : okC ca) (hc : rCt ca I) (i j w : Nat) (hi : i < 3) (hj : j < 3) (hw : w < 3) (r : Nat) (hr : r = 137 ∨ r = 138) : ∃ I', mm_E (d + 1) mX11_gather 0 [.ref 120, .int (nI i), .int (nI j), .int (nI w), .ref r, uu, uu] [] (z, F, I, L) = some (some (.int (nI (mvA ca i j w).length)), (z, F, I', L)) ∧ rwL r (mvA ca i j w) I' ∧ ∀ y, ¬ y = r → I' y = I y := by
  have rt : mm_zT z r 0 := by rcases hr with rfl | rfl <;> exact zOK_T hz (by decide) (by decide) rfl
  have rl : mm_zl z r = 6 := by rcases hr with rfl | rfl <;> exact zOK_l hz (by decide) (by decide) (t := 0) rfl
  unfold mvA
  have l : ∀ c, c ≤ 64 → ∀ I1 : Nat → Nat → Int32, rCt ca I1 → rwL r (lst (chB ca i j w) c) I1 → ∃ I2, mm_E (d + 1) mX11_gather 6 [.ref 120, .int (nI i), .int (nI j), .int (nI w), .ref r, .int (nI (lst (chB ca i j w) c).length), .int (nI c)] [] (z, F, I1, L) = some (some (.int (nI (lst (chB ca i j w) 64).length)), (z, F, I2, L)) ∧ rwL r (lst (chB ca i j w) 64) I2 ∧ ∀ y, ¬ y = r → I2 y = I1 y := by
    apply lp
    · intro I1 _ h1
      refine ⟨I1, ?_, h1, fun _ _ => rfl⟩
      rw [eX11_gather_6]
      simp (disch := first | assumption | exact bI_or _ | exact zOK_O hz (by decide) (by decide) rfl | exact zOK_T hz (by decide) (by decide) rfl | (refine ix (zOK_l hz (by decide) (by decide) rfl) ?_; omega) | decide | omega) only [eX11_gather_8, eX11_gather_10, eX11_gather_13, eX11_gather_15, eX11_gather_17, eX11_gather_20, eX11_gather_21, eX11_gather_22, eX11_gather_23, eX11_gather_24, eX11_gather_26, eX11_gather_29, eX11_gather_32, eX11_gather_34, eX11_gather_36, eX11_gather_38, eX11_gather_39, eX11_gather_42, eX11_gather_45, eX11_gather_48, eX11_gather_50, Int.cast_ofNat_Int, Nat.reduceLT, Nat.reduceLeDiff, Nat.reduceEqDiff, Nat.reduceAdd, Nat.reduceMul, Int.reduceLE, Int.reduceLT, Int.reduceEq, not_false_iff, nlr, Nat.zero_add, Nat.add_zero, e10f, e01f, eq_self, true_and, and_true, false_and, and_false, and_self, decide_true, decide_false, mm_bd_i, mm_bd_v, if_true, if_false, not_true_eq_false, not_false_eq_true, nI_1, Bool.true_eq_false, Bool.false_eq_true, bI_0, n_le0, n_0lt, n_lt0, n_0le, n_eq0, n_eqm, n_eq1, n_le1, n_1lt, n_1le, n_lt1, nn_le, nI_ltI, nI_eq, nI_clamp, nI_add, pk_mul, i_eq0, i_eqm, i_0le, i_le0, i_0lt, i_lt0, i_mle, i_ltm, ii_le, iI_lt, iI_eq, ni_le, ni_lt, ni_eq, in_le, in_lt, in_eq, ni_add, in_add, ni_sub, in_sub, ni_mul, in_mul, iI_add, iI_sub, iI_mul, i_p1, iI_neg, n_neg]
    · intro c hc' ih I1 hC h1
      have ll := lst_len (chB ca i j w) c
      by_cases q : (lst (chB ca i j w) c).length < 6
      · have is := fun d' => rM_isSince d' z F I1 L hz hF ca ok hC i j w c hi hj hw hc'
        cases e : chB ca i j w c with
        | true =>
          rw [e] at is
          have ls : lst (chB ca i j w) (c + 1) = lst (chB ca i j w) c ++ [c] := by rw [lst, if_pos ⟨q, e⟩]
          have ln : (lst (chB ca i j w) c ++ [c]).length = (lst (chB ca i j w) c).length + 1 := List.length_append
          have ix6 : vp_in (nI (lst (chB ca i j w) c).length) (mm_zl z r) := vi rl q (by decide)
          obtain ⟨I2, y1, y2, y3⟩ := ih (mm_up2 I1 r (lst (chB ca i j w) c).length (nI c)) (fun k hk a ha => by rw [up_r _ _ _ _ (by omega)]; exact hC k hk a ha) (by rw [ls]; exact rwL_up h1 c)
          refine ⟨I2, ?_, y2, fun y hy => by rw [y3 y hy, up_row _ _ _ hy]⟩
          rw [ls, ln] at y1
          rw [← y1, eX11_gather_6]
          simp (disch := first | assumption | exact bI_or _ | exact zOK_O hz (by decide) (by decide) rfl | exact zOK_T hz (by decide) (by decide) rfl | (refine ix (zOK_l hz (by decide) (by decide) rfl) ?_; omega) | decide | omega) only [eX11_gather_8, eX11_gather_10, eX11_gather_13, eX11_gather_15, eX11_gather_17, eX11_gather_20, eX11_gather_21, eX11_gather_22, eX11_gather_23, eX11_gather_24, eX11_gather_26, eX11_gather_29, eX11_gather_32, eX11_gather_34, eX11_gather_36, eX11_gather_38, eX11_gather_39, eX11_gather_42, eX11_gather_45, eX11_gather_48, eX11_gather_50, Int.cast_ofNat_Int, Nat.reduceLT, Nat.reduceLeDiff, Nat.reduceEqDiff, Nat.reduceAdd, Nat.reduceMul, Int.reduceLE, Int.reduceLT, Int.reduceEq, not_false_iff, nlr, Nat.zero_add, Nat.add_zero, e10f, e01f, eq_self, true_and, and_true, false_and, and_false, and_self, decide_true, decide_false, mm_bd_i, mm_bd_v, if_true, if_false, not_true_eq_false, not_false_eq_true, nI_1, Bool.true_eq_false, Bool.false_eq_true, bI_0, n_le0, n_0lt, n_lt0, n_0le, n_eq0, n_eqm, n_eq1, n_le1, n_1lt, n_1le, n_lt1, nn_le, nI_ltI, nI_eq, nI_clamp, nI_add, pk_mul, i_eq0, i_eqm, i_0le, i_le0, i_0lt, i_lt0, i_mle, i_ltm, ii_le, iI_lt, iI_eq, ni_le, ni_lt, ni_eq, in_le, in_lt, in_eq, ni_add, in_add, ni_sub, in_sub, ni_mul, in_mul, iI_add, iI_sub, iI_mul, i_p1, iI_neg, n_neg, hc', q, is, bI_t]
        | false =>
          rw [e] at is
          have ls : lst (chB ca i j w) (c + 1) = lst (chB ca i j w) c := by rw [lst, if_neg (fun k => by rw [e] at k; exact Bool.noConfusion k.2)]
          obtain ⟨I2, y1, y2, y3⟩ := ih I1 hC (by rw [ls]; exact h1)
          refine ⟨I2, ?_, y2, y3⟩
          rw [ls] at y1
          rw [← y1, eX11_gather_6]
          simp (disch := first | assumption | exact bI_or _ | exact zOK_O hz (by decide) (by decide) rfl | exact zOK_T hz (by decide) (by decide) rfl | (refine ix (zOK_l hz (by decide) (by decide) rfl) ?_; omega) | decide | omega) only [eX11_gather_8, eX11_gather_10, eX11_gather_13, eX11_gather_15, eX11_gather_17, eX11_gather_20, eX11_gather_21, eX11_gather_22, eX11_gather_23, eX11_gather_24, eX11_gather_26, eX11_gather_29, eX11_gather_32, eX11_gather_34, eX11_gather_36, eX11_gather_38, eX11_gather_39, eX11_gather_42, eX11_gather_45, eX11_gather_48, eX11_gather_50, Int.cast_ofNat_Int, Nat.reduceLT, Nat.reduceLeDiff, Nat.reduceEqDiff, Nat.reduceAdd, Nat.reduceMul, Int.reduceLE, Int.reduceLT, Int.reduceEq, not_false_iff, nlr, Nat.zero_add, Nat.add_zero, e10f, e01f, eq_self, true_and, and_true, false_and, and_false, and_self, decide_true, decide_false, mm_bd_i, mm_bd_v, if_true, if_false, not_true_eq_false, not_false_eq_true, nI_1, Bool.true_eq_false, Bool.false_eq_true, bI_0, n_le0, n_0lt, n_lt0, n_0le, n_eq0, n_eqm, n_eq1, n_le1, n_1lt, n_1le, n_lt1, nn_le, nI_ltI, nI_eq, nI_clamp, nI_add, pk_mul, i_eq0, i_eqm, i_0le, i_le0, i_0lt, i_lt0, i_mle, i_ltm, ii_le, iI_lt, iI_eq, ni_le, ni_lt, ni_eq, in_le, in_lt, in_eq, ni_add, in_add, ni_sub, in_sub, ni_mul, in_mul, iI_add, iI_sub, iI_mul, i_p1, iI_neg, n_neg, hc', q, is, bI_f]
      · refine ⟨I1, ?_, by rw [lst_full q 64 (by omega)]; exact h1, fun _ _ => rfl⟩
        rw [lst_full q 64 (by omega), eX11_gather_6]
        simp (disch := first | assumption | exact bI_or _ | exact zOK_O hz (by decide) (by decide) rfl | exact zOK_T hz (by decide) (by decide) rfl | (refine ix (zOK_l hz (by decide) (by decide) rfl) ?_; omega) | decide | omega) only [eX11_gather_8, eX11_gather_10, eX11_gather_13, eX11_gather_15, eX11_gather_17, eX11_gather_20, eX11_gather_21, eX11_gather_22, eX11_gather_23, eX11_gather_24, eX11_gather_26, eX11_gather_29, eX11_gather_32, eX11_gather_34, eX11_gather_36, eX11_gather_38, eX11_gather_39, eX11_gather_42, eX11_gather_45, eX11_gather_48, eX11_gather_50, Int.cast_ofNat_Int, Nat.reduceLT, Nat.reduceLeDiff, Nat.reduceEqDiff, Nat.reduceAdd, Nat.reduceMul, Int.reduceLE, Int.reduceLT, Int.reduceEq, not_false_iff, nlr, Nat.zero_add, Nat.add_zero, e10f, e01f, eq_self, true_and, and_true, false_and, and_false, and_self, decide_true, decide_false, mm_bd_i, mm_bd_v, if_true, if_false, not_true_eq_false, not_false_eq_true, nI_1, Bool.true_eq_false, Bool.false_eq_true, bI_0, n_le0, n_0lt, n_lt0, n_0le, n_eq0, n_eqm, n_eq1, n_le1, n_1lt, n_1le, n_lt1, nn_le, nI_ltI, nI_eq, nI_clamp, nI_add, pk_mul, i_eq0, i_eqm, i_0le, i_le0, i_0lt, i_lt0, i_mle, i_ltm, ii_le, iI_lt, iI_eq, ni_le, ni_lt, ni_eq, in_le, in_lt, in_eq, ni_add, in_add, ni_sub, in_sub, ni_mul, in_mul, iI_add, iI_sub, iI_mul, i_p1, iI_neg, n_neg, hc', q]
  obtain ⟨I2, y1, y2, y3⟩ := l 0 (by omega) I hc (fun i hi => absurd hi (by rw [lst]; simp))
  refine ⟨I2, ?_, y2, y3⟩
  rw [← y1]
  simp (disch := first | assumption | exact bI_or _ | exact zOK_O hz (by decide) (by decide) rfl | exact zOK_T hz (by decide) (by decide) rfl | (refine ix (zOK_l hz (by decide) (by decide) rfl) ?_; omega) | decide | omega) only [eX11_gather_0, eX11_gather_1, eX11_gather_3, eX11_gather_4, Int.cast_ofNat_Int, Nat.reduceLT, Nat.reduceLeDiff, Nat.reduceEqDiff, Nat.reduceAdd, Nat.reduceMul, Int.reduceLE, Int.reduceLT, Int.reduceEq, not_false_iff, nlr, Nat.zero_add, Nat.add_zero, e10f, e01f, eq_self, true_and, and_true, false_and, and_false, and_self, decide_true, decide_false, mm_bd_i, mm_bd_v, if_true, if_false, not_true_eq_false, not_false_eq_true, nI_1, Bool.true_eq_false, Bool.false_eq_true, bI_0, n_le0, n_0lt, n_lt0, n_0le, n_eq0, n_eqm, n_eq1, n_le1, n_1lt, n_1le, n_lt1, nn_le, nI_ltI, nI_eq, nI_clamp, nI_add, pk_mul, i_eq0, i_eqm, i_0le, i_le0, i_0lt, i_lt0, i_mle, i_ltm, ii_le, iI_lt, iI_eq, ni_le, ni_lt, ni_eq, in_le, in_lt, in_eq, ni_add, in_add, ni_sub, in_sub, ni_mul, in_mul, iI_add, iI_sub, iI_mul, i_p1, iI_neg, n_neg]
  rfl
/-- the digits of a number, least first -/
def dg (q r k : Nat) : Nat := r / q ^ k % q
def enc (q : Nat) : Nat → (Nat → Nat) → Nat
  | 0, _ => 0
  | p + 1, f => f 0 + q * enc q p (fun i => f (i + 1))
theorem enc_lt (q : Nat) : ∀ p f, (∀ i, i < p → f i < q) → enc q p f < q ^ p := by
  intro p
  induction p with
  | zero => intro f _; rw [enc, Nat.pow_zero]; omega
  | succ p ih =>
    intro f h
    have a := ih (fun i => f (i + 1)) (fun i hi => h (i + 1) (by omega))
    have b := h 0 (by omega)
    rw [enc, Nat.pow_succ, Nat.mul_comm (q ^ p) q]
    have c : q * (enc q p (fun i => f (i + 1)) + 1) ≤ q * q ^ p := Nat.mul_le_mul_left q a
    rw [Nat.mul_add, Nat.mul_one] at c
    omega
theorem enc_dg (q : Nat) : ∀ p f, (∀ i, i < p → f i < q) → ∀ k, k < p → dg q (enc q p f) k = f k := by
  intro p
  induction p with
  | zero => intro f _ k hk; exact absurd hk (by omega)
  | succ p ih =>
    intro f h k hk
    have b := h 0 (by omega)
    unfold dg
    cases k with
    | zero => rw [enc, Nat.pow_zero, Nat.div_one, Nat.add_mul_mod_self_left, Nat.mod_eq_of_lt b]
    | succ k =>
      have := ih (fun i => f (i + 1)) (fun i hi => h (i + 1) (by omega)) k (by omega)
      unfold dg at this
      rw [enc, Nat.pow_succ, Nat.mul_comm (q ^ k) q, ← Nat.div_div_eq_div_mul, Nat.add_mul_div_left _ _ (by omega), Nat.div_eq_of_lt b, Nat.zero_add]
      exact this
theorem dg_lt {q : Nat} (hq : 0 < q) (r k : Nat) : dg q r k < q := Nat.mod_lt _ hq
theorem inj_cg {p q : Nat} {f g : Nat → Nat} (h : inj p q f) (e : ∀ i, i < p → g i = f i) : inj p q g := ⟨fun i hi => by rw [e i hi]; exact h.1 i hi, fun i j hi hj => by rw [e i hi, e j hj]; exact h.2 i j hi hj⟩
def okMR (p q : Nat) (D : Nat → Nat → Nat) (r b : Nat) : Prop := b ≤ 100000 ∧ (b < 100000 → ∃ f, inj p q f ∧ b = sD D f p) ∧ ∀ r', r' < r → inj p q (dg q r') → b ≤ sD D (dg q r') p
theorem okMR_end {p q : Nat} {D : Nat → Nat → Nat} {b : Nat} (hpq : p ≤ q) (h6 : q ≤ 6) (hD : ∀ i j, D i j ≤ 14) (h : okMR p q D (q ^ p) b) : ltP p q D b := by
  obtain ⟨b1, b2, b3⟩ := h
  have all : ∀ f, inj p q f → b ≤ sD D f p := fun f hf => by
    have e := enc_dg q p f hf.1
    have := b3 (enc q p f) (enc_lt q p f hf.1) (inj_cg hf e)
    have s : sD D (dg q (enc q p f)) p = sD D f p := sumT_congr p (fun i hi => by rw [e i hi])
    rw [s] at this; exact this
  have idi : inj p q (fun i => i) := ⟨fun i hi => by show i < q; omega, fun i j _ _ e => e⟩
  have := all _ idi
  have := sD_le hD (fun i => i) p
  exact ⟨b2 (by omega), all⟩
theorem okMR_0 (p q : Nat) (D : Nat → Nat → Nat) : okMR p q D 0 100000 := ⟨Nat.le_refl _, fun h => absurd h (by omega), fun r h => absurd h (by omega)⟩
/-- what a row's sum is -/
def okS (p q : Nat) (D : Nat → Nat → Nat) (r s : Nat) : Prop := (inj p q (dg q r) → s = sD D (dg q r) p) ∧ (¬ inj p q (dg q r) → 100000 ≤ s) ∧ s ≤ 200000 * p
theorem okMR_step {p q : Nat} {D : Nat → Nat → Nat} {r b s : Nat} (h : okMR p q D r b) (hs : okS p q D r s) : okMR p q D (r + 1) (if s < b then s else b) := by
  obtain ⟨b1, b2, b3⟩ := h
  obtain ⟨s1, s2, s3⟩ := hs
  by_cases c : s < b
  · rw [if_pos c]
    have hi : inj p q (dg q r) := by
      apply Classical.byContradiction
      intro q'
      have := s2 q'
      omega
    refine ⟨by omega, fun _ => ⟨_, hi, s1 hi⟩, fun r' hr hi' => ?_⟩
    by_cases e : r' = r
    · rw [e, ← s1 hi]; omega
    · have := b3 r' (by omega) hi'; omega
  · rw [if_neg c]
    refine ⟨b1, b2, fun r' hr hi' => ?_⟩
    by_cases e : r' = r
    · rw [e] at hi' ⊢; rw [← s1 hi']; omega
    · exact b3 r' (by omega) hi'
theorem okS_0 (q : Nat) (D : Nat → Nat → Nat) (r : Nat) : okS 0 q D r 0 := ⟨fun _ => rfl, fun h => absurd ⟨fun i hi => absurd hi (by omega), fun i j hi => absurd hi (by omega)⟩ h, by omega⟩
theorem okS_met {k q : Nat} {D : Nat → Nat → Nat} {r s : Nat} (h6 : q ≤ 6) (h : okS k q D r s) (hb : (uOf (dg q r) k).testBit (dg q r k) = true) : okS (k + 1) q D r (s + 100000) := by
  refine ⟨fun hi => ?_, fun _ => by omega, by have := h.2.2; omega⟩
  have := u_no h6 hi
  rw [hb] at this
  exact Bool.noConfusion this
theorem okS_new {k q : Nat} {D : Nat → Nat → Nat} {r s : Nat} (h6 : q ≤ 6) (hq : 0 < q) (hD : ∀ i j, D i j ≤ 14) (h : okS k q D r s) (hb : (uOf (dg q r) k).testBit (dg q r k) = false) : okS (k + 1) q D r (s + D k (dg q r k)) := by
  have dl := hD k (dg q r k)
  refine ⟨fun hi => by rw [sD_s, h.1 (inj_pre hi (by omega))], fun hn => ?_, by have := h.2.2; omega⟩
  by_cases c : inj k q (dg q r)
  · exfalso
    have ie := inj_ext h6 c (dg_lt hq r k) hb
    exact hn (inj_cg ie (fun i hi => by
      by_cases e : i = k
      · rw [e, udf_s]
      · rw [udf_n _ _ e]))
  · have := h.2.1 c
    omega
theorem pw6 {q p : Nat} (h6 : q ≤ 6) (hp : p ≤ q) : q ^ p ≤ 46656 := by
  have a : q ^ p ≤ 6 ^ p := Nat.pow_le_pow_left h6 p
  have b : 6 ^ p ≤ 6 ^ 6 := Nat.pow_le_pow_right (by omega) (by omega)
  have c : 6 ^ 6 = 46656 := by decide
  omega
theorem bigN : (100000 : Int32) = nI 100000 := by decide +kernel
theorem big_a (s : Nat) : nI s + 100000 = nI (s + 100000) := by rw [bigN, nI_add]
theorem dg_div (q r k : Nat) : r / q ^ k / q = r / q ^ (k + 1) := by rw [Nat.div_div_eq_div_mul, Nat.pow_succ]
theorem n_rem {a b : Nat} (h : a < 2 ^ 31) (hb : b < 2 ^ 31) (h0 : 0 < b) : nI a - nI (a / b) * nI b = nI (a % b) := by
  rw [← pk_div h h0 hb, pk_rem h h0 hb]
/-- one row's sum, whatever the distances are read from -/
theorem rM_mv_in (d : Nat) (z : mm_Z) (F : Nat → Nat → Value) (I : Nat → Nat → Int32) (L : Nat → Nat → Int64) (hz : zOK z) (hF : FixM F) (p q : Nat) (h6 : q ≤ 6) (hpq : p ≤ q) (A B : Nat → Nat) (hA : ∀ i, A i < 64) (hB : ∀ i, B i < 64) (na nb : Nat) (e0 : (na < nb ∧ p = na ∧ q = nb) ∨ (¬ na < nb ∧ p = nb ∧ q = na)) (g0 : ∀ i, i < na → I 137 i = nI (A i)) (g1 : ∀ i, i < nb → I 138 i = nI (B i)) (D : Nat → Nat → Nat) (hD : ∀ i j, D i j = if na < nb then dst (A i) (B j) else dst (A j) (B i)) (a1 a2 a3 a8 : Value) (b r : Nat) (hr : r < q ^ p) : ∀ k, k ≤ p → ∀ (s : Nat) (a15 : Value), okS k q D r s → ∃ a15' s', mm_E (d + 1) mX11_moved 148 [.ref 120, a1, a2, a3, .int (nI na), .int (nI nb), .int (nI p), .int (nI q), a8, .int (nI b), .int (nI r), .int (nI (r / q ^ k)), .int (nI (uOf (dg q r) k)), .int (nI s), .int (nI k), a15] [] (z, F, I, L) = mm_E (d + 1) mX11_moved 252 [.ref 120, a1, a2, a3, .int (nI na), .int (nI nb), .int (nI p), .int (nI q), a8, .int (nI b), .int (nI r), .int (nI (r / q ^ p)), .int (nI (uOf (dg q r) p)), .int (nI s'), .int (nI p), a15'] [] (z, F, I, L) ∧ okS p q D r s' := by
  have pl := pw6 h6 hpq
  apply lp
  · intro s a15 hs
    refine ⟨a15, s, ?_, hs⟩
    rw [eX11_moved_148]
    simp (disch := first | assumption | exact bI_or _ | exact zOK_O hz (by decide) (by decide) rfl | exact zOK_T hz (by decide) (by decide) rfl | (refine ix (zOK_l hz (by decide) (by decide) rfl) ?_; omega) | decide | omega) only [eX11_moved_150, eX11_moved_152, eX11_moved_155, eX11_moved_157, eX11_moved_159, eX11_moved_160, eX11_moved_162, eX11_moved_164, eX11_moved_166, eX11_moved_167, eX11_moved_169, eX11_moved_171, eX11_moved_173, eX11_moved_175, eX11_moved_176, eX11_moved_177, eX11_moved_178, eX11_moved_179, eX11_moved_182, eX11_moved_185, eX11_moved_188, eX11_moved_190, eX11_moved_192, eX11_moved_195, eX11_moved_196, eX11_moved_197, eX11_moved_200, eX11_moved_202, eX11_moved_203, eX11_moved_204, eX11_moved_207, eX11_moved_209, eX11_moved_210, eX11_moved_213, eX11_moved_216, eX11_moved_217, eX11_moved_218, eX11_moved_221, eX11_moved_223, eX11_moved_224, eX11_moved_225, eX11_moved_228, eX11_moved_230, eX11_moved_231, eX11_moved_234, eX11_moved_235, eX11_moved_237, eX11_moved_239, eX11_moved_240, eX11_moved_242, eX11_moved_243, eX11_moved_244, eX11_moved_246, eX11_moved_249, Int.cast_ofNat_Int, Nat.reduceLT, Nat.reduceLeDiff, Nat.reduceEqDiff, Nat.reduceAdd, Nat.reduceMul, Int.reduceLE, Int.reduceLT, Int.reduceEq, not_false_iff, nlr, Nat.zero_add, Nat.add_zero, e10f, e01f, eq_self, true_and, and_true, false_and, and_false, and_self, decide_true, decide_false, mm_bd_i, mm_bd_v, if_true, if_false, not_true_eq_false, not_false_eq_true, nI_1, Bool.true_eq_false, Bool.false_eq_true, bI_0, n_le0, n_0lt, n_lt0, n_0le, n_eq0, n_eqm, n_eq1, n_le1, n_1lt, n_1le, n_lt1, nn_le, nI_ltI, nI_eq, nI_clamp, nI_add, pk_mul, i_eq0, i_eqm, i_0le, i_le0, i_0lt, i_lt0, i_mle, i_ltm, ii_le, iI_lt, iI_eq, ni_le, ni_lt, ni_eq, in_le, in_lt, in_eq, ni_add, in_add, ni_sub, in_sub, ni_mul, in_mul, iI_add, iI_sub, iI_mul, i_p1, iI_neg, n_neg]
  · intro k hk ih s a15 hs
    have q0 : 0 < q := by omega
    have dl := dg_lt q0 r k
    have hd14 : ∀ i j, D i j ≤ 14 := fun i j => by rw [hD]; split <;> exact dst_le (by first | exact hA _ | exact hB _) (by first | exact hA _ | exact hB _)
    have ul := u_lt h6 k (fun i _ => dg_lt q0 r i)
    have p6 := pow6 h6
    have rl : r / q ^ k ≤ r := Nat.div_le_self _ _
    have s3 := hs.2.2
    have tb := tb_i (uOf (dg q r) k) (by omega) (dg q r k) (by omega)
    have oi := or_i (uOf (dg q r) k) (by omega) (dg q r k) (by omega)
    have sp := sh_pow (dg q r k) (by omega)
    have rm : nI (r / q ^ k) - nI (r / q ^ k / q) * nI q = nI (dg q r k) := n_rem (by omega) (by omega) q0
    have dv : nI (r / q ^ k) / nI q = nI (r / q ^ k / q) := pk_div (by omega) q0 (by omega)
    have rm' : nI (r / q ^ k) - nI (r / q ^ k / q * q) = nI (dg q r k) := by rw [← rm, pk_mul]
    have nq : ¬ nI q = 0 := fun e => by rw [n_eq0 (by omega)] at e; omega
    rw [eX11_moved_148]
    cases e : (uOf (dg q r) k).testBit (dg q r k) with
    | true =>
      rw [e] at tb
      obtain ⟨a15', s', y1, y2⟩ := ih (s + 100000) (.int (nI (dg q r k))) (okS_met h6 hs e)
      refine ⟨a15', s', ?_, y2⟩
      rw [← y1, ← dg_div, uOf]
      simp (disch := first | assumption | exact bI_or _ | exact zOK_O hz (by decide) (by decide) rfl | exact zOK_T hz (by decide) (by decide) rfl | (refine ix (zOK_l hz (by decide) (by decide) rfl) ?_; omega) | decide | omega) only [eX11_moved_150, eX11_moved_152, eX11_moved_155, eX11_moved_157, eX11_moved_159, eX11_moved_160, eX11_moved_162, eX11_moved_164, eX11_moved_166, eX11_moved_167, eX11_moved_169, eX11_moved_171, eX11_moved_173, eX11_moved_175, eX11_moved_176, eX11_moved_177, eX11_moved_178, eX11_moved_179, eX11_moved_182, eX11_moved_185, eX11_moved_188, eX11_moved_190, eX11_moved_192, eX11_moved_195, eX11_moved_196, eX11_moved_197, eX11_moved_200, eX11_moved_202, eX11_moved_203, eX11_moved_204, eX11_moved_207, eX11_moved_209, eX11_moved_210, eX11_moved_213, eX11_moved_216, eX11_moved_217, eX11_moved_218, eX11_moved_221, eX11_moved_223, eX11_moved_224, eX11_moved_225, eX11_moved_228, eX11_moved_230, eX11_moved_231, eX11_moved_234, eX11_moved_235, eX11_moved_237, eX11_moved_239, eX11_moved_240, eX11_moved_242, eX11_moved_243, eX11_moved_244, eX11_moved_246, eX11_moved_249, Int.cast_ofNat_Int, Nat.reduceLT, Nat.reduceLeDiff, Nat.reduceEqDiff, Nat.reduceAdd, Nat.reduceMul, Int.reduceLE, Int.reduceLT, Int.reduceEq, not_false_iff, nlr, Nat.zero_add, Nat.add_zero, e10f, e01f, eq_self, true_and, and_true, false_and, and_false, and_self, decide_true, decide_false, mm_bd_i, mm_bd_v, if_true, if_false, not_true_eq_false, not_false_eq_true, nI_1, Bool.true_eq_false, Bool.false_eq_true, bI_0, n_le0, n_0lt, n_lt0, n_0le, n_eq0, n_eqm, n_eq1, n_le1, n_1lt, n_1le, n_lt1, nn_le, nI_ltI, nI_eq, nI_clamp, nI_add, pk_mul, i_eq0, i_eqm, i_0le, i_le0, i_0lt, i_lt0, i_mle, i_ltm, ii_le, iI_lt, iI_eq, ni_le, ni_lt, ni_eq, in_le, in_lt, in_eq, ni_add, in_add, ni_sub, in_sub, ni_mul, in_mul, iI_add, iI_sub, iI_mul, i_p1, iI_neg, n_neg, hk, dv, rm, rm', tb, bI_t, sp, oi, big_a]
    | false =>
      rw [e] at tb
      obtain ⟨a15', s', y1, y2⟩ := ih (s + D k (dg q r k)) (.int (nI (dg q r k))) (okS_new h6 q0 hd14 hs e)
      refine ⟨a15', s', ?_, y2⟩
      rw [← y1, ← dg_div, uOf, hD]
      rcases e0 with ⟨c, c1, c2⟩ | ⟨c, c1, c2⟩
      · have ap' := fun d' v => rM_apart d' z F I L v (A k) (B (dg q r k)) (hA _) (hB _)
        have j0 := g0 k (by omega)
        have j1 := g1 (dg q r k) (by omega)
        rw [if_pos c]
        simp (disch := first | assumption | exact bI_or _ | exact zOK_O hz (by decide) (by decide) rfl | exact zOK_T hz (by decide) (by decide) rfl | (refine ix (zOK_l hz (by decide) (by decide) rfl) ?_; omega) | decide | omega) only [eX11_moved_150, eX11_moved_152, eX11_moved_155, eX11_moved_157, eX11_moved_159, eX11_moved_160, eX11_moved_162, eX11_moved_164, eX11_moved_166, eX11_moved_167, eX11_moved_169, eX11_moved_171, eX11_moved_173, eX11_moved_175, eX11_moved_176, eX11_moved_177, eX11_moved_178, eX11_moved_179, eX11_moved_182, eX11_moved_185, eX11_moved_188, eX11_moved_190, eX11_moved_192, eX11_moved_195, eX11_moved_196, eX11_moved_197, eX11_moved_200, eX11_moved_202, eX11_moved_203, eX11_moved_204, eX11_moved_207, eX11_moved_209, eX11_moved_210, eX11_moved_213, eX11_moved_216, eX11_moved_217, eX11_moved_218, eX11_moved_221, eX11_moved_223, eX11_moved_224, eX11_moved_225, eX11_moved_228, eX11_moved_230, eX11_moved_231, eX11_moved_234, eX11_moved_235, eX11_moved_237, eX11_moved_239, eX11_moved_240, eX11_moved_242, eX11_moved_243, eX11_moved_244, eX11_moved_246, eX11_moved_249, Int.cast_ofNat_Int, Nat.reduceLT, Nat.reduceLeDiff, Nat.reduceEqDiff, Nat.reduceAdd, Nat.reduceMul, Int.reduceLE, Int.reduceLT, Int.reduceEq, not_false_iff, nlr, Nat.zero_add, Nat.add_zero, e10f, e01f, eq_self, true_and, and_true, false_and, and_false, and_self, decide_true, decide_false, mm_bd_i, mm_bd_v, if_true, if_false, not_true_eq_false, not_false_eq_true, nI_1, Bool.true_eq_false, Bool.false_eq_true, bI_0, n_le0, n_0lt, n_lt0, n_0le, n_eq0, n_eqm, n_eq1, n_le1, n_1lt, n_1le, n_lt1, nn_le, nI_ltI, nI_eq, nI_clamp, nI_add, pk_mul, i_eq0, i_eqm, i_0le, i_le0, i_0lt, i_lt0, i_mle, i_ltm, ii_le, iI_lt, iI_eq, ni_le, ni_lt, ni_eq, in_le, in_lt, in_eq, ni_add, in_add, ni_sub, in_sub, ni_mul, in_mul, iI_add, iI_sub, iI_mul, i_p1, iI_neg, n_neg, hk, dv, rm, rm', tb, bI_f, sp, oi, c, fM_34 hF, fM_35 hF, j0, j1, ap']
        try rfl
      · have ap' := fun d' v => rM_apart d' z F I L v (A (dg q r k)) (B k) (hA _) (hB _)
        have j0 := g0 (dg q r k) (by omega)
        have j1 := g1 k (by omega)
        rw [if_neg c]
        simp (disch := first | assumption | exact bI_or _ | exact zOK_O hz (by decide) (by decide) rfl | exact zOK_T hz (by decide) (by decide) rfl | (refine ix (zOK_l hz (by decide) (by decide) rfl) ?_; omega) | decide | omega) only [eX11_moved_150, eX11_moved_152, eX11_moved_155, eX11_moved_157, eX11_moved_159, eX11_moved_160, eX11_moved_162, eX11_moved_164, eX11_moved_166, eX11_moved_167, eX11_moved_169, eX11_moved_171, eX11_moved_173, eX11_moved_175, eX11_moved_176, eX11_moved_177, eX11_moved_178, eX11_moved_179, eX11_moved_182, eX11_moved_185, eX11_moved_188, eX11_moved_190, eX11_moved_192, eX11_moved_195, eX11_moved_196, eX11_moved_197, eX11_moved_200, eX11_moved_202, eX11_moved_203, eX11_moved_204, eX11_moved_207, eX11_moved_209, eX11_moved_210, eX11_moved_213, eX11_moved_216, eX11_moved_217, eX11_moved_218, eX11_moved_221, eX11_moved_223, eX11_moved_224, eX11_moved_225, eX11_moved_228, eX11_moved_230, eX11_moved_231, eX11_moved_234, eX11_moved_235, eX11_moved_237, eX11_moved_239, eX11_moved_240, eX11_moved_242, eX11_moved_243, eX11_moved_244, eX11_moved_246, eX11_moved_249, Int.cast_ofNat_Int, Nat.reduceLT, Nat.reduceLeDiff, Nat.reduceEqDiff, Nat.reduceAdd, Nat.reduceMul, Int.reduceLE, Int.reduceLT, Int.reduceEq, not_false_iff, nlr, Nat.zero_add, Nat.add_zero, e10f, e01f, eq_self, true_and, and_true, false_and, and_false, and_self, decide_true, decide_false, mm_bd_i, mm_bd_v, if_true, if_false, not_true_eq_false, not_false_eq_true, nI_1, Bool.true_eq_false, Bool.false_eq_true, bI_0, n_le0, n_0lt, n_lt0, n_0le, n_eq0, n_eqm, n_eq1, n_le1, n_1lt, n_1le, n_lt1, nn_le, nI_ltI, nI_eq, nI_clamp, nI_add, pk_mul, i_eq0, i_eqm, i_0le, i_le0, i_0lt, i_lt0, i_mle, i_ltm, ii_le, iI_lt, iI_eq, ni_le, ni_lt, ni_eq, in_le, in_lt, in_eq, ni_add, in_add, ni_sub, in_sub, ni_mul, in_mul, iI_add, iI_sub, iI_mul, i_p1, iI_neg, n_neg, hk, dv, rm, rm', tb, bI_f, sp, oi, c, fM_34 hF, fM_35 hF, j0, j1, ap']
        try rfl
theorem rM_mv (d : Nat) (z : mm_Z) (F : Nat → Nat → Value) (I : Nat → Nat → Int32) (L : Nat → Nat → Int64) (hz : zOK z) (hF : FixM F) (p q : Nat) (h6 : q ≤ 6) (hpq : p ≤ q) (A B : Nat → Nat) (hA : ∀ i, A i < 64) (hB : ∀ i, B i < 64) (na nb : Nat) (e0 : (na < nb ∧ p = na ∧ q = nb) ∨ (¬ na < nb ∧ p = nb ∧ q = na)) (g0 : ∀ i, i < na → I 137 i = nI (A i)) (g1 : ∀ i, i < nb → I 138 i = nI (B i)) (D : Nat → Nat → Nat) (hD : ∀ i j, D i j = if na < nb then dst (A i) (B j) else dst (A j) (B i)) (a1 a2 a3 a10 a11 a12 a13 a14 a15 : Value) : ∃ v, mm_E (d + 1) mX11_moved 94 [.ref 120, a1, a2, a3, .int (nI na), .int (nI nb), .int (nI p), .int (nI q), uu, uu, a10, a11, a12, a13, a14, a15] [] (z, F, I, L) = some (some (.int (nI v)), (z, F, I, L)) ∧ ltP p q D v := by
  have pl := pw6 h6 hpq
  have hd14 : ∀ i j, D i j ≤ 14 := fun i j => by rw [hD]; split <;> exact dst_le (by first | exact hA _ | exact hB _) (by first | exact hA _ | exact hB _)
  have pw : ∀ k, k ≤ p → q ^ k ≤ 46656 := fun k hk => pw6 h6 (by omega)
  have l1 : ∀ k, k ≤ p → mm_E (d + 1) mX11_moved 100 [.ref 120, a1, a2, a3, .int (nI na), .int (nI nb), .int (nI p), .int (nI q), .int (nI (q ^ k)), .int (nI k), a10, a11, a12, a13, a14, a15] [] (z, F, I, L) = mm_E (d + 1) mX11_moved 128 [.ref 120, a1, a2, a3, .int (nI na), .int (nI nb), .int (nI p), .int (nI q), .int (nI (q ^ p)), .int (nI 100000), .int (nI 0), a11, a12, a13, a14, a15] [] (z, F, I, L) := by
    apply lp
    · rw [eX11_moved_100, ← bigN]
      simp (disch := first | assumption | exact bI_or _ | exact zOK_O hz (by decide) (by decide) rfl | exact zOK_T hz (by decide) (by decide) rfl | (refine ix (zOK_l hz (by decide) (by decide) rfl) ?_; omega) | decide | omega) only [eX11_moved_102, eX11_moved_104, eX11_moved_107, eX11_moved_109, eX11_moved_111, eX11_moved_112, eX11_moved_114, eX11_moved_117, eX11_moved_120, eX11_moved_123, eX11_moved_125, eX11_moved_126, Int.cast_ofNat_Int, Nat.reduceLT, Nat.reduceLeDiff, Nat.reduceEqDiff, Nat.reduceAdd, Nat.reduceMul, Int.reduceLE, Int.reduceLT, Int.reduceEq, not_false_iff, nlr, Nat.zero_add, Nat.add_zero, e10f, e01f, eq_self, true_and, and_true, false_and, and_false, and_self, decide_true, decide_false, mm_bd_i, mm_bd_v, if_true, if_false, not_true_eq_false, not_false_eq_true, nI_1, Bool.true_eq_false, Bool.false_eq_true, bI_0, n_le0, n_0lt, n_lt0, n_0le, n_eq0, n_eqm, n_eq1, n_le1, n_1lt, n_1le, n_lt1, nn_le, nI_ltI, nI_eq, nI_clamp, nI_add, pk_mul, i_eq0, i_eqm, i_0le, i_le0, i_0lt, i_lt0, i_mle, i_ltm, ii_le, iI_lt, iI_eq, ni_le, ni_lt, ni_eq, in_le, in_lt, in_eq, ni_add, in_add, ni_sub, in_sub, ni_mul, in_mul, iI_add, iI_sub, iI_mul, i_p1, iI_neg, n_neg]
      rfl
    · intro k hk ih
      rw [← ih, eX11_moved_100, Nat.pow_succ]
      simp (disch := first | assumption | exact bI_or _ | exact zOK_O hz (by decide) (by decide) rfl | exact zOK_T hz (by decide) (by decide) rfl | (refine ix (zOK_l hz (by decide) (by decide) rfl) ?_; omega) | decide | omega) only [eX11_moved_102, eX11_moved_104, eX11_moved_107, eX11_moved_109, eX11_moved_111, eX11_moved_112, eX11_moved_114, eX11_moved_117, Int.cast_ofNat_Int, Nat.reduceLT, Nat.reduceLeDiff, Nat.reduceEqDiff, Nat.reduceAdd, Nat.reduceMul, Int.reduceLE, Int.reduceLT, Int.reduceEq, not_false_iff, nlr, Nat.zero_add, Nat.add_zero, e10f, e01f, eq_self, true_and, and_true, false_and, and_false, and_self, decide_true, decide_false, mm_bd_i, mm_bd_v, if_true, if_false, not_true_eq_false, not_false_eq_true, nI_1, Bool.true_eq_false, Bool.false_eq_true, bI_0, n_le0, n_0lt, n_lt0, n_0le, n_eq0, n_eqm, n_eq1, n_le1, n_1lt, n_1le, n_lt1, nn_le, nI_ltI, nI_eq, nI_clamp, nI_add, pk_mul, i_eq0, i_eqm, i_0le, i_le0, i_0lt, i_lt0, i_mle, i_ltm, ii_le, iI_lt, iI_eq, ni_le, ni_lt, ni_eq, in_le, in_lt, in_eq, ni_add, in_add, ni_sub, in_sub, ni_mul, in_mul, iI_add, iI_sub, iI_mul, i_p1, iI_neg, n_neg, hk]
  have l2 : ∀ r, r ≤ q ^ p → ∀ (b : Nat) (a11 a12 a13 a14 a15 : Value), okMR p q D r b → ∃ v, mm_E (d + 1) mX11_moved 128 [.ref 120, a1, a2, a3, .int (nI na), .int (nI nb), .int (nI p), .int (nI q), .int (nI (q ^ p)), .int (nI b), .int (nI r), a11, a12, a13, a14, a15] [] (z, F, I, L) = some (some (.int (nI v)), (z, F, I, L)) ∧ ltP p q D v := by
    apply lp
    · intro b a11 a12 a13 a14 a15 hR
      refine ⟨b, ?_, okMR_end hpq h6 hd14 hR⟩
      rw [eX11_moved_128]
      simp (disch := first | assumption | exact bI_or _ | exact zOK_O hz (by decide) (by decide) rfl | exact zOK_T hz (by decide) (by decide) rfl | (refine ix (zOK_l hz (by decide) (by decide) rfl) ?_; omega) | decide | omega) only [eX11_moved_130, eX11_moved_132, eX11_moved_135, eX11_moved_137, eX11_moved_139, eX11_moved_140, eX11_moved_142, eX11_moved_143, eX11_moved_145, eX11_moved_146, eX11_moved_252, eX11_moved_254, eX11_moved_256, eX11_moved_259, eX11_moved_261, eX11_moved_264, eX11_moved_266, eX11_moved_268, eX11_moved_271, eX11_moved_274, eX11_moved_276, Int.cast_ofNat_Int, Nat.reduceLT, Nat.reduceLeDiff, Nat.reduceEqDiff, Nat.reduceAdd, Nat.reduceMul, Int.reduceLE, Int.reduceLT, Int.reduceEq, not_false_iff, nlr, Nat.zero_add, Nat.add_zero, e10f, e01f, eq_self, true_and, and_true, false_and, and_false, and_self, decide_true, decide_false, mm_bd_i, mm_bd_v, if_true, if_false, not_true_eq_false, not_false_eq_true, nI_1, Bool.true_eq_false, Bool.false_eq_true, bI_0, n_le0, n_0lt, n_lt0, n_0le, n_eq0, n_eqm, n_eq1, n_le1, n_1lt, n_1le, n_lt1, nn_le, nI_ltI, nI_eq, nI_clamp, nI_add, pk_mul, i_eq0, i_eqm, i_0le, i_le0, i_0lt, i_lt0, i_mle, i_ltm, ii_le, iI_lt, iI_eq, ni_le, ni_lt, ni_eq, in_le, in_lt, in_eq, ni_add, in_add, ni_sub, in_sub, ni_mul, in_mul, iI_add, iI_sub, iI_mul, i_p1, iI_neg, n_neg]
    · intro r hr ih b a11 a12 a13 a14 a15 hR
      have bl := hR.1
      obtain ⟨a15', s', y1, y2⟩ := rM_mv_in d z F I L hz hF p q h6 hpq A B hA hB na nb e0 g0 g1 D hD a1 a2 a3 (.int (nI (q ^ p))) b r hr 0 (by omega) 0 a15 (okS_0 q D r)
      have s3 := y2.2.2
      obtain ⟨v, v1, v2⟩ := ih (if s' < b then s' else b) (.int (nI (r / q ^ p))) (.int (nI (uOf (dg q r) p))) (.int (nI s')) (.int (nI p)) a15' (okMR_step hR y2)
      refine ⟨v, ?_, v2⟩
      have y1' : mm_E (d + 1) mX11_moved 128 [.ref 120, a1, a2, a3, .int (nI na), .int (nI nb), .int (nI p), .int (nI q), .int (nI (q ^ p)), .int (nI b), .int (nI r), a11, a12, a13, a14, a15] [] (z, F, I, L) = mm_E (d + 1) mX11_moved 148 [.ref 120, a1, a2, a3, .int (nI na), .int (nI nb), .int (nI p), .int (nI q), .int (nI (q ^ p)), .int (nI b), .int (nI r), .int (nI (r / q ^ 0)), .int (nI (uOf (dg q r) 0)), .int (nI 0), .int (nI 0), a15] [] (z, F, I, L) := by
        rw [eX11_moved_128, Nat.pow_zero, Nat.div_one, uOf]
        simp (disch := first | assumption | exact bI_or _ | exact zOK_O hz (by decide) (by decide) rfl | exact zOK_T hz (by decide) (by decide) rfl | (refine ix (zOK_l hz (by decide) (by decide) rfl) ?_; omega) | decide | omega) only [eX11_moved_130, eX11_moved_132, eX11_moved_135, eX11_moved_137, eX11_moved_139, eX11_moved_140, eX11_moved_142, eX11_moved_143, eX11_moved_145, eX11_moved_146, Int.cast_ofNat_Int, Nat.reduceLT, Nat.reduceLeDiff, Nat.reduceEqDiff, Nat.reduceAdd, Nat.reduceMul, Int.reduceLE, Int.reduceLT, Int.reduceEq, not_false_iff, nlr, Nat.zero_add, Nat.add_zero, e10f, e01f, eq_self, true_and, and_true, false_and, and_false, and_self, decide_true, decide_false, mm_bd_i, mm_bd_v, if_true, if_false, not_true_eq_false, not_false_eq_true, nI_1, Bool.true_eq_false, Bool.false_eq_true, bI_0, n_le0, n_0lt, n_lt0, n_0le, n_eq0, n_eqm, n_eq1, n_le1, n_1lt, n_1le, n_lt1, nn_le, nI_ltI, nI_eq, nI_clamp, nI_add, pk_mul, i_eq0, i_eqm, i_0le, i_le0, i_0lt, i_lt0, i_mle, i_ltm, ii_le, iI_lt, iI_eq, ni_le, ni_lt, ni_eq, in_le, in_lt, in_eq, ni_add, in_add, ni_sub, in_sub, ni_mul, in_mul, iI_add, iI_sub, iI_mul, i_p1, iI_neg, n_neg, hr]
        rfl
      rw [y1', y1, ← v1]
      by_cases c : s' < b
      · rw [if_pos c]
        simp (disch := first | assumption | exact bI_or _ | exact zOK_O hz (by decide) (by decide) rfl | exact zOK_T hz (by decide) (by decide) rfl | (refine ix (zOK_l hz (by decide) (by decide) rfl) ?_; omega) | decide | omega) only [eX11_moved_252, eX11_moved_254, eX11_moved_256, eX11_moved_259, eX11_moved_261, eX11_moved_264, eX11_moved_266, eX11_moved_268, eX11_moved_271, Int.cast_ofNat_Int, Nat.reduceLT, Nat.reduceLeDiff, Nat.reduceEqDiff, Nat.reduceAdd, Nat.reduceMul, Int.reduceLE, Int.reduceLT, Int.reduceEq, not_false_iff, nlr, Nat.zero_add, Nat.add_zero, e10f, e01f, eq_self, true_and, and_true, false_and, and_false, and_self, decide_true, decide_false, mm_bd_i, mm_bd_v, if_true, if_false, not_true_eq_false, not_false_eq_true, nI_1, Bool.true_eq_false, Bool.false_eq_true, bI_0, n_le0, n_0lt, n_lt0, n_0le, n_eq0, n_eqm, n_eq1, n_le1, n_1lt, n_1le, n_lt1, nn_le, nI_ltI, nI_eq, nI_clamp, nI_add, pk_mul, i_eq0, i_eqm, i_0le, i_le0, i_0lt, i_lt0, i_mle, i_ltm, ii_le, iI_lt, iI_eq, ni_le, ni_lt, ni_eq, in_le, in_lt, in_eq, ni_add, in_add, ni_sub, in_sub, ni_mul, in_mul, iI_add, iI_sub, iI_mul, i_p1, iI_neg, n_neg, c]
      · rw [if_neg c]
        simp (disch := first | assumption | exact bI_or _ | exact zOK_O hz (by decide) (by decide) rfl | exact zOK_T hz (by decide) (by decide) rfl | (refine ix (zOK_l hz (by decide) (by decide) rfl) ?_; omega) | decide | omega) only [eX11_moved_252, eX11_moved_254, eX11_moved_256, eX11_moved_259, eX11_moved_261, eX11_moved_264, eX11_moved_266, eX11_moved_268, eX11_moved_271, Int.cast_ofNat_Int, Nat.reduceLT, Nat.reduceLeDiff, Nat.reduceEqDiff, Nat.reduceAdd, Nat.reduceMul, Int.reduceLE, Int.reduceLT, Int.reduceEq, not_false_iff, nlr, Nat.zero_add, Nat.add_zero, e10f, e01f, eq_self, true_and, and_true, false_and, and_false, and_self, decide_true, decide_false, mm_bd_i, mm_bd_v, if_true, if_false, not_true_eq_false, not_false_eq_true, nI_1, Bool.true_eq_false, Bool.false_eq_true, bI_0, n_le0, n_0lt, n_lt0, n_0le, n_eq0, n_eqm, n_eq1, n_le1, n_1lt, n_1le, n_lt1, nn_le, nI_ltI, nI_eq, nI_clamp, nI_add, pk_mul, i_eq0, i_eqm, i_0le, i_le0, i_0lt, i_lt0, i_mle, i_ltm, ii_le, iI_lt, iI_eq, ni_le, ni_lt, ni_eq, in_le, in_lt, in_eq, ni_add, in_add, ni_sub, in_sub, ni_mul, in_mul, iI_add, iI_sub, iI_mul, i_p1, iI_neg, n_neg, c]
  obtain ⟨v, v1, v2⟩ := l2 0 (by omega) 100000 a11 a12 a13 a14 a15 (okMR_0 p q D)
  refine ⟨v, ?_, v2⟩
  rw [← v1, ← l1 0 (by omega), Nat.pow_zero]
  simp (disch := first | assumption | exact bI_or _ | exact zOK_O hz (by decide) (by decide) rfl | exact zOK_T hz (by decide) (by decide) rfl | (refine ix (zOK_l hz (by decide) (by decide) rfl) ?_; omega) | decide | omega) only [eX11_moved_94, eX11_moved_95, eX11_moved_97, eX11_moved_98, Int.cast_ofNat_Int, Nat.reduceLT, Nat.reduceLeDiff, Nat.reduceEqDiff, Nat.reduceAdd, Nat.reduceMul, Int.reduceLE, Int.reduceLT, Int.reduceEq, not_false_iff, nlr, Nat.zero_add, Nat.add_zero, e10f, e01f, eq_self, true_and, and_true, false_and, and_false, and_self, decide_true, decide_false, mm_bd_i, mm_bd_v, if_true, if_false, not_true_eq_false, not_false_eq_true, nI_1, Bool.true_eq_false, Bool.false_eq_true, bI_0, n_le0, n_0lt, n_lt0, n_0le, n_eq0, n_eqm, n_eq1, n_le1, n_1lt, n_1le, n_lt1, nn_le, nI_ltI, nI_eq, nI_clamp, nI_add, pk_mul, i_eq0, i_eqm, i_0le, i_le0, i_0lt, i_lt0, i_mle, i_ltm, ii_le, iI_lt, iI_eq, ni_le, ni_lt, ni_eq, in_le, in_lt, in_eq, ni_add, in_add, ni_sub, in_sub, ni_mul, in_mul, iI_add, iI_sub, iI_mul, i_p1, iI_neg, n_neg]
  rfl
theorem rM_moved_unk (d : Nat) (z : mm_Z) (F : Nat → Nat → Value) (I : Nat → Nat → Int32) (L : Nat → Nat → Int64) (x y w : Int32) (h : ¬ ((0 ≤ x.toInt ∧ x.toInt ≤ 2) ∧ (0 ≤ y.toInt ∧ y.toInt ≤ 2))) : mm_E (d + 2) mX11_moved 0 [.ref 120, .int x, .int y, .int w, uu, uu, uu, uu, uu, uu, uu, uu, uu, uu, uu, uu] [] (z, F, I, L) = some (some (.int (-2)), (z, F, I, L)) := by
  by_cases c1 : 0 ≤ x.toInt ∧ x.toInt ≤ 2
  · have c2 : ¬ (0 ≤ y.toInt ∧ y.toInt ≤ 2) := fun q => h ⟨c1, q⟩
    simp (disch := first | assumption | exact bI_or _ | exact zOK_O hz (by decide) (by decide) rfl | exact zOK_T hz (by decide) (by decide) rfl | (refine ix (zOK_l hz (by decide) (by decide) rfl) ?_; omega) | decide | omega) only [eX11_moved_0, eX11_moved_1, eX11_moved_4, eX11_moved_7, eX11_moved_8, eX11_moved_11, eX11_moved_14, eX11_moved_16, eX11_moved_17, eX11_moved_18, eX11_moved_19, eX11_moved_20, eX11_moved_23, eX11_moved_26, eX11_moved_28, Int.cast_ofNat_Int, Nat.reduceLT, Nat.reduceLeDiff, Nat.reduceEqDiff, Nat.reduceAdd, Nat.reduceMul, Int.reduceLE, Int.reduceLT, Int.reduceEq, not_false_iff, nlr, Nat.zero_add, Nat.add_zero, e10f, e01f, eq_self, true_and, and_true, false_and, and_false, and_self, decide_true, decide_false, mm_bd_i, mm_bd_v, if_true, if_false, not_true_eq_false, not_false_eq_true, nI_1, Bool.true_eq_false, Bool.false_eq_true, bI_0, n_le0, n_0lt, n_lt0, n_0le, n_eq0, n_eqm, n_eq1, n_le1, n_1lt, n_1le, n_lt1, nn_le, nI_ltI, nI_eq, nI_clamp, nI_add, pk_mul, i_eq0, i_eqm, i_0le, i_le0, i_0lt, i_lt0, i_mle, i_ltm, ii_le, iI_lt, iI_eq, ni_le, ni_lt, ni_eq, in_le, in_lt, in_eq, ni_add, in_add, ni_sub, in_sub, ni_mul, in_mul, iI_add, iI_sub, iI_mul, i_p1, iI_neg, n_neg, rM_isCatch, c1, c2]
  · simp (disch := first | assumption | exact bI_or _ | exact zOK_O hz (by decide) (by decide) rfl | exact zOK_T hz (by decide) (by decide) rfl | (refine ix (zOK_l hz (by decide) (by decide) rfl) ?_; omega) | decide | omega) only [eX11_moved_0, eX11_moved_1, eX11_moved_4, eX11_moved_7, eX11_moved_8, eX11_moved_11, eX11_moved_14, eX11_moved_16, eX11_moved_17, eX11_moved_18, eX11_moved_19, eX11_moved_20, eX11_moved_23, eX11_moved_26, eX11_moved_28, Int.cast_ofNat_Int, Nat.reduceLT, Nat.reduceLeDiff, Nat.reduceEqDiff, Nat.reduceAdd, Nat.reduceMul, Int.reduceLE, Int.reduceLT, Int.reduceEq, not_false_iff, nlr, Nat.zero_add, Nat.add_zero, e10f, e01f, eq_self, true_and, and_true, false_and, and_false, and_self, decide_true, decide_false, mm_bd_i, mm_bd_v, if_true, if_false, not_true_eq_false, not_false_eq_true, nI_1, Bool.true_eq_false, Bool.false_eq_true, bI_0, n_le0, n_0lt, n_lt0, n_0le, n_eq0, n_eqm, n_eq1, n_le1, n_1lt, n_1le, n_lt1, nn_le, nI_ltI, nI_eq, nI_clamp, nI_add, pk_mul, i_eq0, i_eqm, i_0le, i_le0, i_0lt, i_lt0, i_mle, i_ltm, ii_le, iI_lt, iI_eq, ni_le, ni_lt, ni_eq, in_le, in_lt, in_eq, ni_add, in_add, ni_sub, in_sub, ni_mul, in_mul, iI_add, iI_sub, iI_mul, i_p1, iI_neg, n_neg, rM_isCatch, c1]
theorem rM_moved_out (d : Nat) (z : mm_Z) (F : Nat → Nat → Value) (I : Nat → Nat → Int32) (L : Nat → Nat → Int64) (x y w : Int32) (c1 : 0 ≤ x.toInt ∧ x.toInt ≤ 2) (c2 : 0 ≤ y.toInt ∧ y.toInt ≤ 2) (c3 : ¬ (0 ≤ w.toInt ∧ w.toInt ≤ 1)) : mm_E (d + 2) mX11_moved 0 [.ref 120, .int x, .int y, .int w, uu, uu, uu, uu, uu, uu, uu, uu, uu, uu, uu, uu] [] (z, F, I, L) = some (some (.int (-3)), (z, F, I, L)) := by
  simp (disch := first | assumption | exact bI_or _ | exact zOK_O hz (by decide) (by decide) rfl | exact zOK_T hz (by decide) (by decide) rfl | (refine ix (zOK_l hz (by decide) (by decide) rfl) ?_; omega) | decide | omega) only [eX11_moved_0, eX11_moved_1, eX11_moved_4, eX11_moved_7, eX11_moved_8, eX11_moved_11, eX11_moved_14, eX11_moved_16, eX11_moved_17, eX11_moved_18, eX11_moved_19, eX11_moved_20, eX11_moved_23, eX11_moved_26, eX11_moved_28, Int.cast_ofNat_Int, Nat.reduceLT, Nat.reduceLeDiff, Nat.reduceEqDiff, Nat.reduceAdd, Nat.reduceMul, Int.reduceLE, Int.reduceLT, Int.reduceEq, not_false_iff, nlr, Nat.zero_add, Nat.add_zero, e10f, e01f, eq_self, true_and, and_true, false_and, and_false, and_self, decide_true, decide_false, mm_bd_i, mm_bd_v, if_true, if_false, not_true_eq_false, not_false_eq_true, nI_1, Bool.true_eq_false, Bool.false_eq_true, bI_0, n_le0, n_0lt, n_lt0, n_0le, n_eq0, n_eqm, n_eq1, n_le1, n_1lt, n_1le, n_lt1, nn_le, nI_ltI, nI_eq, nI_clamp, nI_add, pk_mul, i_eq0, i_eqm, i_0le, i_le0, i_0lt, i_lt0, i_mle, i_ltm, ii_le, iI_lt, iI_eq, ni_le, ni_lt, ni_eq, in_le, in_lt, in_eq, ni_add, in_add, ni_sub, in_sub, ni_mul, in_mul, iI_add, iI_sub, iI_mul, i_p1, iI_neg, n_neg, rM_isCatch, rM_in, tI0, tI1, tIm1, tIm7, nI_toInt, iI_toInt, Int.cast_ofNat_Int, c1, c2, c3]
theorem rM_mv_l (d : Nat) (z : mm_Z) (F : Nat → Nat → Value) (I : Nat → Nat → Int32) (L : Nat → Nat → Int64) (hz : zOK z) (hF : FixM F) (ca : Nat → Nat → Nat) (ok : okC ca) (hc : rCt ca I) (i j : Nat) (hi : i < 3) (hj : j < 3) (w : Nat) (hw : w ≤ 1) : ∃ I', mm_E (d + 2) mX11_moved 0 [.ref 120, .int (nI i), .int (nI j), .int (nI w), uu, uu, uu, uu, uu, uu, uu, uu, uu, uu, uu, uu] [] (z, F, I, L) = mm_E (d + 2) mX11_moved 55 [.ref 120, .int (nI i), .int (nI j), .int (nI w), .int (nI (mvA ca i j 0).length), .int (nI (mvA ca i j 1).length), uu, uu, uu, uu, uu, uu, uu, uu, uu, uu] [] (z, F, I', L) ∧ (∀ x, x < (mvA ca i j 0).length → I' 137 x = nI (lsA (chB ca i j 0) x)) ∧ (∀ x, x < (mvA ca i j 1).length → I' 138 x = nI (lsA (chB ca i j 1) x)) ∧ ∀ x, ¬ x = 137 → ¬ x = 138 → I' x = I x := by
  obtain ⟨I1, a1, a2, a3⟩ := rM_gather d z F I L hz hF ca ok hc i j 0 hi hj (by decide) 137 (Or.inl rfl)
  obtain ⟨I2, b1, b2, b3⟩ := rM_gather d z F I1 L hz hF ca ok (fun k hk a ha => by rw [a3 136 (by decide)]; exact hc k hk a ha) i j 1 hi hj (by decide) 138 (Or.inr rfl)
  refine ⟨I2, ?_, fun x hx => by rw [b3 137 (by decide)]; exact a2 x hx, b2, fun x x1 x2 => by rw [b3 x x2, a3 x x1]⟩
  have q1 : 0 ≤ (i : Int) ∧ (i : Int) ≤ 2 := by omega
  have q2 : 0 ≤ (j : Int) ∧ (j : Int) ≤ 2 := by omega
  have q3 : 0 ≤ (w : Int) ∧ (w : Int) ≤ 1 := by omega
  simp only [nI_0, ← sh1] at a1 b1
  simp (disch := first | assumption | exact bI_or _ | exact zOK_O hz (by decide) (by decide) rfl | exact zOK_T hz (by decide) (by decide) rfl | (refine ix (zOK_l hz (by decide) (by decide) rfl) ?_; omega) | decide | omega) only [eX11_moved_0, eX11_moved_1, eX11_moved_4, eX11_moved_7, eX11_moved_8, eX11_moved_11, eX11_moved_14, eX11_moved_16, eX11_moved_17, eX11_moved_18, eX11_moved_19, eX11_moved_20, eX11_moved_23, eX11_moved_26, eX11_moved_28, eX11_moved_29, eX11_moved_30, eX11_moved_31, eX11_moved_32, eX11_moved_33, eX11_moved_34, eX11_moved_37, eX11_moved_40, eX11_moved_42, eX11_moved_43, eX11_moved_44, eX11_moved_45, eX11_moved_46, eX11_moved_47, eX11_moved_50, eX11_moved_53, Int.cast_ofNat_Int, Nat.reduceLT, Nat.reduceLeDiff, Nat.reduceEqDiff, Nat.reduceAdd, Nat.reduceMul, Int.reduceLE, Int.reduceLT, Int.reduceEq, not_false_iff, nlr, Nat.zero_add, Nat.add_zero, e10f, e01f, eq_self, true_and, and_true, false_and, and_false, and_self, decide_true, decide_false, mm_bd_i, mm_bd_v, if_true, if_false, not_true_eq_false, not_false_eq_true, nI_1, Bool.true_eq_false, Bool.false_eq_true, bI_0, n_le0, n_0lt, n_lt0, n_0le, n_eq0, n_eqm, n_eq1, n_le1, n_1lt, n_1le, n_lt1, nn_le, nI_ltI, nI_eq, nI_clamp, nI_add, pk_mul, i_eq0, i_eqm, i_0le, i_le0, i_0lt, i_lt0, i_mle, i_ltm, ii_le, iI_lt, iI_eq, ni_le, ni_lt, ni_eq, in_le, in_lt, in_eq, ni_add, in_add, ni_sub, in_sub, ni_mul, in_mul, iI_add, iI_sub, iI_mul, i_p1, iI_neg, n_neg, rM_isCatch, rM_in, tI0, tI1, tIm1, tIm7, nI_toInt, iI_toInt, Int.cast_ofNat_Int, q1, q2, q3, fM_34 hF, fM_35 hF, a1, b1]
theorem rM_moved0 (d : Nat) (z : mm_Z) (F : Nat → Nat → Value) (I : Nat → Nat → Int32) (L : Nat → Nat → Int64) (hz : zOK z) (hF : FixM F) (ca : Nat → Nat → Nat) (ok : okC ca) (hc : rCt ca I) (i j : Nat) (hi : i < 3) (hj : j < 3) : ∃ I', mm_E (d + 2) mX11_moved 0 [.ref 120, .int (nI i), .int (nI j), .int (nI 0), uu, uu, uu, uu, uu, uu, uu, uu, uu, uu, uu, uu] [] (z, F, I, L) = some (some (.int (nI (min (mvA ca i j 0).length (mvA ca i j 1).length))), (z, F, I', L)) ∧ ∀ x, ¬ x = 137 → ¬ x = 138 → I' x = I x := by
  obtain ⟨I', k1, k2, k3, k4⟩ := rM_mv_l d z F I L hz hF ca ok hc i j hi hj 0 (by omega)
  refine ⟨I', ?_, k4⟩
  have l0 : (mvA ca i j 0).length ≤ 6 := lst_len _ _
  have l1 : (mvA ca i j 1).length ≤ 6 := lst_len _ _
  rw [k1, nI_0]
  by_cases c : (mvA ca i j 0).length < (mvA ca i j 1).length
  · rw [Nat.min_eq_left (by omega)]
    simp (disch := first | assumption | exact bI_or _ | exact zOK_O hz (by decide) (by decide) rfl | exact zOK_T hz (by decide) (by decide) rfl | (refine ix (zOK_l hz (by decide) (by decide) rfl) ?_; omega) | decide | omega) only [eX11_moved_55, eX11_moved_57, eX11_moved_59, eX11_moved_62, eX11_moved_64, eX11_moved_67, eX11_moved_69, eX11_moved_71, eX11_moved_72, eX11_moved_75, eX11_moved_77, eX11_moved_78, eX11_moved_80, eX11_moved_82, eX11_moved_85, eX11_moved_87, eX11_moved_90, eX11_moved_92, Int.cast_ofNat_Int, Nat.reduceLT, Nat.reduceLeDiff, Nat.reduceEqDiff, Nat.reduceAdd, Nat.reduceMul, Int.reduceLE, Int.reduceLT, Int.reduceEq, not_false_iff, nlr, Nat.zero_add, Nat.add_zero, e10f, e01f, eq_self, true_and, and_true, false_and, and_false, and_self, decide_true, decide_false, mm_bd_i, mm_bd_v, if_true, if_false, not_true_eq_false, not_false_eq_true, nI_1, Bool.true_eq_false, Bool.false_eq_true, bI_0, n_le0, n_0lt, n_lt0, n_0le, n_eq0, n_eqm, n_eq1, n_le1, n_1lt, n_1le, n_lt1, nn_le, nI_ltI, nI_eq, nI_clamp, nI_add, pk_mul, i_eq0, i_eqm, i_0le, i_le0, i_0lt, i_lt0, i_mle, i_ltm, ii_le, iI_lt, iI_eq, ni_le, ni_lt, ni_eq, in_le, in_lt, in_eq, ni_add, in_add, ni_sub, in_sub, ni_mul, in_mul, iI_add, iI_sub, iI_mul, i_p1, iI_neg, n_neg, c]
  · rw [Nat.min_eq_right (by omega)]
    simp (disch := first | assumption | exact bI_or _ | exact zOK_O hz (by decide) (by decide) rfl | exact zOK_T hz (by decide) (by decide) rfl | (refine ix (zOK_l hz (by decide) (by decide) rfl) ?_; omega) | decide | omega) only [eX11_moved_55, eX11_moved_57, eX11_moved_59, eX11_moved_62, eX11_moved_64, eX11_moved_67, eX11_moved_69, eX11_moved_71, eX11_moved_72, eX11_moved_75, eX11_moved_77, eX11_moved_78, eX11_moved_80, eX11_moved_82, eX11_moved_85, eX11_moved_87, eX11_moved_90, eX11_moved_92, Int.cast_ofNat_Int, Nat.reduceLT, Nat.reduceLeDiff, Nat.reduceEqDiff, Nat.reduceAdd, Nat.reduceMul, Int.reduceLE, Int.reduceLT, Int.reduceEq, not_false_iff, nlr, Nat.zero_add, Nat.add_zero, e10f, e01f, eq_self, true_and, and_true, false_and, and_false, and_self, decide_true, decide_false, mm_bd_i, mm_bd_v, if_true, if_false, not_true_eq_false, not_false_eq_true, nI_1, Bool.true_eq_false, Bool.false_eq_true, bI_0, n_le0, n_0lt, n_lt0, n_0le, n_eq0, n_eqm, n_eq1, n_le1, n_1lt, n_1le, n_lt1, nn_le, nI_ltI, nI_eq, nI_clamp, nI_add, pk_mul, i_eq0, i_eqm, i_0le, i_le0, i_0lt, i_lt0, i_mle, i_ltm, ii_le, iI_lt, iI_eq, ni_le, ni_lt, ni_eq, in_le, in_lt, in_eq, ni_add, in_add, ni_sub, in_sub, ni_mul, in_mul, iI_add, iI_sub, iI_mul, i_p1, iI_neg, n_neg, c]
theorem rM_moved1 (d : Nat) (z : mm_Z) (F : Nat → Nat → Value) (I : Nat → Nat → Int32) (L : Nat → Nat → Int64) (hz : zOK z) (hF : FixM F) (ca : Nat → Nat → Nat) (ok : okC ca) (hc : rCt ca I) (i j : Nat) (hi : i < 3) (hj : j < 3) : ∃ I' v, mm_E (d + 2) mX11_moved 0 [.ref 120, .int (nI i), .int (nI j), .int (nI 1), uu, uu, uu, uu, uu, uu, uu, uu, uu, uu, uu, uu] [] (z, F, I, L) = some (some (.int (nI v)), (z, F, I', L)) ∧ mvP ca i j v ∧ ∀ x, ¬ x = 137 → ¬ x = 138 → I' x = I x := by
  obtain ⟨I', k1, k2, k3, k4⟩ := rM_mv_l d z F I L hz hF ca ok hc i j hi hj 1 (by omega)
  have l0 : (mvA ca i j 0).length ≤ 6 := lst_len _ _
  have l1 : (mvA ca i j 1).length ≤ 6 := lst_len _ _
  by_cases c : (mvA ca i j 0).length < (mvA ca i j 1).length
  · obtain ⟨v, v1, v2⟩ := rM_mv (d + 1) z F I' L hz hF _ _ l1 (by omega) _ _ (lsA_lt (chB ca i j 0)) (lsA_lt (chB ca i j 1)) _ _ (Or.inl ⟨c, rfl, rfl⟩) k2 k3 (fun x y => dst (lsA (chB ca i j 0) x) (lsA (chB ca i j 1) y)) (fun x y => by rw [if_pos c]) (.int (nI i)) (.int (nI j)) (.int 1) uu uu uu uu uu uu
    refine ⟨I', v, ?_, Or.inl ⟨by omega, v2⟩, k4⟩
    rw [k1, ← v1, ← sh1]
    simp (disch := first | assumption | exact bI_or _ | exact zOK_O hz (by decide) (by decide) rfl | exact zOK_T hz (by decide) (by decide) rfl | (refine ix (zOK_l hz (by decide) (by decide) rfl) ?_; omega) | decide | omega) only [eX11_moved_55, eX11_moved_57, eX11_moved_59, eX11_moved_62, eX11_moved_64, eX11_moved_67, eX11_moved_69, eX11_moved_71, eX11_moved_72, eX11_moved_75, eX11_moved_77, eX11_moved_78, eX11_moved_80, eX11_moved_82, eX11_moved_85, eX11_moved_87, eX11_moved_90, eX11_moved_92, Int.cast_ofNat_Int, Nat.reduceLT, Nat.reduceLeDiff, Nat.reduceEqDiff, Nat.reduceAdd, Nat.reduceMul, Int.reduceLE, Int.reduceLT, Int.reduceEq, not_false_iff, nlr, Nat.zero_add, Nat.add_zero, e10f, e01f, eq_self, true_and, and_true, false_and, and_false, and_self, decide_true, decide_false, mm_bd_i, mm_bd_v, if_true, if_false, not_true_eq_false, not_false_eq_true, nI_1, Bool.true_eq_false, Bool.false_eq_true, bI_0, n_le0, n_0lt, n_lt0, n_0le, n_eq0, n_eqm, n_eq1, n_le1, n_1lt, n_1le, n_lt1, nn_le, nI_ltI, nI_eq, nI_clamp, nI_add, pk_mul, i_eq0, i_eqm, i_0le, i_le0, i_0lt, i_lt0, i_mle, i_ltm, ii_le, iI_lt, iI_eq, ni_le, ni_lt, ni_eq, in_le, in_lt, in_eq, ni_add, in_add, ni_sub, in_sub, ni_mul, in_mul, iI_add, iI_sub, iI_mul, i_p1, iI_neg, n_neg, c]
  · obtain ⟨v, v1, v2⟩ := rM_mv (d + 1) z F I' L hz hF _ _ l0 (show (mvA ca i j 1).length ≤ (mvA ca i j 0).length by omega) _ _ (lsA_lt (chB ca i j 0)) (lsA_lt (chB ca i j 1)) _ _ (Or.inr ⟨c, rfl, rfl⟩) k2 k3 (fun x y => dst (lsA (chB ca i j 0) y) (lsA (chB ca i j 1) x)) (fun x y => by rw [if_neg c]) (.int (nI i)) (.int (nI j)) (.int 1) uu uu uu uu uu uu
    refine ⟨I', v, ?_, ?_, k4⟩
    · rw [k1, ← v1, ← sh1]
      simp (disch := first | assumption | exact bI_or _ | exact zOK_O hz (by decide) (by decide) rfl | exact zOK_T hz (by decide) (by decide) rfl | (refine ix (zOK_l hz (by decide) (by decide) rfl) ?_; omega) | decide | omega) only [eX11_moved_55, eX11_moved_57, eX11_moved_59, eX11_moved_62, eX11_moved_64, eX11_moved_67, eX11_moved_69, eX11_moved_71, eX11_moved_72, eX11_moved_75, eX11_moved_77, eX11_moved_78, eX11_moved_80, eX11_moved_82, eX11_moved_85, eX11_moved_87, eX11_moved_90, eX11_moved_92, Int.cast_ofNat_Int, Nat.reduceLT, Nat.reduceLeDiff, Nat.reduceEqDiff, Nat.reduceAdd, Nat.reduceMul, Int.reduceLE, Int.reduceLT, Int.reduceEq, not_false_iff, nlr, Nat.zero_add, Nat.add_zero, e10f, e01f, eq_self, true_and, and_true, false_and, and_false, and_self, decide_true, decide_false, mm_bd_i, mm_bd_v, if_true, if_false, not_true_eq_false, not_false_eq_true, nI_1, Bool.true_eq_false, Bool.false_eq_true, bI_0, n_le0, n_0lt, n_lt0, n_0le, n_eq0, n_eqm, n_eq1, n_le1, n_1lt, n_1le, n_lt1, nn_le, nI_ltI, nI_eq, nI_clamp, nI_add, pk_mul, i_eq0, i_eqm, i_0le, i_le0, i_0lt, i_lt0, i_mle, i_ltm, ii_le, iI_lt, iI_eq, ni_le, ni_lt, ni_eq, in_le, in_lt, in_eq, ni_add, in_add, ni_sub, in_sub, ni_mul, in_mul, iI_add, iI_sub, iI_mul, i_p1, iI_neg, n_neg, c]
    · by_cases e : (mvA ca i j 0).length ≤ (mvA ca i j 1).length
      · have e' : (mvA ca i j 1).length = (mvA ca i j 0).length := by omega
        refine Or.inl ⟨e, ?_⟩
        rw [e'] at v2 ⊢
        exact ltP_swap v2
      · refine Or.inr ⟨e, ?_⟩
        have s : (fun x y => dst (lsA (chB ca i j 0) y) (lsA (chB ca i j 1) x)) = fun x y => dst (lsA (chB ca i j 1) x) (lsA (chB ca i j 0) y) := funext (fun x => funext (fun y => dst_sw _ _))
        rw [s] at v2
        exact v2
