/-! the class: lookAgain, allOf, kindOf, leadTo, hasMarkAt; place, remove -/
/-- what the hall says of hits and beams -/
def cHb (n : Nat) (hs : Nat → List (Int × Int × Nat)) (st : Nat → Option (Nat × Nat)) (F : Nat → Nat → Value) : Prop := ∃ vh vb, F 3 5 = .long vh ∧ F 3 6 = .long vb ∧ (∀ a, a < 64 → lb vh a = exA st (sH hs st) a n) ∧ ∀ a, a < 64 → lb vb a = exU st (sB hs st) a n
theorem kd_b (n : Nat) (hs : Nat → List (Int × Int × Nat)) (st : Nat → Option (Nat × Nat)) (a : Nat) : kd n hs st a = (if exA st (sH hs st) a n = true then 2 else 0) + (if exU st (sB hs st) a n = true then 1 else 0) := rfl
theorem cH_allOf (d : Nat) (z : mm_Z) (F : Nat → Nat → Value) (I : Nat → Nat → Int32) (L : Nat → Nat → Int64) (n : Nat) (hs : Nat → List (Int × Int × Nat)) (st : Nat → Option (Nat × Nat)) (hz : zOK z) (h : cHb n hs st F) (x : Nat) (hx : x < 4) : ∃ v, mm_E d mX1_allOf 0 [.ref 3, .int (nI x)] [] (z, F, I, L) = some (some (.long v), (z, F, I, L)) ∧ ∀ a, a < 64 → lb v a = decide (kd n hs st a = x) := by
  obtain ⟨vh, vb, h5, h6, hh, hb⟩ := h
  have e : x = 0 ∨ x = 1 ∨ x = 2 ∨ x = 3 := by omega
  have n1 : nI 1 = 1 := rfl
  rcases e with rfl | rfl | rfl | rfl
  · refine ⟨(vh ^^^ -1) &&& (vb ^^^ -1), ?_, fun a ha => ?_⟩
    · simp (disch := first | assumption | exact zSw hz (by omega) | exact zSp hz (by omega) | exact zSd hz (by omega) | exact bI_or _ | exact zOK_O hz (by decide) (by decide) rfl | exact zOK_T hz (by decide) (by decide) rfl | (refine ix (zOK_l hz (by decide) (by decide) rfl) ?_; omega) | decide | omega) only [eX1_allOf_0, eX1_allOf_1_0, eX1_allOf_1_1, eX1_allOf_1_2, eX1_allOf_1_3, eX1_allOf_1_o, eX1_allOf_32, eX1_allOf_33, eX1_allOf_36, eX1_allOf_39, eX1_allOf_40, eX1_allOf_41, eX1_allOf_44, eX1_allOf_47, eX1_allOf_48, eX1_allOf_49, eX1_allOf_50, eX1_allOf_51, eX1_allOf_54, eX1_allOf_57, eX1_allOf_58, eX1_allOf_59, eX1_allOf_62, eX1_allOf_63, eX1_allOf_64, eX1_allOf_65, eX1_allOf_68, eX1_allOf_69, eX1_allOf_72, eX1_allOf_75, eX1_allOf_76, eX1_allOf_77, eX1_allOf_78, eX1_allOf_79, eX1_allOf_82, eX1_allOf_83, eX1_allOf_86, eX1_allOf_87, eX1_allOf_88, eX1_allOf_89, h5, h6, nI_0]
    · rw [lb_and, lb_not _ ha, lb_not _ ha, hh a ha, hb a ha, kd_b]
      cases exA st (sH hs st) a n <;> cases exU st (sB hs st) a n <;> rfl
  · refine ⟨(vh ^^^ -1) &&& vb, ?_, fun a ha => ?_⟩
    · simp (disch := first | assumption | exact zSw hz (by omega) | exact zSp hz (by omega) | exact zSd hz (by omega) | exact bI_or _ | exact zOK_O hz (by decide) (by decide) rfl | exact zOK_T hz (by decide) (by decide) rfl | (refine ix (zOK_l hz (by decide) (by decide) rfl) ?_; omega) | decide | omega) only [eX1_allOf_0, eX1_allOf_1_0, eX1_allOf_1_1, eX1_allOf_1_2, eX1_allOf_1_3, eX1_allOf_1_o, eX1_allOf_32, eX1_allOf_33, eX1_allOf_36, eX1_allOf_39, eX1_allOf_40, eX1_allOf_41, eX1_allOf_44, eX1_allOf_47, eX1_allOf_48, eX1_allOf_49, eX1_allOf_50, eX1_allOf_51, eX1_allOf_54, eX1_allOf_57, eX1_allOf_58, eX1_allOf_59, eX1_allOf_62, eX1_allOf_63, eX1_allOf_64, eX1_allOf_65, eX1_allOf_68, eX1_allOf_69, eX1_allOf_72, eX1_allOf_75, eX1_allOf_76, eX1_allOf_77, eX1_allOf_78, eX1_allOf_79, eX1_allOf_82, eX1_allOf_83, eX1_allOf_86, eX1_allOf_87, eX1_allOf_88, eX1_allOf_89, h5, h6, n1]
    · rw [lb_and, lb_not _ ha, hh a ha, hb a ha, kd_b]
      cases exA st (sH hs st) a n <;> cases exU st (sB hs st) a n <;> rfl
  · refine ⟨vh &&& (vb ^^^ -1), ?_, fun a ha => ?_⟩
    · simp (disch := first | assumption | exact zSw hz (by omega) | exact zSp hz (by omega) | exact zSd hz (by omega) | exact bI_or _ | exact zOK_O hz (by decide) (by decide) rfl | exact zOK_T hz (by decide) (by decide) rfl | (refine ix (zOK_l hz (by decide) (by decide) rfl) ?_; omega) | decide | omega) only [eX1_allOf_0, eX1_allOf_1_0, eX1_allOf_1_1, eX1_allOf_1_2, eX1_allOf_1_3, eX1_allOf_1_o, eX1_allOf_32, eX1_allOf_33, eX1_allOf_36, eX1_allOf_39, eX1_allOf_40, eX1_allOf_41, eX1_allOf_44, eX1_allOf_47, eX1_allOf_48, eX1_allOf_49, eX1_allOf_50, eX1_allOf_51, eX1_allOf_54, eX1_allOf_57, eX1_allOf_58, eX1_allOf_59, eX1_allOf_62, eX1_allOf_63, eX1_allOf_64, eX1_allOf_65, eX1_allOf_68, eX1_allOf_69, eX1_allOf_72, eX1_allOf_75, eX1_allOf_76, eX1_allOf_77, eX1_allOf_78, eX1_allOf_79, eX1_allOf_82, eX1_allOf_83, eX1_allOf_86, eX1_allOf_87, eX1_allOf_88, eX1_allOf_89, h5, h6]
    · rw [lb_and, lb_not _ ha, hh a ha, hb a ha, kd_b]
      cases exA st (sH hs st) a n <;> cases exU st (sB hs st) a n <;> rfl
  · refine ⟨vh &&& vb, ?_, fun a ha => ?_⟩
    · simp (disch := first | assumption | exact zSw hz (by omega) | exact zSp hz (by omega) | exact zSd hz (by omega) | exact bI_or _ | exact zOK_O hz (by decide) (by decide) rfl | exact zOK_T hz (by decide) (by decide) rfl | (refine ix (zOK_l hz (by decide) (by decide) rfl) ?_; omega) | decide | omega) only [eX1_allOf_0, eX1_allOf_1_0, eX1_allOf_1_1, eX1_allOf_1_2, eX1_allOf_1_3, eX1_allOf_1_o, eX1_allOf_32, eX1_allOf_33, eX1_allOf_36, eX1_allOf_39, eX1_allOf_40, eX1_allOf_41, eX1_allOf_44, eX1_allOf_47, eX1_allOf_48, eX1_allOf_49, eX1_allOf_50, eX1_allOf_51, eX1_allOf_54, eX1_allOf_57, eX1_allOf_58, eX1_allOf_59, eX1_allOf_62, eX1_allOf_63, eX1_allOf_64, eX1_allOf_65, eX1_allOf_68, eX1_allOf_69, eX1_allOf_72, eX1_allOf_75, eX1_allOf_76, eX1_allOf_77, eX1_allOf_78, eX1_allOf_79, eX1_allOf_82, eX1_allOf_83, eX1_allOf_86, eX1_allOf_87, eX1_allOf_88, eX1_allOf_89, h5, h6]
    · rw [lb_and, hh a ha, hb a ha, kd_b]
      cases exA st (sH hs st) a n <;> cases exU st (sB hs st) a n <;> rfl
theorem cH_allOf_out (d : Nat) (z : mm_Z) (F : Nat → Nat → Value) (I : Nat → Nat → Int32) (L : Nat → Nat → Int64) (x : Int32) (hx : ¬ (0 ≤ x.toInt ∧ x.toInt ≤ 3)) : mm_E d mX1_allOf 0 [.ref 3, .int x] [] (z, F, I, L) = some (some (.long 0), (z, F, I, L)) := by
  have h : x.toInt < 0 ∨ 3 < x.toInt := by omega
  simp (disch := first | assumption | decide) only [eX1_allOf_0, eX1_allOf_1_o, eX1_allOf_88, eX1_allOf_89]
theorem cH_kindOf (d : Nat) (z : mm_Z) (F : Nat → Nat → Value) (I : Nat → Nat → Int32) (L : Nat → Nat → Int64) (n : Nat) (hs : Nat → List (Int × Int × Nat)) (st : Nat → Option (Nat × Nat)) (hz : zOK z) (h : cHb n hs st F) (a : Nat) (ha : a < 64) : mm_E (d + 1) mX1_kindOf 0 [.ref 3, .int (nI a)] [] (z, F, I, L) = some (some (.int (nI (kd n hs st a))), (z, F, I, L)) := by
  obtain ⟨vh, vb, h5, h6, hh, hb⟩ := h
  have b1 := fun d' w => cX_has d' z F I L vh w a ha
  have b2 := fun d' w => cX_has d' z F I L vb w a ha
  rw [hh a ha] at b1
  rw [hb a ha] at b2
  rw [kd_b]
  cases e1 : exA st (sH hs st) a n <;> cases e2 : exU st (sB hs st) a n <;> rw [e1] at b1 <;> rw [e2] at b2 <;> simp (disch := first | assumption | exact zSw hz (by omega) | exact zSp hz (by omega) | exact zSd hz (by omega) | exact bI_or _ | exact zOK_O hz (by decide) (by decide) rfl | exact zOK_T hz (by decide) (by decide) rfl | (refine ix (zOK_l hz (by decide) (by decide) rfl) ?_; omega) | decide | omega) only [eX1_kindOf_0, eX1_kindOf_1, eX1_kindOf_4, eX1_kindOf_5, eX1_kindOf_8, eX1_kindOf_11, eX1_kindOf_12, eX1_kindOf_15, eX1_kindOf_16, eX1_kindOf_17, eX1_kindOf_20, eX1_kindOf_21, eX1_kindOf_24, eX1_kindOf_27, eX1_kindOf_28, eX1_kindOf_31, eX1_kindOf_32, eX1_kindOf_33, Int.cast_ofNat_Int, Nat.reduceLT, Nat.reduceLeDiff, Nat.reduceEqDiff, Nat.reduceAdd, Nat.reduceMul, Int.reduceLE, Int.reduceLT, Int.reduceEq, not_false_iff, nlr, Nat.zero_add, Nat.add_zero, e10f, e01f, eq_self, true_and, and_true, false_and, and_false, and_self, decide_true, decide_false, mm_bd_i, mm_bd_v, if_true, if_false, not_true_eq_false, not_false_eq_true, nI_1, Bool.true_eq_false, Bool.false_eq_true, bI_0, n_le0, n_0lt, n_lt0, n_0le, n_eq0, n_eqm, n_eq1, n_le1, n_1lt, n_1le, n_lt1, nn_le, nI_ltI, nI_eq, nI_clamp, nI_add, pk_mul, i_eq0, i_eqm, i_0le, i_le0, i_0lt, i_lt0, i_mle, i_ltm, ii_le, iI_lt, iI_eq, ni_le, ni_lt, ni_eq, in_le, in_lt, in_eq, ni_add, in_add, ni_sub, in_sub, ni_mul, in_mul, iI_add, iI_sub, iI_mul, i_p1, iI_neg, n_neg, h5, h6, b1, b2] <;> rfl
theorem pLd_fr {r rm c t : Nat} {l : List (Int × Int × Nat)} {F F' : Nat → Nat → Value} {L L' : Nat → Nat → Int64} (h : pLd r rm l c t F L) (hF : F' r = F r) (hL : L' rm = L rm) : pLd r rm l c t F' L' := by
  unfold pLd at *
  rw [hF, hL]
  exact h
/-- the print of a sweep that stands -/
theorem cHp_vw (n : Nat) (hs : Nat → List (Int × Int × Nat)) (st : Nat → Option (Nat × Nat)) {F : Nat → Nat → Value} {L : Nat → Nat → Int64} (w : wOK n hs st) (h0 : cH0 F) (hp : cHp n hs st F L) {s c t : Nat} (hs' : s < n) (e : st s = some (c, t)) : pVw (13 + 6 * s) (14 + 6 * s) (sH hs st s) (sB hs st s) F L := by
  have w8 := w.1
  have q := pVw_of (wOK_okH n hs st w hs') (h0.2 s (by omega)).2.2 (hp s c t hs' e)
  have e1 : sH hs st s = lH (hs s) c t (hs s).length := by funext a; unfold sH; rw [e]
  have e2 : sB hs st s = lB (hs s) c t (hs s).length := by funext a; unfold sB; rw [e]
  rw [e1, e2]
  exact q
theorem cH_look (d : Nat) (z : mm_Z) (F : Nat → Nat → Value) (I : Nat → Nat → Int32) (L : Nat → Nat → Int64) (n : Nat) (hs : Nat → List (Int × Int × Nat)) (st : Nat → Option (Nat × Nat)) (hz : zOK z) (w : wOK n hs st) (h0 : cH0 F) (h : cHs n hs st F I) (hp : cHp n hs st F L) : ∃ F' L', mm_E (d + 4) mX1_lookAgain 0 [.ref 3, uu] [] (z, F, I, L) = some (none, (z, F', I, L')) ∧ cHb n hs st F' ∧ cPn (kd n hs st) F' L' ∧ (∀ x j, ¬ (x = 3 ∧ (j = 5 ∨ j = 6)) → ¬ (x = 7 ∧ 1 ≤ j ∧ j ≤ 3) → F' x j = F x j) ∧ ∀ x, ¬ x = 8 → L' x = L x := by
  have w8 := w.1
  obtain ⟨⟨r0, r1, r2, r3, r4⟩, rs⟩ := h0
  obtain ⟨h3, h4, hA, hB⟩ := h
  have l : ∀ i, i ≤ n → ∀ (F1 : Nat → Nat → Value) (vh vb : Int64), (∀ x j, ¬ (x = 3 ∧ (j = 5 ∨ j = 6)) → F1 x j = F x j) → F1 3 5 = .long vh → F1 3 6 = .long vb → (∀ a, a < 64 → lb vh a = exA st (sH hs st) a i) → (∀ a, a < 64 → lb vb a = exU st (sB hs st) a i) → ∃ F', mm_E (d + 4) mX1_lookAgain 12 [.ref 3, .int (nI i)] [] (z, F1, I, L) = mm_E (d + 4) mX1_lookAgain 80 [.ref 3, .int (nI n)] [] (z, F', I, L) ∧ (∀ x j, ¬ (x = 3 ∧ (j = 5 ∨ j = 6)) → F' x j = F x j) ∧ cHb n hs st F' := by
    apply lp
    · intro F1 vh vb fr g5 g6 gh gb
      refine ⟨F1, ?_, fr, vh, vb, g5, g6, gh, gb⟩
      have q3 : F1 3 3 = .int (nI n) := by rw [fr _ _ (by omega)]; exact h3
      rw [eX1_lookAgain_12]
      simp (disch := first | assumption | exact zSw hz (by omega) | exact zSp hz (by omega) | exact zSd hz (by omega) | exact bI_or _ | exact zOK_O hz (by decide) (by decide) rfl | exact zOK_T hz (by decide) (by decide) rfl | (refine ix (zOK_l hz (by decide) (by decide) rfl) ?_; omega) | decide | omega) only [eX1_lookAgain_13, eX1_lookAgain_14, eX1_lookAgain_17, eX1_lookAgain_20, eX1_lookAgain_21, eX1_lookAgain_24, eX1_lookAgain_25, eX1_lookAgain_26, eX1_lookAgain_29, eX1_lookAgain_32, eX1_lookAgain_33, eX1_lookAgain_34, eX1_lookAgain_37, eX1_lookAgain_38, eX1_lookAgain_41, eX1_lookAgain_42, eX1_lookAgain_43, eX1_lookAgain_46, eX1_lookAgain_49, eX1_lookAgain_50, eX1_lookAgain_53, eX1_lookAgain_54, eX1_lookAgain_55, eX1_lookAgain_58, eX1_lookAgain_59, eX1_lookAgain_62, eX1_lookAgain_63, eX1_lookAgain_64, eX1_lookAgain_67, eX1_lookAgain_70, eX1_lookAgain_71, eX1_lookAgain_74, eX1_lookAgain_77, Int.cast_ofNat_Int, Nat.reduceLT, Nat.reduceLeDiff, Nat.reduceEqDiff, Nat.reduceAdd, Nat.reduceMul, Int.reduceLE, Int.reduceLT, Int.reduceEq, not_false_iff, nlr, Nat.zero_add, Nat.add_zero, e10f, e01f, eq_self, true_and, and_true, false_and, and_false, and_self, decide_true, decide_false, mm_bd_i, mm_bd_v, if_true, if_false, not_true_eq_false, not_false_eq_true, nI_1, Bool.true_eq_false, Bool.false_eq_true, bI_0, n_le0, n_0lt, n_lt0, n_0le, n_eq0, n_eqm, n_eq1, n_le1, n_1lt, n_1le, n_lt1, nn_le, nI_ltI, nI_eq, nI_clamp, nI_add, pk_mul, i_eq0, i_eqm, i_0le, i_le0, i_0lt, i_lt0, i_mle, i_ltm, ii_le, iI_lt, iI_eq, ni_le, ni_lt, ni_eq, in_le, in_lt, in_eq, ni_add, in_add, ni_sub, in_sub, ni_mul, in_mul, iI_add, iI_sub, iI_mul, i_p1, iI_neg, n_neg, q3]
    · intro i hi ih F1 vh vb fr g5 g6 gh gb
      have q3 : F1 3 3 = .int (nI n) := by rw [fr _ _ (by omega)]; exact h3
      have q0 : F1 3 0 = .ref 4 := by rw [fr _ _ (by omega)]; exact r0
      have q4 : F1 4 i = .ref (9 + 6 * i) := by rw [fr _ _ (by omega)]; exact (rs i (by omega)).1
      have qv : mm_rv (F1 4 (nI i).toNatClampNeg) = true := by rw [nI_clamp (by omega), q4]; rfl
      have q5 : F1 (9 + 6 * i) 5 = .int (bI (decide (¬ st i = none))) := by rw [fr _ _ (by omega)]; exact (hA i hi).2.1
      have qp : F1 (9 + 6 * i) 3 = .ref (13 + 6 * i) := by rw [fr _ _ (by omega)]; exact (rs i (by omega)).2.1
      cases e : st i with
      | none =>
        rw [e] at q5
        have x1 : ∀ a, exA st (sH hs st) a (i + 1) = exA st (sH hs st) a i := fun a => by rw [exA, decide_eq_false (fun q => q.1 e), Bool.or_false]
        have x2 : ∀ a, exU st (sB hs st) a (i + 1) = exU st (sB hs st) a i := fun a => by rw [exU, decide_eq_false (fun q => q.1 e), Bool.or_false]
        obtain ⟨F', k1, k2, k3⟩ := ih F1 vh vb fr g5 g6 (fun a ha => by rw [x1]; exact gh a ha) (fun a ha => by rw [x2]; exact gb a ha)
        refine ⟨F', ?_, k2, k3⟩
        have q5' : F1 (9 + 6 * i) 5 = .int (bI false) := by rw [q5]; rfl
        rw [← k1, eX1_lookAgain_12]
        simp (disch := first | assumption | exact zSw hz (by omega) | exact zSp hz (by omega) | exact zSd hz (by omega) | exact bI_or _ | exact zOK_O hz (by decide) (by decide) rfl | exact zOK_T hz (by decide) (by decide) rfl | (refine ix (zOK_l hz (by decide) (by decide) rfl) ?_; omega) | decide | omega) only [eX1_lookAgain_13, eX1_lookAgain_14, eX1_lookAgain_17, eX1_lookAgain_20, eX1_lookAgain_21, eX1_lookAgain_24, eX1_lookAgain_25, eX1_lookAgain_26, eX1_lookAgain_29, eX1_lookAgain_32, eX1_lookAgain_33, eX1_lookAgain_34, eX1_lookAgain_37, eX1_lookAgain_38, eX1_lookAgain_41, eX1_lookAgain_42, eX1_lookAgain_43, eX1_lookAgain_46, eX1_lookAgain_49, eX1_lookAgain_50, eX1_lookAgain_53, eX1_lookAgain_54, eX1_lookAgain_55, eX1_lookAgain_58, eX1_lookAgain_59, eX1_lookAgain_62, eX1_lookAgain_63, eX1_lookAgain_64, eX1_lookAgain_67, eX1_lookAgain_70, eX1_lookAgain_71, eX1_lookAgain_74, eX1_lookAgain_77, Int.cast_ofNat_Int, Nat.reduceLT, Nat.reduceLeDiff, Nat.reduceEqDiff, Nat.reduceAdd, Nat.reduceMul, Int.reduceLE, Int.reduceLT, Int.reduceEq, not_false_iff, nlr, Nat.zero_add, Nat.add_zero, e10f, e01f, eq_self, true_and, and_true, false_and, and_false, and_self, decide_true, decide_false, mm_bd_i, mm_bd_v, if_true, if_false, not_true_eq_false, not_false_eq_true, nI_1, Bool.true_eq_false, Bool.false_eq_true, bI_0, n_le0, n_0lt, n_lt0, n_0le, n_eq0, n_eqm, n_eq1, n_le1, n_1lt, n_1le, n_lt1, nn_le, nI_ltI, nI_eq, nI_clamp, nI_add, pk_mul, i_eq0, i_eqm, i_0le, i_le0, i_0lt, i_lt0, i_mle, i_ltm, ii_le, iI_lt, iI_eq, ni_le, ni_lt, ni_eq, in_le, in_lt, in_eq, ni_add, in_add, ni_sub, in_sub, ni_mul, in_mul, iI_add, iI_sub, iI_mul, i_p1, iI_neg, n_neg, q3, hi, q0, q4, q5']
      | some p =>
        obtain ⟨c, t⟩ := p
        rw [e] at q5
        have q5' : F1 (9 + 6 * i) 5 = .int (bI true) := by rw [q5]; rfl
        have vw := cHp_vw n hs st w ⟨⟨r0, r1, r2, r3, r4⟩, rs⟩ hp hi e
        obtain ⟨v0, ⟨dh, db, sh, p1, p2, p7, ph, pb, pm⟩, p10⟩ := vw
        have p1' : F1 (13 + 6 * i) 1 = .long dh := by rw [fr _ _ (by omega)]; exact p1
        have p2' : F1 (13 + 6 * i) 2 = .long db := by rw [fr _ _ (by omega)]; exact p2
        have p7' : F1 (13 + 6 * i) 7 = .int (nI sh) := by rw [fr _ _ (by omega)]; exact p7
        have ne : ¬ st i = none := by rw [e]; simp
        obtain ⟨F', k1, k2, k3⟩ := ih (mm_up2 (mm_up2 F1 3 5 (.long (vh ||| dh <<< ((nI sh).toInt64 &&& 63)))) 3 6 (.long (vb ||| db <<< ((nI sh).toInt64 &&& 63)))) _ _ (fun x j q => by unfold mm_up2; rw [if_neg (by omega), if_neg (by omega)]; exact fr x j q) (by rw [up_k _ _ _ _ (by decide), up_s]) (up_s _ _ _ _) (fun a ha => by
            rw [lb_or, gh a ha, ph a ha, exA]
            congr 1
            apply decide_eq_decide.mpr
            exact ⟨fun q => ⟨ne, q⟩, fun q => q.2⟩) (fun a ha => by
            rw [lb_or, gb a ha, pb a ha, exU]
            congr 1
            cases q : sB hs st i a with
            | false => exact (decide_eq_false (fun q => absurd q.2 (by simp))).symm
            | true => exact (decide_eq_true ⟨ne, rfl⟩).symm)
        refine ⟨F', ?_, k2, k3⟩
        rw [← k1, eX1_lookAgain_12]
        have u1 : ∀ v, mm_up2 F1 3 5 v 3 0 = .ref 4 := fun v => by rw [up_k _ _ _ _ (by decide)]; exact q0
        have u2 : ∀ v, mm_up2 F1 3 5 v 4 i = .ref (9 + 6 * i) := fun v => by rw [up_r _ _ _ _ (by decide)]; exact q4
        have u3 : ∀ v, mm_up2 F1 3 5 v (9 + 6 * i) 3 = .ref (13 + 6 * i) := fun v => by rw [up_r _ _ _ _ (by omega)]; exact qp
        have u4 : ∀ v, mm_up2 F1 3 5 v (13 + 6 * i) 2 = .long db := fun v => by rw [up_r _ _ _ _ (by omega)]; exact p2'
        have u5 : ∀ v, mm_up2 F1 3 5 v (13 + 6 * i) 7 = .int (nI sh) := fun v => by rw [up_r _ _ _ _ (by omega)]; exact p7'
        have u6 : ∀ v, mm_up2 F1 3 5 v 3 6 = .long vb := fun v => by rw [up_k _ _ _ _ (by decide)]; exact g6
        have uv : ∀ v, mm_rv (mm_up2 F1 3 5 v 4 (nI i).toNatClampNeg) = true := fun v => by rw [nI_clamp (by omega), u2]; rfl
        simp (disch := first | assumption | exact uv _ | first | assumption | exact zSw hz (by omega) | exact zSp hz (by omega) | exact zSd hz (by omega) | exact bI_or _ | exact zOK_O hz (by decide) (by decide) rfl | exact zOK_T hz (by decide) (by decide) rfl | (refine ix (zOK_l hz (by decide) (by decide) rfl) ?_; omega) | decide | omega) only [eX1_lookAgain_13, eX1_lookAgain_14, eX1_lookAgain_17, eX1_lookAgain_20, eX1_lookAgain_21, eX1_lookAgain_24, eX1_lookAgain_25, eX1_lookAgain_26, eX1_lookAgain_29, eX1_lookAgain_32, eX1_lookAgain_33, eX1_lookAgain_34, eX1_lookAgain_37, eX1_lookAgain_38, eX1_lookAgain_41, eX1_lookAgain_42, eX1_lookAgain_43, eX1_lookAgain_46, eX1_lookAgain_49, eX1_lookAgain_50, eX1_lookAgain_53, eX1_lookAgain_54, eX1_lookAgain_55, eX1_lookAgain_58, eX1_lookAgain_59, eX1_lookAgain_62, eX1_lookAgain_63, eX1_lookAgain_64, eX1_lookAgain_67, eX1_lookAgain_70, eX1_lookAgain_71, eX1_lookAgain_74, eX1_lookAgain_77, eX5_hitCells_0, eX5_hitCells_1, eX5_hitCells_4, eX5_hitCells_5, eX5_hitCells_8, eX5_hitCells_9, eX5_beamCells_0, eX5_beamCells_1, eX5_beamCells_4, eX5_beamCells_5, eX5_beamCells_8, eX5_beamCells_9, Int.cast_ofNat_Int, Nat.reduceLT, Nat.reduceLeDiff, Nat.reduceEqDiff, Nat.reduceAdd, Nat.reduceMul, Int.reduceLE, Int.reduceLT, Int.reduceEq, not_false_iff, nlr, Nat.zero_add, Nat.add_zero, e10f, e01f, eq_self, true_and, and_true, false_and, and_false, and_self, decide_true, decide_false, mm_bd_i, mm_bd_v, if_true, if_false, not_true_eq_false, not_false_eq_true, nI_1, Bool.true_eq_false, Bool.false_eq_true, bI_0, n_le0, n_0lt, n_lt0, n_0le, n_eq0, n_eqm, n_eq1, n_le1, n_1lt, n_1le, n_lt1, nn_le, nI_ltI, nI_eq, nI_clamp, nI_add, pk_mul, i_eq0, i_eqm, i_0le, i_le0, i_0lt, i_lt0, i_mle, i_ltm, ii_le, iI_lt, iI_eq, ni_le, ni_lt, ni_eq, in_le, in_lt, in_eq, ni_add, in_add, ni_sub, in_sub, ni_mul, in_mul, iI_add, iI_sub, iI_mul, i_p1, iI_neg, n_neg, q3, hi, q0, q4, q5', qp, g5, p1', p7', u1, u2, u3, u4, u5, u6]
  obtain ⟨F1, k1, k2, k3⟩ := l 0 (by omega) (mm_up2 (mm_up2 F 3 5 (.long 0)) 3 6 (.long 0)) 0 0 (fun x j q => by unfold mm_up2; rw [if_neg (by omega), if_neg (by omega)]) (by rw [up_k _ _ _ _ (by decide), up_s]) (up_s _ _ _ _) (fun a _ => lb_0 a) (fun a _ => lb_0 a)
  obtain ⟨v2, a1, a2⟩ := cH_allOf (d + 3) z F1 I L n hs st hz k3 2 (by decide)
  obtain ⟨v1, b1, b2⟩ := cH_allOf (d + 3) z F1 I L n hs st hz k3 1 (by decide)
  have n1 : nI 1 = 1 := rfl
  rw [n1] at b1
  have q7 : F1 7 0 = .ref 8 := by rw [k2 _ _ (by omega)]; exact r4
  have q2 : F1 3 2 = .ref 7 := by rw [k2 _ _ (by omega)]; exact r2
  obtain ⟨F', L', m1, m2, m3, m4⟩ := cPl_survey d z F1 I L (kd n hs st) hz q7 v2 v1 a2 b2
  refine ⟨F', L', ?_, ?_, m2, fun x j x1 x2 => by rw [m3 x j x2, k2 x j x1], m4⟩
  · rw [nI_0] at k1
    simp (disch := first | assumption | exact zSw hz (by omega) | exact zSp hz (by omega) | exact zSd hz (by omega) | exact bI_or _ | exact zOK_O hz (by decide) (by decide) rfl | exact zOK_T hz (by decide) (by decide) rfl | (refine ix (zOK_l hz (by decide) (by decide) rfl) ?_; omega) | decide | omega) only [eX1_lookAgain_0, eX1_lookAgain_1, eX1_lookAgain_2, eX1_lookAgain_5, eX1_lookAgain_6, eX1_lookAgain_7, eX1_lookAgain_10, eX1_lookAgain_11, Int.cast_ofNat_Int, Nat.reduceLT, Nat.reduceLeDiff, Nat.reduceEqDiff, Nat.reduceAdd, Nat.reduceMul, Int.reduceLE, Int.reduceLT, Int.reduceEq, not_false_iff, nlr, Nat.zero_add, Nat.add_zero, e10f, e01f, eq_self, true_and, and_true, false_and, and_false, and_self, decide_true, decide_false, mm_bd_i, mm_bd_v, if_true, if_false, not_true_eq_false, not_false_eq_true, nI_1, Bool.true_eq_false, Bool.false_eq_true, bI_0, n_le0, n_0lt, n_lt0, n_0le, n_eq0, n_eqm, n_eq1, n_le1, n_1lt, n_1le, n_lt1, nn_le, nI_ltI, nI_eq, nI_clamp, nI_add, pk_mul, i_eq0, i_eqm, i_0le, i_le0, i_0lt, i_lt0, i_mle, i_ltm, ii_le, iI_lt, iI_eq, ni_le, ni_lt, ni_eq, in_le, in_lt, in_eq, ni_add, in_add, ni_sub, in_sub, ni_mul, in_mul, iI_add, iI_sub, iI_mul, i_p1, iI_neg, n_neg]
    rw [k1]
    simp (disch := first | assumption | exact zSw hz (by omega) | exact zSp hz (by omega) | exact zSd hz (by omega) | exact bI_or _ | exact zOK_O hz (by decide) (by decide) rfl | exact zOK_T hz (by decide) (by decide) rfl | (refine ix (zOK_l hz (by decide) (by decide) rfl) ?_; omega) | decide | omega) only [eX1_lookAgain_80, eX1_lookAgain_81, eX1_lookAgain_84, eX1_lookAgain_85, eX1_lookAgain_86, eX1_lookAgain_89, eX1_lookAgain_90, eX1_lookAgain_91, eX1_lookAgain_94, eX1_lookAgain_97, Int.cast_ofNat_Int, Nat.reduceLT, Nat.reduceLeDiff, Nat.reduceEqDiff, Nat.reduceAdd, Nat.reduceMul, Int.reduceLE, Int.reduceLT, Int.reduceEq, not_false_iff, nlr, Nat.zero_add, Nat.add_zero, e10f, e01f, eq_self, true_and, and_true, false_and, and_false, and_self, decide_true, decide_false, mm_bd_i, mm_bd_v, if_true, if_false, not_true_eq_false, not_false_eq_true, nI_1, Bool.true_eq_false, Bool.false_eq_true, bI_0, n_le0, n_0lt, n_lt0, n_0le, n_eq0, n_eqm, n_eq1, n_le1, n_1lt, n_1le, n_lt1, nn_le, nI_ltI, nI_eq, nI_clamp, nI_add, pk_mul, i_eq0, i_eqm, i_0le, i_le0, i_0lt, i_lt0, i_mle, i_ltm, ii_le, iI_lt, iI_eq, ni_le, ni_lt, ni_eq, in_le, in_lt, in_eq, ni_add, in_add, ni_sub, in_sub, ni_mul, in_mul, iI_add, iI_sub, iI_mul, i_p1, iI_neg, n_neg, q2, a1, b1, m1]
  · obtain ⟨vh, vb, g5, g6, gh, gb⟩ := k3
    exact ⟨vh, vb, by rw [m3 _ _ (by omega)]; exact g5, by rw [m3 _ _ (by omega)]; exact g6, gh, gb⟩
