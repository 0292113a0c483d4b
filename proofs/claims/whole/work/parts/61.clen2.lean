/-! lengths: the class's span -/
def enP (m : Nat) (lo hi : Nat → Nat) (tr : Nat → Int) (h w : Nat) : Prop := h * tN m lo hi tr ≤ 100 * hN m lo hi tr w
theorem cX_isEnough (d : Nat) (z : mm_Z) (F : Nat → Nat → Value) (I : Nat → Nat → Int32) (L : Nat → Nat → Int64) (m : Nat) (lo hi : Nat → Nat) (tr : Nat → Int) (hz : zOK z) (ok : okLn m lo hi tr) (h : cLn m lo hi tr F I) (w p : Nat) (hw : w < 1000000) (hp : p ≤ 100) (b : Bool) (hb : b = true ↔ enP m lo hi tr p w) : mm_E (d + 3) mX3_isEnough 0 [.ref 116, .int (nI w), .int (nI p)] [] (z, F, I, L) = some (some (.int (bI b)), (z, F, I, L)) := by
  have om := ok.1
  have ho := fun d' => cX_holding d' z F I L m lo hi tr hz ok h w hw
  have b1 := hN_le m lo hi tr w
  have b2 := tN_le m lo hi tr
  have b3 : p * tN m lo hi tr ≤ 100 * 20 := Nat.mul_le_mul hp (by omega)
  obtain ⟨h0, h1, h2, h3, h4, h5⟩ := h
  unfold enP at hb
  cases b with
  | true =>
    have e : ¬ 100 * hN m lo hi tr w < p * tN m lo hi tr := by have := hb.mp rfl; omega
    simp (disch := first | assumption | exact bI_or _ | exact zOK_O hz (by decide) (by decide) rfl | exact zOK_T hz (by decide) (by decide) rfl | (refine ix (zOK_l hz (by decide) (by decide) rfl) ?_; omega) | decide | omega) only [eX3_isEnough_0, eX3_isEnough_2, eX3_isEnough_3, eX3_isEnough_4, eX3_isEnough_7, eX3_isEnough_8, eX3_isEnough_9, eX3_isEnough_10, eX3_isEnough_13, eX3_isEnough_14, eX3_isEnough_17, eX3_isEnough_18, eX3_isEnough_21, eX3_isEnough_22, Nat.reduceLT, Nat.reduceLeDiff, Nat.reduceEqDiff, Nat.reduceAdd, Nat.reduceMul, Int.reduceLE, Int.reduceLT, Int.reduceEq, not_false_iff, nlr, Nat.zero_add, Nat.add_zero, e10f, e01f, eq_self, true_and, and_true, false_and, and_false, and_self, decide_true, decide_false, mm_bd_i, mm_bd_v, if_true, if_false, not_true_eq_false, not_false_eq_true, nI_1, Bool.true_eq_false, Bool.false_eq_true, bI_0, n_le0, n_0lt, n_lt0, n_0le, n_eq0, n_eqm, n_eq1, n_le1, n_1lt, n_1le, n_lt1, nn_le, nI_ltI, nI_eq, nI_clamp, nI_add, pk_mul, i_eq0, i_eqm, i_0le, i_le0, i_0lt, i_lt0, i_mle, i_ltm, ii_le, iI_lt, iI_eq, ni_le, ni_lt, ni_eq, in_le, in_lt, in_eq, ni_add, in_add, ni_sub, in_sub, ni_mul, in_mul, iI_add, iI_sub, iI_mul, i_p1, iI_neg, n_neg, ho, h4, e, bI_t]
  | false =>
    have e : 100 * hN m lo hi tr w < p * tN m lo hi tr := by have := mt hb.mpr (by decide); omega
    simp (disch := first | assumption | exact bI_or _ | exact zOK_O hz (by decide) (by decide) rfl | exact zOK_T hz (by decide) (by decide) rfl | (refine ix (zOK_l hz (by decide) (by decide) rfl) ?_; omega) | decide | omega) only [eX3_isEnough_0, eX3_isEnough_2, eX3_isEnough_3, eX3_isEnough_4, eX3_isEnough_7, eX3_isEnough_8, eX3_isEnough_9, eX3_isEnough_10, eX3_isEnough_13, eX3_isEnough_14, eX3_isEnough_17, eX3_isEnough_18, eX3_isEnough_21, eX3_isEnough_22, Nat.reduceLT, Nat.reduceLeDiff, Nat.reduceEqDiff, Nat.reduceAdd, Nat.reduceMul, Int.reduceLE, Int.reduceLT, Int.reduceEq, not_false_iff, nlr, Nat.zero_add, Nat.add_zero, e10f, e01f, eq_self, true_and, and_true, false_and, and_false, and_self, decide_true, decide_false, mm_bd_i, mm_bd_v, if_true, if_false, not_true_eq_false, not_false_eq_true, nI_1, Bool.true_eq_false, Bool.false_eq_true, bI_0, n_le0, n_0lt, n_lt0, n_0le, n_eq0, n_eqm, n_eq1, n_le1, n_1lt, n_1le, n_lt1, nn_le, nI_ltI, nI_eq, nI_clamp, nI_add, pk_mul, i_eq0, i_eqm, i_0le, i_le0, i_0lt, i_lt0, i_mle, i_ltm, ii_le, iI_lt, iI_eq, ni_le, ni_lt, ni_eq, in_le, in_lt, in_eq, ni_add, in_add, ni_sub, in_sub, ni_mul, in_mul, iI_add, iI_sub, iI_mul, i_p1, iI_neg, n_neg, ho, h4, e, bI_f]
def lsI (m : Nat) (lo hi : Nat → Nat) (tr : Nat → Int) (p i w : Nat) : Prop := w ≤ 999 ∧ enP m lo hi tr p w ∧ ∀ j, j < i → 0 < lkI (lo j) (hi j) (tr j) → enP m lo hi tr p (lkI (lo j) (hi j) (tr j)).toNat → (w : Int) ≤ lkI (lo j) (hi j) (tr j)
theorem hN_tN (m : Nat) (lo hi : Nat → Nat) (tr : Nat → Int) (ok : okLn m lo hi tr) (w : Nat) (hw : 999 ≤ w) : hN m lo hi tr w = tN m lo hi tr := by
  unfold hN tN
  apply sumT_congr
  intro j hj
  have o := ok.2 j hj
  by_cases e : 0 ≤ tr j
  · rw [if_pos (by omega), if_pos e]
  · rw [if_neg (by omega), if_neg e]
theorem enP_999 (m : Nat) (lo hi : Nat → Nat) (tr : Nat → Int) (ok : okLn m lo hi tr) (p w : Nat) (hp : p ≤ 100) (hw : 999 ≤ w) : enP m lo hi tr p w := by
  unfold enP
  rw [hN_tN m lo hi tr ok w hw]
  exact Nat.mul_le_mul hp (Nat.le_refl _)
theorem cX_leastSpan (d : Nat) (z : mm_Z) (F : Nat → Nat → Value) (I : Nat → Nat → Int32) (L : Nat → Nat → Int64) (m : Nat) (lo hi : Nat → Nat) (tr : Nat → Int) (hz : zOK z) (ok : okLn m lo hi tr) (h : cLn m lo hi tr F I) (p : Nat) (hp : p ≤ 100) (ht : ¬ tN m lo hi tr = 0) (h0p : ¬ enP m lo hi tr p 0) : ∃ w, mm_E (d + 4) mX3_leastSpan 0 [.ref 116, .int (nI p), uu, uu, uu] [] (z, F, I, L) = some (some (.int (nI w)), (z, F, I, L)) ∧ lsI m lo hi tr p m w := by
  have om := ok.1
  have en := fun d' w b hw hb => cX_isEnough d' z F I L m lo hi tr hz ok h w p hw hp b hb
  have lk := fun d' k hk => cX_lackOf d' z F I L m lo hi tr hz ok h k hk
  have b2 := tN_le m lo hi tr
  have h' := h
  obtain ⟨h0, h1, h2, h3, h4, h5⟩ := h
  have l : ∀ i, i ≤ m → ∀ w a4, lsI m lo hi tr p i w → ∃ w', mm_E (d + 4) mX3_leastSpan 26 [.ref 116, .int (nI p), .int (nI w), .int (nI i), a4] [] (z, F, I, L) = some (some (.int (nI w')), (z, F, I, L)) ∧ lsI m lo hi tr p m w' := by
    apply lp
    · intro w a4 hw
      refine ⟨w, ?_, hw⟩
      rw [eX3_leastSpan_26]
      simp (disch := first | assumption | exact bI_or _ | exact zOK_O hz (by decide) (by decide) rfl | exact zOK_T hz (by decide) (by decide) rfl | (refine ix (zOK_l hz (by decide) (by decide) rfl) ?_; omega) | decide | omega) only [eX3_leastSpan_0, eX3_leastSpan_1, eX3_leastSpan_4, eX3_leastSpan_7, eX3_leastSpan_8, eX3_leastSpan_9, eX3_leastSpan_10, eX3_leastSpan_11, eX3_leastSpan_12, eX3_leastSpan_15, eX3_leastSpan_18, eX3_leastSpan_19, eX3_leastSpan_20, eX3_leastSpan_23, eX3_leastSpan_24, eX3_leastSpan_25, eX3_leastSpan_27, eX3_leastSpan_28, eX3_leastSpan_31, eX3_leastSpan_34, eX3_leastSpan_35, eX3_leastSpan_36, eX3_leastSpan_39, eX3_leastSpan_41, eX3_leastSpan_43, eX3_leastSpan_46, eX3_leastSpan_48, eX3_leastSpan_49, eX3_leastSpan_52, eX3_leastSpan_53, eX3_leastSpan_55, eX3_leastSpan_56, eX3_leastSpan_59, eX3_leastSpan_62, eX3_leastSpan_64, eX3_leastSpan_65, eX3_leastSpan_68, eX3_leastSpan_71, eX3_leastSpan_72, Nat.reduceLT, Nat.reduceLeDiff, Nat.reduceEqDiff, Nat.reduceAdd, Nat.reduceMul, Int.reduceLE, Int.reduceLT, Int.reduceEq, not_false_iff, nlr, Nat.zero_add, Nat.add_zero, e10f, e01f, eq_self, true_and, and_true, false_and, and_false, and_self, decide_true, decide_false, mm_bd_i, mm_bd_v, if_true, if_false, not_true_eq_false, not_false_eq_true, nI_1, Bool.true_eq_false, Bool.false_eq_true, bI_0, n_le0, n_0lt, n_lt0, n_0le, n_eq0, n_eqm, n_eq1, n_le1, n_1lt, n_1le, n_lt1, nn_le, nI_ltI, nI_eq, nI_clamp, nI_add, pk_mul, i_eq0, i_eqm, i_0le, i_le0, i_0lt, i_lt0, i_mle, i_ltm, ii_le, iI_lt, iI_eq, ni_le, ni_lt, ni_eq, in_le, in_lt, in_eq, ni_add, in_add, ni_sub, in_sub, ni_mul, in_mul, iI_add, iI_sub, iI_mul, i_p1, iI_neg, n_neg, h3]
    · intro i hi' ih w a4 hw
      have o := ok.2 i hi'
      have e1 : i < m := hi'
      have e2 : -1 ≤ lkI (lo i) (hi i) (tr i) ∧ lkI (lo i) (hi i) (tr i) < 1000000 := by unfold lkI; split <;> omega
      have w9 := hw.1
      by_cases c1 : 0 < lkI (lo i) (hi i) (tr i)
      · have e3 : iI (lkI (lo i) (hi i) (tr i)) = nI (lkI (lo i) (hi i) (tr i)).toNat := iI_nn (by omega)
        have e4 : ¬ (lkI (lo i) (hi i) (tr i)).toNat = 0 := by omega
        by_cases c2 : lkI (lo i) (hi i) (tr i) < w
        · have e5 : (lkI (lo i) (hi i) (tr i)).toNat < w := by omega
          by_cases c3 : enP m lo hi tr p (lkI (lo i) (hi i) (tr i)).toNat
          · have en' := fun d' => en d' (lkI (lo i) (hi i) (tr i)).toNat true (by omega) ⟨fun _ => c3, fun _ => rfl⟩
            obtain ⟨w', g1, g2⟩ := ih (lkI (lo i) (hi i) (tr i)).toNat (.int (nI (lkI (lo i) (hi i) (tr i)).toNat)) ⟨by omega, c3, by
              intro j hj j1 j2
              by_cases q : j = i
              · subst q; omega
              · have := hw.2.2 j (by omega) j1 j2; omega⟩
            refine ⟨w', ?_, g2⟩
            rw [← g1, eX3_leastSpan_26]
            simp (disch := first | assumption | exact bI_or _ | exact zOK_O hz (by decide) (by decide) rfl | exact zOK_T hz (by decide) (by decide) rfl | (refine ix (zOK_l hz (by decide) (by decide) rfl) ?_; omega) | decide | omega) only [eX3_leastSpan_0, eX3_leastSpan_1, eX3_leastSpan_4, eX3_leastSpan_7, eX3_leastSpan_8, eX3_leastSpan_9, eX3_leastSpan_10, eX3_leastSpan_11, eX3_leastSpan_12, eX3_leastSpan_15, eX3_leastSpan_18, eX3_leastSpan_19, eX3_leastSpan_20, eX3_leastSpan_23, eX3_leastSpan_24, eX3_leastSpan_25, eX3_leastSpan_27, eX3_leastSpan_28, eX3_leastSpan_31, eX3_leastSpan_34, eX3_leastSpan_35, eX3_leastSpan_36, eX3_leastSpan_39, eX3_leastSpan_41, eX3_leastSpan_43, eX3_leastSpan_46, eX3_leastSpan_48, eX3_leastSpan_49, eX3_leastSpan_52, eX3_leastSpan_53, eX3_leastSpan_55, eX3_leastSpan_56, eX3_leastSpan_59, eX3_leastSpan_62, eX3_leastSpan_64, eX3_leastSpan_65, eX3_leastSpan_68, eX3_leastSpan_71, eX3_leastSpan_72, Nat.reduceLT, Nat.reduceLeDiff, Nat.reduceEqDiff, Nat.reduceAdd, Nat.reduceMul, Int.reduceLE, Int.reduceLT, Int.reduceEq, not_false_iff, nlr, Nat.zero_add, Nat.add_zero, e10f, e01f, eq_self, true_and, and_true, false_and, and_false, and_self, decide_true, decide_false, mm_bd_i, mm_bd_v, if_true, if_false, not_true_eq_false, not_false_eq_true, nI_1, Bool.true_eq_false, Bool.false_eq_true, bI_0, n_le0, n_0lt, n_lt0, n_0le, n_eq0, n_eqm, n_eq1, n_le1, n_1lt, n_1le, n_lt1, nn_le, nI_ltI, nI_eq, nI_clamp, nI_add, pk_mul, i_eq0, i_eqm, i_0le, i_le0, i_0lt, i_lt0, i_mle, i_ltm, ii_le, iI_lt, iI_eq, ni_le, ni_lt, ni_eq, in_le, in_lt, in_eq, ni_add, in_add, ni_sub, in_sub, ni_mul, in_mul, iI_add, iI_sub, iI_mul, i_p1, iI_neg, n_neg, h3, e1, lk, e3, e4, e5, en']
          · have en' := fun d' => en d' (lkI (lo i) (hi i) (tr i)).toNat false (by omega) ⟨fun q => by simp at q, fun q => absurd q c3⟩
            obtain ⟨w', g1, g2⟩ := ih w (.int (nI (lkI (lo i) (hi i) (tr i)).toNat)) ⟨w9, hw.2.1, by
              intro j hj j1 j2
              by_cases q : j = i
              · subst q; exact absurd j2 c3
              · exact hw.2.2 j (by omega) j1 j2⟩
            refine ⟨w', ?_, g2⟩
            rw [← g1, eX3_leastSpan_26]
            simp (disch := first | assumption | exact bI_or _ | exact zOK_O hz (by decide) (by decide) rfl | exact zOK_T hz (by decide) (by decide) rfl | (refine ix (zOK_l hz (by decide) (by decide) rfl) ?_; omega) | decide | omega) only [eX3_leastSpan_0, eX3_leastSpan_1, eX3_leastSpan_4, eX3_leastSpan_7, eX3_leastSpan_8, eX3_leastSpan_9, eX3_leastSpan_10, eX3_leastSpan_11, eX3_leastSpan_12, eX3_leastSpan_15, eX3_leastSpan_18, eX3_leastSpan_19, eX3_leastSpan_20, eX3_leastSpan_23, eX3_leastSpan_24, eX3_leastSpan_25, eX3_leastSpan_27, eX3_leastSpan_28, eX3_leastSpan_31, eX3_leastSpan_34, eX3_leastSpan_35, eX3_leastSpan_36, eX3_leastSpan_39, eX3_leastSpan_41, eX3_leastSpan_43, eX3_leastSpan_46, eX3_leastSpan_48, eX3_leastSpan_49, eX3_leastSpan_52, eX3_leastSpan_53, eX3_leastSpan_55, eX3_leastSpan_56, eX3_leastSpan_59, eX3_leastSpan_62, eX3_leastSpan_64, eX3_leastSpan_65, eX3_leastSpan_68, eX3_leastSpan_71, eX3_leastSpan_72, Nat.reduceLT, Nat.reduceLeDiff, Nat.reduceEqDiff, Nat.reduceAdd, Nat.reduceMul, Int.reduceLE, Int.reduceLT, Int.reduceEq, not_false_iff, nlr, Nat.zero_add, Nat.add_zero, e10f, e01f, eq_self, true_and, and_true, false_and, and_false, and_self, decide_true, decide_false, mm_bd_i, mm_bd_v, if_true, if_false, not_true_eq_false, not_false_eq_true, nI_1, Bool.true_eq_false, Bool.false_eq_true, bI_0, n_le0, n_0lt, n_lt0, n_0le, n_eq0, n_eqm, n_eq1, n_le1, n_1lt, n_1le, n_lt1, nn_le, nI_ltI, nI_eq, nI_clamp, nI_add, pk_mul, i_eq0, i_eqm, i_0le, i_le0, i_0lt, i_lt0, i_mle, i_ltm, ii_le, iI_lt, iI_eq, ni_le, ni_lt, ni_eq, in_le, in_lt, in_eq, ni_add, in_add, ni_sub, in_sub, ni_mul, in_mul, iI_add, iI_sub, iI_mul, i_p1, iI_neg, n_neg, h3, e1, lk, e3, e4, e5, en']
        · have e5 : ¬ (lkI (lo i) (hi i) (tr i)).toNat < w := by omega
          obtain ⟨w', g1, g2⟩ := ih w (.int (nI (lkI (lo i) (hi i) (tr i)).toNat)) ⟨w9, hw.2.1, by
              intro j hj j1 j2
              by_cases q : j = i
              · subst q; omega
              · exact hw.2.2 j (by omega) j1 j2⟩
          refine ⟨w', ?_, g2⟩
          rw [← g1, eX3_leastSpan_26]
          simp (disch := first | assumption | exact bI_or _ | exact zOK_O hz (by decide) (by decide) rfl | exact zOK_T hz (by decide) (by decide) rfl | (refine ix (zOK_l hz (by decide) (by decide) rfl) ?_; omega) | decide | omega) only [eX3_leastSpan_0, eX3_leastSpan_1, eX3_leastSpan_4, eX3_leastSpan_7, eX3_leastSpan_8, eX3_leastSpan_9, eX3_leastSpan_10, eX3_leastSpan_11, eX3_leastSpan_12, eX3_leastSpan_15, eX3_leastSpan_18, eX3_leastSpan_19, eX3_leastSpan_20, eX3_leastSpan_23, eX3_leastSpan_24, eX3_leastSpan_25, eX3_leastSpan_27, eX3_leastSpan_28, eX3_leastSpan_31, eX3_leastSpan_34, eX3_leastSpan_35, eX3_leastSpan_36, eX3_leastSpan_39, eX3_leastSpan_41, eX3_leastSpan_43, eX3_leastSpan_46, eX3_leastSpan_48, eX3_leastSpan_49, eX3_leastSpan_52, eX3_leastSpan_53, eX3_leastSpan_55, eX3_leastSpan_56, eX3_leastSpan_59, eX3_leastSpan_62, eX3_leastSpan_64, eX3_leastSpan_65, eX3_leastSpan_68, eX3_leastSpan_71, eX3_leastSpan_72, Nat.reduceLT, Nat.reduceLeDiff, Nat.reduceEqDiff, Nat.reduceAdd, Nat.reduceMul, Int.reduceLE, Int.reduceLT, Int.reduceEq, not_false_iff, nlr, Nat.zero_add, Nat.add_zero, e10f, e01f, eq_self, true_and, and_true, false_and, and_false, and_self, decide_true, decide_false, mm_bd_i, mm_bd_v, if_true, if_false, not_true_eq_false, not_false_eq_true, nI_1, Bool.true_eq_false, Bool.false_eq_true, bI_0, n_le0, n_0lt, n_lt0, n_0le, n_eq0, n_eqm, n_eq1, n_le1, n_1lt, n_1le, n_lt1, nn_le, nI_ltI, nI_eq, nI_clamp, nI_add, pk_mul, i_eq0, i_eqm, i_0le, i_le0, i_0lt, i_lt0, i_mle, i_ltm, ii_le, iI_lt, iI_eq, ni_le, ni_lt, ni_eq, in_le, in_lt, in_eq, ni_add, in_add, ni_sub, in_sub, ni_mul, in_mul, iI_add, iI_sub, iI_mul, i_p1, iI_neg, n_neg, h3, e1, lk, e3, e4, e5]
      · obtain ⟨w', g1, g2⟩ := ih w (.int (iI (lkI (lo i) (hi i) (tr i)))) ⟨w9, hw.2.1, by
              intro j hj j1 j2
              by_cases q : j = i
              · subst q; exact absurd j1 c1
              · exact hw.2.2 j (by omega) j1 j2⟩
        refine ⟨w', ?_, g2⟩
        rw [← g1, eX3_leastSpan_26]
        simp (disch := first | assumption | exact bI_or _ | exact zOK_O hz (by decide) (by decide) rfl | exact zOK_T hz (by decide) (by decide) rfl | (refine ix (zOK_l hz (by decide) (by decide) rfl) ?_; omega) | decide | omega) only [eX3_leastSpan_0, eX3_leastSpan_1, eX3_leastSpan_4, eX3_leastSpan_7, eX3_leastSpan_8, eX3_leastSpan_9, eX3_leastSpan_10, eX3_leastSpan_11, eX3_leastSpan_12, eX3_leastSpan_15, eX3_leastSpan_18, eX3_leastSpan_19, eX3_leastSpan_20, eX3_leastSpan_23, eX3_leastSpan_24, eX3_leastSpan_25, eX3_leastSpan_27, eX3_leastSpan_28, eX3_leastSpan_31, eX3_leastSpan_34, eX3_leastSpan_35, eX3_leastSpan_36, eX3_leastSpan_39, eX3_leastSpan_41, eX3_leastSpan_43, eX3_leastSpan_46, eX3_leastSpan_48, eX3_leastSpan_49, eX3_leastSpan_52, eX3_leastSpan_53, eX3_leastSpan_55, eX3_leastSpan_56, eX3_leastSpan_59, eX3_leastSpan_62, eX3_leastSpan_64, eX3_leastSpan_65, eX3_leastSpan_68, eX3_leastSpan_71, eX3_leastSpan_72, Nat.reduceLT, Nat.reduceLeDiff, Nat.reduceEqDiff, Nat.reduceAdd, Nat.reduceMul, Int.reduceLE, Int.reduceLT, Int.reduceEq, not_false_iff, nlr, Nat.zero_add, Nat.add_zero, e10f, e01f, eq_self, true_and, and_true, false_and, and_false, and_self, decide_true, decide_false, mm_bd_i, mm_bd_v, if_true, if_false, not_true_eq_false, not_false_eq_true, nI_1, Bool.true_eq_false, Bool.false_eq_true, bI_0, n_le0, n_0lt, n_lt0, n_0le, n_eq0, n_eqm, n_eq1, n_le1, n_1lt, n_1le, n_lt1, nn_le, nI_ltI, nI_eq, nI_clamp, nI_add, pk_mul, i_eq0, i_eqm, i_0le, i_le0, i_0lt, i_lt0, i_mle, i_ltm, ii_le, iI_lt, iI_eq, ni_le, ni_lt, ni_eq, in_le, in_lt, in_eq, ni_add, in_add, ni_sub, in_sub, ni_mul, in_mul, iI_add, iI_sub, iI_mul, i_p1, iI_neg, n_neg, h3, e1, lk, c1]
  have en0 := fun d' => en d' 0 false (by omega) ⟨fun q => by simp at q, fun q => absurd q h0p⟩
  obtain ⟨w, g1, g2⟩ := l 0 (by omega) 999 uu ⟨by omega, enP_999 m lo hi tr ok p 999 hp (by omega), fun j hj => absurd hj (by omega)⟩
  refine ⟨w, ?_, g2⟩
  rw [← g1]
  rw [nI_0] at en0
  simp (disch := first | assumption | exact bI_or _ | exact zOK_O hz (by decide) (by decide) rfl | exact zOK_T hz (by decide) (by decide) rfl | (refine ix (zOK_l hz (by decide) (by decide) rfl) ?_; omega) | decide | omega) only [eX3_leastSpan_0, eX3_leastSpan_1, eX3_leastSpan_4, eX3_leastSpan_7, eX3_leastSpan_8, eX3_leastSpan_9, eX3_leastSpan_10, eX3_leastSpan_11, eX3_leastSpan_12, eX3_leastSpan_15, eX3_leastSpan_18, eX3_leastSpan_19, eX3_leastSpan_20, eX3_leastSpan_23, eX3_leastSpan_24, eX3_leastSpan_25, eX3_leastSpan_27, eX3_leastSpan_28, eX3_leastSpan_31, eX3_leastSpan_34, eX3_leastSpan_35, eX3_leastSpan_36, eX3_leastSpan_39, eX3_leastSpan_41, eX3_leastSpan_43, eX3_leastSpan_46, eX3_leastSpan_48, eX3_leastSpan_49, eX3_leastSpan_52, eX3_leastSpan_53, eX3_leastSpan_55, eX3_leastSpan_56, eX3_leastSpan_59, eX3_leastSpan_62, eX3_leastSpan_64, eX3_leastSpan_65, eX3_leastSpan_68, eX3_leastSpan_71, eX3_leastSpan_72, Nat.reduceLT, Nat.reduceLeDiff, Nat.reduceEqDiff, Nat.reduceAdd, Nat.reduceMul, Int.reduceLE, Int.reduceLT, Int.reduceEq, not_false_iff, nlr, Nat.zero_add, Nat.add_zero, e10f, e01f, eq_self, true_and, and_true, false_and, and_false, and_self, decide_true, decide_false, mm_bd_i, mm_bd_v, if_true, if_false, not_true_eq_false, not_false_eq_true, nI_1, Bool.true_eq_false, Bool.false_eq_true, bI_0, n_le0, n_0lt, n_lt0, n_0le, n_eq0, n_eqm, n_eq1, n_le1, n_1lt, n_1le, n_lt1, nn_le, nI_ltI, nI_eq, nI_clamp, nI_add, pk_mul, i_eq0, i_eqm, i_0le, i_le0, i_0lt, i_lt0, i_mle, i_ltm, ii_le, iI_lt, iI_eq, ni_le, ni_lt, ni_eq, in_le, in_lt, in_eq, ni_add, in_add, ni_sub, in_sub, ni_mul, in_mul, iI_add, iI_sub, iI_mul, i_p1, iI_neg, n_neg, h4, ht, en0]
  rfl
