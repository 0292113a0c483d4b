/-! joins: the class's calls -/
def btl (S i : Nat) : Nat → Bool := fun j => S.testBit j && decide (j < i)
theorem btl_no {S i : Nat} (h : S.testBit i = false) : btl S (i + 1) = btl S i := by
  funext j
  unfold btl
  by_cases e : j = i
  · subst e; rw [h]; simp
  · rw [decide_eq_decide.mpr (show j < i + 1 ↔ j < i by omega)]
theorem btl_yes {S i : Nat} (h : S.testBit i = true) : btl S (i + 1) = wth (btl S i) i := by
  funext j
  unfold btl wth
  by_cases e : j = i
  · subst e; rw [h]; simp
  · rw [decide_eq_decide.mpr (show j < i + 1 ↔ j < i by omega), decide_eq_false e, Bool.or_false]
theorem agr_mono (m : Nat) (ja jb : Nat → Nat) (jv : Nat → Int) {S T : Nat → Bool} (h : ∀ j, j < m → S j = true → T j = true) (g : agr m ja jb jv T) : agr m ja jb jv S := by
  obtain ⟨p, hp⟩ := g
  exact ⟨p, sol_mono m ja jb jv h hp⟩
theorem btl_m (m : Nat) (ja jb : Nat → Nat) (jv : Nat → Int) (S : Nat) : agr m ja jb jv (btl S m) ↔ agr m ja jb jv (bts S) := by
  constructor
  · exact agr_mono m ja jb jv (fun j hj h => by unfold btl bts at *; simp [h, hj])
  · exact agr_mono m ja jb jv (fun j hj h => by unfold btl bts at *; simp at h; exact h.1)
theorem cJ_peace (d : Nat) (z : mm_Z) (F : Nat → Nat → Value) (I : Nat → Nat → Int32) (L : Nat → Nat → Int64) (m : Nat) (ja jb : Nat → Nat) (jv : Nat → Int) (jw : Nat → Nat) (hz : zOK z) (ok : okJ m ja jb jv jw) (h : cJ0 m ja jb jv jw F I) (S : Nat) (hS : S < 2 ^ 31) : ∃ I' b, mm_E (d + 1) mX2_isAtPeace 0 [.ref 80, .int (nI S), uu] [] (z, F, I, L) = some (some (.int (bI b)), (z, F, I', L)) ∧ (b = true ↔ agr m ja jb jv (bts S)) ∧ ∀ r, ¬ r = 86 → ¬ r = 100 → I' r = I r := by
  have om := ok.1
  obtain ⟨I1, k1, k2, k3⟩ := cJ_loosen d z F I L m ja jb jv jw hz h 0 (by decide)
  have l : ∀ i, i ≤ m → ∀ (I2 : Nat → Nat → Int32) (g : Nat → Nat) (x : Nat → Int32), cJ0 m ja jb jv jw F I2 → UF m ja jb jv (btl S i) g x → jrow I2 0 g x → ∃ I' b, mm_E (d + 1) mX2_isAtPeace 7 [.ref 80, .int (nI S), .int (nI i)] [] (z, F, I2, L) = some (some (.int (bI b)), (z, F, I', L)) ∧ (b = true ↔ agr m ja jb jv (bts S)) ∧ ∀ r, ¬ r = 86 → ¬ r = 100 → I' r = I2 r := by
    apply lp
    · intro I2 g x h2 hu hr
      refine ⟨I2, true, ?_, ⟨fun _ => (btl_m m ja jb jv S).mp (UF_agr m ja jb jv hu), fun _ => rfl⟩, fun _ _ _ => rfl⟩
      have q := h2.2.2.1
      rw [eX2_isAtPeace_7]
      simp (disch := first | assumption | exact zJa hz (by omega) | exact zJb hz (by omega) | exact ix (zJal hz (by omega)) (by omega) | exact ix (zJbl hz (by omega)) (by omega) | exact bI_or _ | exact zOK_O hz (by decide) (by decide) rfl | exact zOK_T hz (by decide) (by decide) rfl | (refine ix (zOK_l hz (by decide) (by decide) rfl) ?_; omega) | decide | omega) only [eX2_isAtPeace_0, eX2_isAtPeace_1, eX2_isAtPeace_2, eX2_isAtPeace_5, eX2_isAtPeace_6, eX2_isAtPeace_8, eX2_isAtPeace_9, eX2_isAtPeace_12, eX2_isAtPeace_15, eX2_isAtPeace_16, eX2_isAtPeace_17, eX2_isAtPeace_18, eX2_isAtPeace_19, eX2_isAtPeace_20, eX2_isAtPeace_23, eX2_isAtPeace_24, eX2_isAtPeace_25, eX2_isAtPeace_26, eX2_isAtPeace_29, eX2_isAtPeace_32, eX2_isAtPeace_33, eX2_isAtPeace_34, eX2_isAtPeace_37, eX2_isAtPeace_40, eX2_isAtPeace_41, Nat.reduceLT, Nat.reduceLeDiff, Nat.reduceEqDiff, Nat.reduceAdd, Nat.reduceMul, Int.reduceLE, Int.reduceLT, Int.reduceEq, not_false_iff, nlr, Nat.zero_add, Nat.add_zero, e10f, e01f, eq_self, true_and, and_true, false_and, and_false, and_self, decide_true, decide_false, mm_bd_i, mm_bd_v, if_true, if_false, not_true_eq_false, not_false_eq_true, nI_1, Bool.true_eq_false, Bool.false_eq_true, bI_0, n_le0, n_0lt, n_lt0, n_0le, n_eq0, n_eqm, n_eq1, n_le1, n_1lt, n_1le, n_lt1, nn_le, nI_ltI, nI_eq, nI_clamp, nI_add, pk_mul, i_eq0, i_eqm, i_0le, i_le0, i_0lt, i_lt0, i_mle, i_ltm, ii_le, iI_lt, iI_eq, ni_le, ni_lt, ni_eq, in_le, in_lt, in_eq, ni_add, in_add, ni_sub, in_sub, ni_mul, in_mul, iI_add, iI_sub, iI_mul, i_p1, iI_neg, n_neg, q, bI_t]
    · intro i hi ih I2 g x h2 hu hr
      have q := h2.2.2.1
      cases hb : S.testBit i with
      | false =>
        obtain ⟨I', b, n1, n2, n3⟩ := ih I2 g x h2 (by rw [btl_no hb]; exact hu) hr
        refine ⟨I', b, ?_, n2, n3⟩
        rw [← n1, eX2_isAtPeace_7]
        simp (disch := first | assumption | exact zJa hz (by omega) | exact zJb hz (by omega) | exact ix (zJal hz (by omega)) (by omega) | exact ix (zJbl hz (by omega)) (by omega) | exact bI_or _ | exact zOK_O hz (by decide) (by decide) rfl | exact zOK_T hz (by decide) (by decide) rfl | (refine ix (zOK_l hz (by decide) (by decide) rfl) ?_; omega) | decide | omega) only [eX2_isAtPeace_0, eX2_isAtPeace_1, eX2_isAtPeace_2, eX2_isAtPeace_5, eX2_isAtPeace_6, eX2_isAtPeace_8, eX2_isAtPeace_9, eX2_isAtPeace_12, eX2_isAtPeace_15, eX2_isAtPeace_16, eX2_isAtPeace_17, eX2_isAtPeace_18, eX2_isAtPeace_19, eX2_isAtPeace_20, eX2_isAtPeace_23, eX2_isAtPeace_24, eX2_isAtPeace_25, eX2_isAtPeace_26, eX2_isAtPeace_29, eX2_isAtPeace_32, eX2_isAtPeace_33, eX2_isAtPeace_34, eX2_isAtPeace_37, eX2_isAtPeace_40, eX2_isAtPeace_41, Nat.reduceLT, Nat.reduceLeDiff, Nat.reduceEqDiff, Nat.reduceAdd, Nat.reduceMul, Int.reduceLE, Int.reduceLT, Int.reduceEq, not_false_iff, nlr, Nat.zero_add, Nat.add_zero, e10f, e01f, eq_self, true_and, and_true, false_and, and_false, and_self, decide_true, decide_false, mm_bd_i, mm_bd_v, if_true, if_false, not_true_eq_false, not_false_eq_true, nI_1, Bool.true_eq_false, Bool.false_eq_true, bI_0, n_le0, n_0lt, n_lt0, n_0le, n_eq0, n_eqm, n_eq1, n_le1, n_1lt, n_1le, n_lt1, nn_le, nI_ltI, nI_eq, nI_clamp, nI_add, pk_mul, i_eq0, i_eqm, i_0le, i_le0, i_0lt, i_lt0, i_mle, i_ltm, ii_le, iI_lt, iI_eq, ni_le, ni_lt, ni_eq, in_le, in_lt, in_eq, ni_add, in_add, ni_sub, in_sub, ni_mul, in_mul, iI_add, iI_sub, iI_mul, i_p1, iI_neg, n_neg, q, hi, n_bit, hb]
      | true =>
        obtain ⟨I3, t, t1, t2, t3, t4⟩ := cJ_tie d z F I2 L m ja jb jv jw hz ok h2 i 0 hi (by decide) (btl S i) g x hu hr
        rw [← btl_yes hb] at t2 t3
        rw [nI_0] at t1
        have h3 : cJ0 m ja jb jv jw F I3 := cJ0_I m ja jb jv jw h2 (t4 _ (by omega) (by omega)) (t4 _ (by omega) (by omega)) (t4 _ (by omega) (by omega)) (t4 _ (by omega) (by omega))
        cases t with
        | true =>
          obtain ⟨g', x', u1, u2⟩ := t2 rfl
          obtain ⟨I', b, n1, n2, n3⟩ := ih I3 g' x' h3 u1 u2
          refine ⟨I', b, ?_, n2, fun r r1 r2 => by rw [n3 r r1 r2, t4 r r1 r2]⟩
          rw [← n1, eX2_isAtPeace_7]
          simp (disch := first | assumption | exact zJa hz (by omega) | exact zJb hz (by omega) | exact ix (zJal hz (by omega)) (by omega) | exact ix (zJbl hz (by omega)) (by omega) | exact bI_or _ | exact zOK_O hz (by decide) (by decide) rfl | exact zOK_T hz (by decide) (by decide) rfl | (refine ix (zOK_l hz (by decide) (by decide) rfl) ?_; omega) | decide | omega) only [eX2_isAtPeace_0, eX2_isAtPeace_1, eX2_isAtPeace_2, eX2_isAtPeace_5, eX2_isAtPeace_6, eX2_isAtPeace_8, eX2_isAtPeace_9, eX2_isAtPeace_12, eX2_isAtPeace_15, eX2_isAtPeace_16, eX2_isAtPeace_17, eX2_isAtPeace_18, eX2_isAtPeace_19, eX2_isAtPeace_20, eX2_isAtPeace_23, eX2_isAtPeace_24, eX2_isAtPeace_25, eX2_isAtPeace_26, eX2_isAtPeace_29, eX2_isAtPeace_32, eX2_isAtPeace_33, eX2_isAtPeace_34, eX2_isAtPeace_37, eX2_isAtPeace_40, eX2_isAtPeace_41, Nat.reduceLT, Nat.reduceLeDiff, Nat.reduceEqDiff, Nat.reduceAdd, Nat.reduceMul, Int.reduceLE, Int.reduceLT, Int.reduceEq, not_false_iff, nlr, Nat.zero_add, Nat.add_zero, e10f, e01f, eq_self, true_and, and_true, false_and, and_false, and_self, decide_true, decide_false, mm_bd_i, mm_bd_v, if_true, if_false, not_true_eq_false, not_false_eq_true, nI_1, Bool.true_eq_false, Bool.false_eq_true, bI_0, n_le0, n_0lt, n_lt0, n_0le, n_eq0, n_eqm, n_eq1, n_le1, n_1lt, n_1le, n_lt1, nn_le, nI_ltI, nI_eq, nI_clamp, nI_add, pk_mul, i_eq0, i_eqm, i_0le, i_le0, i_0lt, i_lt0, i_mle, i_ltm, ii_le, iI_lt, iI_eq, ni_le, ni_lt, ni_eq, in_le, in_lt, in_eq, ni_add, in_add, ni_sub, in_sub, ni_mul, in_mul, iI_add, iI_sub, iI_mul, i_p1, iI_neg, n_neg, q, hi, n_bit, hb, t1]
        | false =>
          refine ⟨I3, false, ?_, ⟨fun q => absurd q (by simp), fun q => absurd (agr_mono m ja jb jv (fun j hj h => by unfold btl at h; unfold bts; simp at h; exact h.1) q) (t3 rfl)⟩, t4⟩
          rw [eX2_isAtPeace_7]
          simp (disch := first | assumption | exact zJa hz (by omega) | exact zJb hz (by omega) | exact ix (zJal hz (by omega)) (by omega) | exact ix (zJbl hz (by omega)) (by omega) | exact bI_or _ | exact zOK_O hz (by decide) (by decide) rfl | exact zOK_T hz (by decide) (by decide) rfl | (refine ix (zOK_l hz (by decide) (by decide) rfl) ?_; omega) | decide | omega) only [eX2_isAtPeace_0, eX2_isAtPeace_1, eX2_isAtPeace_2, eX2_isAtPeace_5, eX2_isAtPeace_6, eX2_isAtPeace_8, eX2_isAtPeace_9, eX2_isAtPeace_12, eX2_isAtPeace_15, eX2_isAtPeace_16, eX2_isAtPeace_17, eX2_isAtPeace_18, eX2_isAtPeace_19, eX2_isAtPeace_20, eX2_isAtPeace_23, eX2_isAtPeace_24, eX2_isAtPeace_25, eX2_isAtPeace_26, eX2_isAtPeace_29, eX2_isAtPeace_32, eX2_isAtPeace_33, eX2_isAtPeace_34, eX2_isAtPeace_37, eX2_isAtPeace_40, eX2_isAtPeace_41, Nat.reduceLT, Nat.reduceLeDiff, Nat.reduceEqDiff, Nat.reduceAdd, Nat.reduceMul, Int.reduceLE, Int.reduceLT, Int.reduceEq, not_false_iff, nlr, Nat.zero_add, Nat.add_zero, e10f, e01f, eq_self, true_and, and_true, false_and, and_false, and_self, decide_true, decide_false, mm_bd_i, mm_bd_v, if_true, if_false, not_true_eq_false, not_false_eq_true, nI_1, Bool.true_eq_false, Bool.false_eq_true, bI_0, n_le0, n_0lt, n_lt0, n_0le, n_eq0, n_eqm, n_eq1, n_le1, n_1lt, n_1le, n_lt1, nn_le, nI_ltI, nI_eq, nI_clamp, nI_add, pk_mul, i_eq0, i_eqm, i_0le, i_le0, i_0lt, i_lt0, i_mle, i_ltm, ii_le, iI_lt, iI_eq, ni_le, ni_lt, ni_eq, in_le, in_lt, in_eq, ni_add, in_add, ni_sub, in_sub, ni_mul, in_mul, iI_add, iI_sub, iI_mul, i_p1, iI_neg, n_neg, q, hi, n_bit, hb, t1, bI_f]
  have h1 : cJ0 m ja jb jv jw F I1 := cJ0_I m ja jb jv jw h (k3 _ (by omega) (by omega)) (k3 _ (by omega) (by omega)) (k3 _ (by omega) (by omega)) (k3 _ (by omega) (by omega))
  obtain ⟨I', b, n1, n2, n3⟩ := l 0 (by omega) I1 _ _ h1 (UF_init m ja jb jv (btl S 0) (fun j _ => by unfold btl; simp)) k2
  refine ⟨I', b, ?_, n2, fun r r1 r2 => by rw [n3 r r1 r2, k3 r r1 r2]⟩
  rw [← n1]
  rw [nI_0] at k1
  simp (disch := first | assumption | exact zJa hz (by omega) | exact zJb hz (by omega) | exact ix (zJal hz (by omega)) (by omega) | exact ix (zJbl hz (by omega)) (by omega) | exact bI_or _ | exact zOK_O hz (by decide) (by decide) rfl | exact zOK_T hz (by decide) (by decide) rfl | (refine ix (zOK_l hz (by decide) (by decide) rfl) ?_; omega) | decide | omega) only [eX2_isAtPeace_0, eX2_isAtPeace_1, eX2_isAtPeace_2, eX2_isAtPeace_5, eX2_isAtPeace_6, eX2_isAtPeace_8, eX2_isAtPeace_9, eX2_isAtPeace_12, eX2_isAtPeace_15, eX2_isAtPeace_16, eX2_isAtPeace_17, eX2_isAtPeace_18, eX2_isAtPeace_19, eX2_isAtPeace_20, eX2_isAtPeace_23, eX2_isAtPeace_24, eX2_isAtPeace_25, eX2_isAtPeace_26, eX2_isAtPeace_29, eX2_isAtPeace_32, eX2_isAtPeace_33, eX2_isAtPeace_34, eX2_isAtPeace_37, eX2_isAtPeace_40, eX2_isAtPeace_41, Nat.reduceLT, Nat.reduceLeDiff, Nat.reduceEqDiff, Nat.reduceAdd, Nat.reduceMul, Int.reduceLE, Int.reduceLT, Int.reduceEq, not_false_iff, nlr, Nat.zero_add, Nat.add_zero, e10f, e01f, eq_self, true_and, and_true, false_and, and_false, and_self, decide_true, decide_false, mm_bd_i, mm_bd_v, if_true, if_false, not_true_eq_false, not_false_eq_true, nI_1, Bool.true_eq_false, Bool.false_eq_true, bI_0, n_le0, n_0lt, n_lt0, n_0le, n_eq0, n_eqm, n_eq1, n_le1, n_1lt, n_1le, n_lt1, nn_le, nI_ltI, nI_eq, nI_clamp, nI_add, pk_mul, i_eq0, i_eqm, i_0le, i_le0, i_0lt, i_lt0, i_mle, i_ltm, ii_le, iI_lt, iI_eq, ni_le, ni_lt, ni_eq, in_le, in_lt, in_eq, ni_add, in_add, ni_sub, in_sub, ni_mul, in_mul, iI_add, iI_sub, iI_mul, i_p1, iI_neg, n_neg, k1]
  rfl
def kpt (m : Nat) (ja jb : Nat → Nat) (jv : Nat → Int) (jw : Nat → Nat) (S : Nat) : Prop := S < 2 ^ m ∧ agr m ja jb jv (bts S) ∧ ∀ T, T < 2 ^ m → agr m ja jb jv (bts T) → wtS m jw T < wtS m jw S ∨ (wtS m jw T = wtS m jw S ∧ S ≤ T)
theorem kpt_uniq (m : Nat) (ja jb : Nat → Nat) (jv : Nat → Int) (jw : Nat → Nat) {S T : Nat} (h : kpt m ja jb jv jw S) (g : kpt m ja jb jv jw T) : S = T := by
  have a := h.2.2 T g.1 g.2.1
  have b := g.2.2 S h.1 h.2.1
  omega
def cJn (m : Nat) (ja jb : Nat → Nat) (jv : Nat → Int) (jw : Nat → Nat) (F : Nat → Nat → Value) (I : Nat → Nat → Int32) : Prop := cJ0 m ja jb jv jw F I ∧ ∃ sd b bw, F 80 9 = .int (nI sd) ∧ F 80 7 = .int (nI b) ∧ F 80 8 = .int (nI bw) ∧ sd ≤ m ∧ (sd = m → kpt m ja jb jv jw b)
theorem cJ0_F (m : Nat) (ja jb : Nat → Nat) (jv : Nat → Int) (jw : Nat → Nat) {F F' : Nat → Nat → Value} {I : Nat → Nat → Int32} (h : cJ0 m ja jb jv jw F I) (hF : ∀ r k, ¬ (r = 80 ∧ (k = 7 ∨ k = 8 ∨ k = 9)) → F' r k = F r k) : cJ0 m ja jb jv jw F' I := by
  unfold cJ0 at *
  simp (disch := omega) only [hF]
  exact h
theorem cJ_best (d : Nat) (z : mm_Z) (F : Nat → Nat → Value) (I : Nat → Nat → Int32) (L : Nat → Nat → Int64) (m : Nat) (ja jb : Nat → Nat) (jv : Nat → Int) (jw : Nat → Nat) (hz : zOK z) (ok : okJ m ja jb jv jw) (h : cJn m ja jb jv jw F I) : ∃ F' I' b', mm_E (d + m + 2) mX2_bestSet 0 [.ref 80, uu, uu] [] (z, F, I, L) = some (some (.int (nI b')), (z, F', I', L)) ∧ cJn m ja jb jv jw F' I' ∧ kpt m ja jb jv jw b' ∧ (∀ r k, ¬ (r = 80 ∧ (k = 7 ∨ k = 8 ∨ k = 9)) → F' r k = F r k) ∧ ∀ r, ¬ (86 ≤ r ∧ r < 99) → ¬ (100 ≤ r ∧ r < 113) → I' r = I r := by
  have om := ok.1
  have h' := h
  obtain ⟨h0, sd, b, bw, e9, e7, e8, hsd, hk⟩ := h
  have q6 := h0.2.2.1
  have q3 := h0.1.2.2.2.1
  by_cases c : sd = m
  · refine ⟨F, I, b, ?_, h', hk c, fun _ _ _ => rfl, fun _ _ _ => rfl⟩
    subst c
    simp (disch := first | assumption | exact zJa hz (by omega) | exact zJb hz (by omega) | exact ix (zJal hz (by omega)) (by omega) | exact ix (zJbl hz (by omega)) (by omega) | exact bI_or _ | exact zOK_O hz (by decide) (by decide) rfl | exact zOK_T hz (by decide) (by decide) rfl | (refine ix (zOK_l hz (by decide) (by decide) rfl) ?_; omega) | decide | omega) only [eX2_bestSet_0, eX2_bestSet_1, eX2_bestSet_4, eX2_bestSet_5, eX2_bestSet_8, eX2_bestSet_11, eX2_bestSet_12, eX2_bestSet_13, eX2_bestSet_16, eX2_bestSet_19, eX2_bestSet_20, eX2_bestSet_21, eX2_bestSet_24, eX2_bestSet_25, eX2_bestSet_26, eX2_bestSet_29, eX2_bestSet_30, eX2_bestSet_31, eX2_bestSet_32, eX2_bestSet_34, eX2_bestSet_35, eX2_bestSet_38, eX2_bestSet_41, eX2_bestSet_42, eX2_bestSet_43, eX2_bestSet_46, eX2_bestSet_47, eX2_bestSet_48, eX2_bestSet_49, eX2_bestSet_50, eX2_bestSet_53, eX2_bestSet_56, eX2_bestSet_57, eX2_bestSet_58, eX2_bestSet_61, eX2_bestSet_64, eX2_bestSet_65, eX2_bestSet_66, eX2_bestSet_69, eX2_bestSet_70, eX2_bestSet_71, eX2_bestSet_72, eX2_bestSet_75, eX2_bestSet_76, eX2_bestSet_79, Nat.reduceLT, Nat.reduceLeDiff, Nat.reduceEqDiff, Nat.reduceAdd, Nat.reduceMul, Int.reduceLE, Int.reduceLT, Int.reduceEq, not_false_iff, nlr, Nat.zero_add, Nat.add_zero, e10f, e01f, eq_self, true_and, and_true, false_and, and_false, and_self, decide_true, decide_false, mm_bd_i, mm_bd_v, if_true, if_false, not_true_eq_false, not_false_eq_true, nI_1, Bool.true_eq_false, Bool.false_eq_true, bI_0, n_le0, n_0lt, n_lt0, n_0le, n_eq0, n_eqm, n_eq1, n_le1, n_1lt, n_1le, n_lt1, nn_le, nI_ltI, nI_eq, nI_clamp, nI_add, pk_mul, i_eq0, i_eqm, i_0le, i_le0, i_0lt, i_lt0, i_mle, i_ltm, ii_le, iI_lt, iI_eq, ni_le, ni_lt, ni_eq, in_le, in_lt, in_eq, ni_add, in_add, ni_sub, in_sub, ni_mul, in_mul, iI_add, iI_sub, iI_mul, i_p1, iI_neg, n_neg, e9, q6, e7]
  · have s6 : ∀ k, k ≤ m → sumT jw k ≤ 600 := by
      intro k hk
      have h1 : sumT jw k ≤ sumT (fun _ => 50) k := sumT_mono k (fun j hj => by have := ok.2 j (by omega); omega)
      have h2 := sumT_le (fun _ => 50) 50 (fun _ => Nat.le_refl _) k
      omega
    let F1 := mm_up2 (mm_up2 (mm_up2 F 80 9 (.int (nI m))) 80 8 (.int 0)) 80 7 (.int 0)
    have fF1 : ∀ r k, ¬ (r = 80 ∧ (k = 7 ∨ k = 8 ∨ k = 9)) → F1 r k = F r k := by
      intro r k hn
      show mm_up2 (mm_up2 (mm_up2 F 80 9 (.int (nI m))) 80 8 (.int 0)) 80 7 (.int 0) r k = F r k
      unfold mm_up2
      rw [if_neg (by omega), if_neg (by omega), if_neg (by omega)]
    have h1 : cJ0 m ja jb jv jw F1 I := cJ0_F m ja jb jv jw h0 fF1
    have q6' : F1 80 6 = .int (nI m) := by rw [fF1 _ _ (by omega)]; exact q6
    have q3' : F1 80 3 = .ref 84 := by rw [fF1 _ _ (by omega)]; exact q3
    have l : ∀ i, i ≤ m → mm_E (d + m + 2) mX2_bestSet 33 [.ref 80, .int (nI (sumT jw i)), .int (nI i)] [] (z, F1, I, L) = mm_E (d + m + 2) mX2_bestSet 56 [.ref 80, .int (nI (sumT jw m)), .int (nI m)] [] (z, F1, I, L) := by
      apply lp
      · rw [eX2_bestSet_33]
        simp (disch := first | assumption | exact zJa hz (by omega) | exact zJb hz (by omega) | exact ix (zJal hz (by omega)) (by omega) | exact ix (zJbl hz (by omega)) (by omega) | exact bI_or _ | exact zOK_O hz (by decide) (by decide) rfl | exact zOK_T hz (by decide) (by decide) rfl | (refine ix (zOK_l hz (by decide) (by decide) rfl) ?_; omega) | decide | omega) only [eX2_bestSet_34, eX2_bestSet_35, eX2_bestSet_38, eX2_bestSet_41, eX2_bestSet_42, eX2_bestSet_43, eX2_bestSet_46, eX2_bestSet_47, eX2_bestSet_48, eX2_bestSet_49, eX2_bestSet_50, eX2_bestSet_53, Nat.reduceLT, Nat.reduceLeDiff, Nat.reduceEqDiff, Nat.reduceAdd, Nat.reduceMul, Int.reduceLE, Int.reduceLT, Int.reduceEq, not_false_iff, nlr, Nat.zero_add, Nat.add_zero, e10f, e01f, eq_self, true_and, and_true, false_and, and_false, and_self, decide_true, decide_false, mm_bd_i, mm_bd_v, if_true, if_false, not_true_eq_false, not_false_eq_true, nI_1, Bool.true_eq_false, Bool.false_eq_true, bI_0, n_le0, n_0lt, n_lt0, n_0le, n_eq0, n_eqm, n_eq1, n_le1, n_1lt, n_1le, n_lt1, nn_le, nI_ltI, nI_eq, nI_clamp, nI_add, pk_mul, i_eq0, i_eqm, i_0le, i_le0, i_0lt, i_lt0, i_mle, i_ltm, ii_le, iI_lt, iI_eq, ni_le, ni_lt, ni_eq, in_le, in_lt, in_eq, ni_add, in_add, ni_sub, in_sub, ni_mul, in_mul, iI_add, iI_sub, iI_mul, i_p1, iI_neg, n_neg, q6']
      · intro i hi ih
        have r := (h1.2.2.2 i hi).2.2.2
        rw [← ih, eX2_bestSet_33, sumT]
        simp (disch := first | assumption | exact zJa hz (by omega) | exact zJb hz (by omega) | exact ix (zJal hz (by omega)) (by omega) | exact ix (zJbl hz (by omega)) (by omega) | exact bI_or _ | exact zOK_O hz (by decide) (by decide) rfl | exact zOK_T hz (by decide) (by decide) rfl | (refine ix (zOK_l hz (by decide) (by decide) rfl) ?_; omega) | decide | omega) only [eX2_bestSet_34, eX2_bestSet_35, eX2_bestSet_38, eX2_bestSet_41, eX2_bestSet_42, eX2_bestSet_43, eX2_bestSet_46, eX2_bestSet_47, eX2_bestSet_48, eX2_bestSet_49, eX2_bestSet_50, eX2_bestSet_53, Nat.reduceLT, Nat.reduceLeDiff, Nat.reduceEqDiff, Nat.reduceAdd, Nat.reduceMul, Int.reduceLE, Int.reduceLT, Int.reduceEq, not_false_iff, nlr, Nat.zero_add, Nat.add_zero, e10f, e01f, eq_self, true_and, and_true, false_and, and_false, and_self, decide_true, decide_false, mm_bd_i, mm_bd_v, if_true, if_false, not_true_eq_false, not_false_eq_true, nI_1, Bool.true_eq_false, Bool.false_eq_true, bI_0, n_le0, n_0lt, n_lt0, n_0le, n_eq0, n_eqm, n_eq1, n_le1, n_1lt, n_1le, n_lt1, nn_le, nI_ltI, nI_eq, nI_clamp, nI_add, pk_mul, i_eq0, i_eqm, i_0le, i_le0, i_0lt, i_lt0, i_mle, i_ltm, ii_le, iI_lt, iI_eq, ni_le, ni_lt, ni_eq, in_le, in_lt, in_eq, ni_add, in_add, ni_sub, in_sub, ni_mul, in_mul, iI_add, iI_sub, iI_mul, i_p1, iI_neg, n_neg, q6', q3', hi, r]
    obtain ⟨I1, k1, k2, k3⟩ := cJ_loosen (d + m + 1) z F1 I L m ja jb jv jw hz h1 m (by omega)
    have h2 : cJ0 m ja jb jv jw F1 I1 := cJ0_I m ja jb jv jw h1 (k3 _ (by omega) (by omega)) (k3 _ (by omega) (by omega)) (k3 _ (by omega) (by omega)) (k3 _ (by omega) (by omega))
    have z7 : F1 80 7 = .int (nI 0) := by show mm_up2 _ _ _ _ _ _ = _; rw [up_s]; rfl
    have z8 : F1 80 8 = .int (nI 0) := by show mm_up2 _ _ _ _ _ _ = _; rw [up_k _ _ _ _ (by decide), up_s]; rfl
    have z9 : F1 80 9 = .int (nI m) := by show mm_up2 _ _ _ _ _ _ = _; rw [up_k _ _ _ _ (by decide), up_k _ _ _ _ (by decide), up_s]
    have a0 : UF m ja jb jv (bts 0) (fun s => s) (fun _ => 0) := UF_init m ja jb jv (bts 0) (fun j _ => by unfold bts; exact Nat.zero_testBit j)
    obtain ⟨F3, I3, b3, bw3, n1, n2, n3, n4, n5, n6, n7, n8⟩ := cJ_search m ja jb jv jw ok z L hz m (Nat.le_refl _) d F1 I1 0 0 0 _ _ h2 (Nat.zero_mod _) a0 k2 z7 z8 (by decide)
    have w0 : wtS m jw 0 = 0 := sumT_zero m (fun j _ => by rw [Nat.zero_testBit]; rfl)
    have kk : kpt m ja jb jv jw b3 := by
      rcases n6 with ⟨p1, _, _⟩ | ⟨E, p1, p2, p3, p4, p5, p6⟩
      · exact absurd (p1 0 (Nat.two_pow_pos m) (UF_agr m ja jb jv a0)) (by omega)
      · simp only [Nat.zero_add] at *
        rw [p4]
        exact ⟨p1, p2, p6⟩
    refine ⟨F3, I3, b3, ?_, ⟨n2, m, b3, bw3, by rw [n7 _ _ (by omega)]; exact z9, n3, n4, Nat.le_refl _, fun _ => kk⟩, kk, ?_, ?_⟩
    · have l0 := l 0 (by omega)
      rw [w0, nI_0] at n1
      have n3' : F3 80 7 = .int (nI b3) := n3
      simp (disch := first | assumption | exact zJa hz (by omega) | exact zJb hz (by omega) | exact ix (zJal hz (by omega)) (by omega) | exact ix (zJbl hz (by omega)) (by omega) | exact bI_or _ | exact zOK_O hz (by decide) (by decide) rfl | exact zOK_T hz (by decide) (by decide) rfl | (refine ix (zOK_l hz (by decide) (by decide) rfl) ?_; omega) | decide | omega) only [eX2_bestSet_0, eX2_bestSet_1, eX2_bestSet_4, eX2_bestSet_5, eX2_bestSet_8, eX2_bestSet_11, eX2_bestSet_12, eX2_bestSet_13, eX2_bestSet_16, eX2_bestSet_19, eX2_bestSet_20, eX2_bestSet_21, eX2_bestSet_24, eX2_bestSet_25, eX2_bestSet_26, eX2_bestSet_29, eX2_bestSet_30, eX2_bestSet_31, eX2_bestSet_32, eX2_bestSet_34, eX2_bestSet_35, eX2_bestSet_38, eX2_bestSet_41, eX2_bestSet_42, eX2_bestSet_43, eX2_bestSet_46, eX2_bestSet_47, eX2_bestSet_48, eX2_bestSet_49, eX2_bestSet_50, eX2_bestSet_53, eX2_bestSet_56, eX2_bestSet_57, eX2_bestSet_58, eX2_bestSet_61, eX2_bestSet_64, eX2_bestSet_65, eX2_bestSet_66, eX2_bestSet_69, eX2_bestSet_70, eX2_bestSet_71, eX2_bestSet_72, eX2_bestSet_75, eX2_bestSet_76, eX2_bestSet_79, Nat.reduceLT, Nat.reduceLeDiff, Nat.reduceEqDiff, Nat.reduceAdd, Nat.reduceMul, Int.reduceLE, Int.reduceLT, Int.reduceEq, not_false_iff, nlr, Nat.zero_add, Nat.add_zero, e10f, e01f, eq_self, true_and, and_true, false_and, and_false, and_self, decide_true, decide_false, mm_bd_i, mm_bd_v, if_true, if_false, not_true_eq_false, not_false_eq_true, nI_1, Bool.true_eq_false, Bool.false_eq_true, bI_0, n_le0, n_0lt, n_lt0, n_0le, n_eq0, n_eqm, n_eq1, n_le1, n_1lt, n_1le, n_lt1, nn_le, nI_ltI, nI_eq, nI_clamp, nI_add, pk_mul, i_eq0, i_eqm, i_0le, i_le0, i_0lt, i_lt0, i_mle, i_ltm, ii_le, iI_lt, iI_eq, ni_le, ni_lt, ni_eq, in_le, in_lt, in_eq, ni_add, in_add, ni_sub, in_sub, ni_mul, in_mul, iI_add, iI_sub, iI_mul, i_p1, iI_neg, n_neg, e9, q6, c, up_s, up_k]
      show mm_E (d + m + 2) mX2_bestSet 33 [.ref 80, .int (nI (sumT jw 0)), .int (nI 0)] [] (z, F1, I, L) = _
      rw [l0]
      simp (disch := first | assumption | exact zJa hz (by omega) | exact zJb hz (by omega) | exact ix (zJal hz (by omega)) (by omega) | exact ix (zJbl hz (by omega)) (by omega) | exact bI_or _ | exact zOK_O hz (by decide) (by decide) rfl | exact zOK_T hz (by decide) (by decide) rfl | (refine ix (zOK_l hz (by decide) (by decide) rfl) ?_; omega) | decide | omega) only [eX2_bestSet_56, eX2_bestSet_57, eX2_bestSet_58, eX2_bestSet_61, eX2_bestSet_64, eX2_bestSet_65, eX2_bestSet_66, eX2_bestSet_69, eX2_bestSet_70, eX2_bestSet_71, eX2_bestSet_72, eX2_bestSet_75, eX2_bestSet_76, eX2_bestSet_79, Nat.reduceLT, Nat.reduceLeDiff, Nat.reduceEqDiff, Nat.reduceAdd, Nat.reduceMul, Int.reduceLE, Int.reduceLT, Int.reduceEq, not_false_iff, nlr, Nat.zero_add, Nat.add_zero, e10f, e01f, eq_self, true_and, and_true, false_and, and_false, and_self, decide_true, decide_false, mm_bd_i, mm_bd_v, if_true, if_false, not_true_eq_false, not_false_eq_true, nI_1, Bool.true_eq_false, Bool.false_eq_true, bI_0, n_le0, n_0lt, n_lt0, n_0le, n_eq0, n_eqm, n_eq1, n_le1, n_1lt, n_1le, n_lt1, nn_le, nI_ltI, nI_eq, nI_clamp, nI_add, pk_mul, i_eq0, i_eqm, i_0le, i_le0, i_0lt, i_lt0, i_mle, i_ltm, ii_le, iI_lt, iI_eq, ni_le, ni_lt, ni_eq, in_le, in_lt, in_eq, ni_add, in_add, ni_sub, in_sub, ni_mul, in_mul, iI_add, iI_sub, iI_mul, i_p1, iI_neg, n_neg, q6', k1, n1, n3']
    · intro r k hn
      rw [n7 r k (by omega), fF1 r k hn]
    · intro r r1 r2
      rw [n8 r (by omega) (by omega), k3 r (by omega) (by omega)]
theorem cJ_tell_full (d : Nat) (z : mm_Z) (F : Nat → Nat → Value) (I : Nat → Nat → Int32) (L : Nat → Nat → Int64) (m : Nat) (ja jb : Nat → Nat) (jv : Nat → Int) (jw : Nat → Nat) (hz : zOK z) (h : cJ0 m ja jb jv jw F I) (hm : m = 12) (a b v w : Value) : mm_E d mX2_tell 0 [.ref 80, a, b, v, w] [] (z, F, I, L) = some (some (.int (-5)), (z, F, I, L)) := by
  have q6 := h.2.2.1
  subst hm
  simp (disch := first | assumption | exact zJa hz (by omega) | exact zJb hz (by omega) | exact ix (zJal hz (by omega)) (by omega) | exact ix (zJbl hz (by omega)) (by omega) | exact bI_or _ | exact zOK_O hz (by decide) (by decide) rfl | exact zOK_T hz (by decide) (by decide) rfl | (refine ix (zOK_l hz (by decide) (by decide) rfl) ?_; omega) | decide | omega) only [eX2_tell_0, eX2_tell_1, eX2_tell_4, eX2_tell_6, eX2_tell_9, eX2_tell_11, eX2_tell_12, eX2_tell_13, eX2_tell_16, eX2_tell_17, eX2_tell_20, eX2_tell_21, eX2_tell_22, eX2_tell_23, eX2_tell_26, eX2_tell_27, eX2_tell_30, eX2_tell_31, eX2_tell_32, eX2_tell_33, eX2_tell_36, eX2_tell_37, eX2_tell_40, eX2_tell_41, eX2_tell_42, eX2_tell_43, eX2_tell_46, eX2_tell_47, eX2_tell_50, eX2_tell_52, eX2_tell_53, eX2_tell_54, eX2_tell_55, eX2_tell_58, eX2_tell_59, eX2_tell_60, eX2_tell_63, eX2_tell_64, eX2_tell_67, eX2_tell_68, eX2_tell_69, Nat.reduceLT, Nat.reduceLeDiff, Nat.reduceEqDiff, Nat.reduceAdd, Nat.reduceMul, Int.reduceLE, Int.reduceLT, Int.reduceEq, not_false_iff, nlr, Nat.zero_add, Nat.add_zero, e10f, e01f, eq_self, true_and, and_true, false_and, and_false, and_self, decide_true, decide_false, mm_bd_i, mm_bd_v, if_true, if_false, not_true_eq_false, not_false_eq_true, nI_1, Bool.true_eq_false, Bool.false_eq_true, bI_0, n_le0, n_0lt, n_lt0, n_0le, n_eq0, n_eqm, n_eq1, n_le1, n_1lt, n_1le, n_lt1, nn_le, nI_ltI, nI_eq, nI_clamp, nI_add, pk_mul, i_eq0, i_eqm, i_0le, i_le0, i_0lt, i_lt0, i_mle, i_ltm, ii_le, iI_lt, iI_eq, ni_le, ni_lt, ni_eq, in_le, in_lt, in_eq, ni_add, in_add, ni_sub, in_sub, ni_mul, in_mul, iI_add, iI_sub, iI_mul, i_p1, iI_neg, n_neg, q6]
theorem cJ_tell (d : Nat) (z : mm_Z) (F : Nat → Nat → Value) (I : Nat → Nat → Int32) (L : Nat → Nat → Int64) (m : Nat) (ja jb : Nat → Nat) (jv : Nat → Int) (jw : Nat → Nat) (hz : zOK z) (h : cJn m ja jb jv jw F I) (hm : m < 12) (a b w : Nat) (v : Int) : ∃ F' I', mm_E d mX2_tell 0 [.ref 80, .int (nI a), .int (nI b), .int (iI v), .int (nI w)] [] (z, F, I, L) = some (some (.int (nI m)), (z, F', I', L)) ∧ cJn (m + 1) (udf ja m a) (udf jb m b) (udf jv m v) (udf jw m w) F' I' ∧ (∀ r, ¬ r = 80 → F' r = F r) ∧ ∀ r, (r < 81 ∨ 84 < r) → I' r = I r := by
  obtain ⟨⟨⟨h0, h1, h2, h3, h4, h5⟩, h6, h7, h8⟩, sd, bb, bw, e9, e7, e8, hsd, hk⟩ := h
  refine ⟨mm_up2 F 80 6 (.int (nI (m + 1))), mm_up2 (mm_up2 (mm_up2 (mm_up2 I 81 m (nI a)) 82 m (nI b)) 83 m (iI v)) 84 m (nI w), ?_, ⟨⟨⟨?_, ?_, ?_, ?_, ?_, ?_⟩, ?_, up_s _ _ _ _, ?_⟩, sd, bb, bw, ?_, ?_, ?_, by omega, fun q => by omega⟩, fun r hr => up_row _ _ _ hr, ?_⟩
  · simp (disch := first | assumption | exact zJa hz (by omega) | exact zJb hz (by omega) | exact ix (zJal hz (by omega)) (by omega) | exact ix (zJbl hz (by omega)) (by omega) | exact bI_or _ | exact zOK_O hz (by decide) (by decide) rfl | exact zOK_T hz (by decide) (by decide) rfl | (refine ix (zOK_l hz (by decide) (by decide) rfl) ?_; omega) | decide | omega) only [eX2_tell_0, eX2_tell_1, eX2_tell_4, eX2_tell_6, eX2_tell_9, eX2_tell_11, eX2_tell_12, eX2_tell_13, eX2_tell_16, eX2_tell_17, eX2_tell_20, eX2_tell_21, eX2_tell_22, eX2_tell_23, eX2_tell_26, eX2_tell_27, eX2_tell_30, eX2_tell_31, eX2_tell_32, eX2_tell_33, eX2_tell_36, eX2_tell_37, eX2_tell_40, eX2_tell_41, eX2_tell_42, eX2_tell_43, eX2_tell_46, eX2_tell_47, eX2_tell_50, eX2_tell_52, eX2_tell_53, eX2_tell_54, eX2_tell_55, eX2_tell_58, eX2_tell_59, eX2_tell_60, eX2_tell_63, eX2_tell_64, eX2_tell_67, eX2_tell_68, eX2_tell_69, Nat.reduceLT, Nat.reduceLeDiff, Nat.reduceEqDiff, Nat.reduceAdd, Nat.reduceMul, Int.reduceLE, Int.reduceLT, Int.reduceEq, not_false_iff, nlr, Nat.zero_add, Nat.add_zero, e10f, e01f, eq_self, true_and, and_true, false_and, and_false, and_self, decide_true, decide_false, mm_bd_i, mm_bd_v, if_true, if_false, not_true_eq_false, not_false_eq_true, nI_1, Bool.true_eq_false, Bool.false_eq_true, bI_0, n_le0, n_0lt, n_lt0, n_0le, n_eq0, n_eqm, n_eq1, n_le1, n_1lt, n_1le, n_lt1, nn_le, nI_ltI, nI_eq, nI_clamp, nI_add, pk_mul, i_eq0, i_eqm, i_0le, i_le0, i_0lt, i_lt0, i_mle, i_ltm, ii_le, iI_lt, iI_eq, ni_le, ni_lt, ni_eq, in_le, in_lt, in_eq, ni_add, in_add, ni_sub, in_sub, ni_mul, in_mul, iI_add, iI_sub, iI_mul, i_p1, iI_neg, n_neg, h0, h1, h2, h3, h7, hm, up_s, up_k, nI_pred]
  · simp [mm_up2, h0]
  · simp [mm_up2, h1]
  · simp [mm_up2, h2]
  · simp [mm_up2, h3]
  · simp [mm_up2, h4]
  · simp [mm_up2, h5]
  · intro i hi
    rw [up_r _ _ _ _ (by decide), up_r _ _ _ _ (by decide)]
    exact h6 i hi
  · intro k hk'
    by_cases q : k = m
    · subst q; simp [mm_up2, udf]
    · have := h8 k (by omega)
      simp [mm_up2, udf, q, this]
  · simp [mm_up2, e9]
  · simp [mm_up2, e7]
  · simp [mm_up2, e8]
  · intro r hr
    rw [up_row _ _ _ (by omega), up_row _ _ _ (by omega), up_row _ _ _ (by omega), up_row _ _ _ (by omega)]
