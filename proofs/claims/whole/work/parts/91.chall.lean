/-! the class: the hall's sweeps -/
theorem wOK_okH (n : Nat) (hs : Nat → List (Int × Int × Nat)) (st : Nat → Option (Nat × Nat)) (w : wOK n hs st) {s : Nat} (h : s < n) : okH (hs s) := by
  have g := w.2 s h
  refine ⟨g.1, fun k hk => ?_⟩
  have := g.2.1 _ (hg_mem hk)
  exact ⟨this.1, this.2.1, this.2.2.1, this.2.2.2⟩
theorem wOK_unq (n : Nat) (hs : Nat → List (Int × Int × Nat)) (st : Nat → Option (Nat × Nat)) (w : wOK n hs st) {s : Nat} (h : s < n) : unq (hs s) := by
  have g := (w.2 s h).2.2.1
  intro j j' hj hj' e1 e2
  have lj : j < ((hs s).map (fun q => (q.1, q.2.1))).length := by rw [List.length_map]; exact hj
  have lj' : j' < ((hs s).map (fun q => (q.1, q.2.1))).length := by rw [List.length_map]; exact hj'
  have key : ∀ i (hi : i < ((hs s).map (fun q => (q.1, q.2.1))).length), ((hs s).map (fun q => (q.1, q.2.1)))[i] = ((hg (hs s) i).1, (hg (hs s) i).2.1) := by
    intro i hi
    rw [List.getElem_map]
    have hi' : i < (hs s).length := by rw [List.length_map] at hi; exact hi
    unfold hg
    rw [List.getD_eq_getElem?_getD, List.getElem?_eq_getElem hi']
    rfl
  apply (List.getElem_inj (h₀ := lj) (h₁ := lj') g).mp
  rw [key, key, e1, e2]
/-- the hall's refs -/
def cH0 (F : Nat → Nat → Value) : Prop := (F 3 0 = .ref 4 ∧ F 3 1 = .ref 5 ∧ F 3 2 = .ref 7 ∧ F 5 0 = .ref 6 ∧ F 7 0 = .ref 8) ∧ ∀ s, s < 8 → F 4 s = .ref (9 + 6 * s) ∧ F (9 + 6 * s) 3 = .ref (13 + 6 * s) ∧ F (13 + 6 * s) 0 = .ref (14 + 6 * s)
/-- the sweeps as the class holds them -/
def cHs (n : Nat) (hs : Nat → List (Int × Int × Nat)) (st : Nat → Option (Nat × Nat)) (F : Nat → Nat → Value) (I : Nat → Nat → Int32) : Prop := F 3 3 = .int (nI n) ∧ F 3 4 = .int (nI (cst st n)) ∧ (∀ s, s < n → swp s (hs s) F I ∧ F (9 + 6 * s) 5 = .int (bI (decide (¬ st s = none))) ∧ ∀ c t, st s = some (c, t) → F (9 + 6 * s) 6 = .int (nI c) ∧ F (9 + 6 * s) 7 = .int (nI t)) ∧ ∀ s, n ≤ s → s < 8 → swp s [] F I ∧ F (9 + 6 * s) 5 = .int (bI false)
def cHp (n : Nat) (hs : Nat → List (Int × Int × Nat)) (st : Nat → Option (Nat × Nat)) (F : Nat → Nat → Value) (L : Nat → Nat → Int64) : Prop := ∀ s c t, s < n → st s = some (c, t) → pLd (13 + 6 * s) (14 + 6 * s) (hs s) c t F L
theorem cH_at (d : Nat) (z : mm_Z) (F : Nat → Nat → Value) (I : Nat → Nat → Int32) (L : Nat → Nat → Int64) (n : Nat) (hs : Nat → List (Int × Int × Nat)) (st : Nat → Option (Nat × Nat)) (hz : zOK z) (w : wOK n hs st) (h0 : cH0 F) (h : cHs n hs st F I) (s : Nat) (hs' : s < n) : mm_E (d + 1) mX1_sweepAt 0 [.ref 3, .int (nI s)] [] (z, F, I, L) = some (some (.ref (9 + 6 * s)), (z, F, I, L)) := by
  have w8 := w.1
  have f := h0.2 s (by omega)
  have q : mm_rv (F 4 (nI s).toNatClampNeg) = true := by rw [nI_clamp (by omega), f.1]; rfl
  have e : 0 ≤ (s : Int) ∧ (s : Int) ≤ (n : Int) - 1 := by omega
  simp (disch := first | assumption | exact zSw hz (by omega) | exact zSx hz (by omega) | exact zSy hz (by omega) | exact zSm hz (by omega) | exact zSp hz (by omega) | exact ix (zSxl hz (by omega)) (by omega) | exact ix (zSyl hz (by omega)) (by omega) | exact ix (zSml hz (by omega)) (by omega) | exact bI_or _ | exact zOK_O hz (by decide) (by decide) rfl | exact zOK_T hz (by decide) (by decide) rfl | (refine ix (zOK_l hz (by decide) (by decide) rfl) ?_; omega) | decide | omega) only [eX1_sweepAt_0, eX1_sweepAt_1, eX1_sweepAt_2, eX1_sweepAt_3, eX1_sweepAt_6, eX1_sweepAt_7, eX1_sweepAt_8, eX1_sweepAt_11, eX1_sweepAt_14, eX1_sweepAt_15, eX1_sweepAt_18, eX1_sweepAt_19, eX1_sweepAt_20, eX1_sweepAt_23, eX1_sweepAt_24, eX1_sweepAt_24N, Int.cast_ofNat_Int, Nat.reduceLT, Nat.reduceLeDiff, Nat.reduceEqDiff, Nat.reduceAdd, Nat.reduceMul, Int.reduceLE, Int.reduceLT, Int.reduceEq, not_false_iff, nlr, Nat.zero_add, Nat.add_zero, e10f, e01f, eq_self, true_and, and_true, false_and, and_false, and_self, decide_true, decide_false, mm_bd_i, mm_bd_v, if_true, if_false, not_true_eq_false, not_false_eq_true, nI_1, Bool.true_eq_false, Bool.false_eq_true, bI_0, n_le0, n_0lt, n_lt0, n_0le, n_eq0, n_eqm, n_eq1, n_le1, n_1lt, n_1le, n_lt1, nn_le, nI_ltI, nI_eq, nI_clamp, nI_add, pk_mul, i_eq0, i_eqm, i_0le, i_le0, i_0lt, i_lt0, i_mle, i_ltm, ii_le, iI_lt, iI_eq, ni_le, ni_lt, ni_eq, in_le, in_lt, in_eq, ni_add, in_add, ni_sub, in_sub, ni_mul, in_mul, iI_add, iI_sub, iI_mul, i_p1, iI_neg, n_neg, h.1, n_s1, cX_within, tI0, tI1, tIm1, tIm7, nI_toInt, iI_toInt, Int.cast_ofNat_Int, e, h0.1.1, f.1]
theorem cH_at_no (d : Nat) (z : mm_Z) (F : Nat → Nat → Value) (I : Nat → Nat → Int32) (L : Nat → Nat → Int64) (n : Nat) (hs : Nat → List (Int × Int × Nat)) (st : Nat → Option (Nat × Nat)) (hz : zOK z) (w : wOK n hs st) (h : cHs n hs st F I) (x : Int32) (hx : ¬ (0 ≤ x.toInt ∧ x.toInt < n)) : mm_E (d + 1) mX1_sweepAt 0 [.ref 3, .int x] [] (z, F, I, L) = some (some .null, (z, F, I, L)) := by
  have w8 := w.1
  have e : ¬ (0 ≤ x.toInt ∧ x.toInt ≤ (n : Int) - 1) := by omega
  simp (disch := first | assumption | exact zSw hz (by omega) | exact zSx hz (by omega) | exact zSy hz (by omega) | exact zSm hz (by omega) | exact zSp hz (by omega) | exact ix (zSxl hz (by omega)) (by omega) | exact ix (zSyl hz (by omega)) (by omega) | exact ix (zSml hz (by omega)) (by omega) | exact bI_or _ | exact zOK_O hz (by decide) (by decide) rfl | exact zOK_T hz (by decide) (by decide) rfl | (refine ix (zOK_l hz (by decide) (by decide) rfl) ?_; omega) | decide | omega) only [eX1_sweepAt_0, eX1_sweepAt_1, eX1_sweepAt_2, eX1_sweepAt_3, eX1_sweepAt_6, eX1_sweepAt_7, eX1_sweepAt_8, eX1_sweepAt_11, eX1_sweepAt_14, eX1_sweepAt_15, eX1_sweepAt_18, eX1_sweepAt_19, eX1_sweepAt_20, eX1_sweepAt_23, eX1_sweepAt_24, eX1_sweepAt_24N, Int.cast_ofNat_Int, Nat.reduceLT, Nat.reduceLeDiff, Nat.reduceEqDiff, Nat.reduceAdd, Nat.reduceMul, Int.reduceLE, Int.reduceLT, Int.reduceEq, not_false_iff, nlr, Nat.zero_add, Nat.add_zero, e10f, e01f, eq_self, true_and, and_true, false_and, and_false, and_self, decide_true, decide_false, mm_bd_i, mm_bd_v, if_true, if_false, not_true_eq_false, not_false_eq_true, nI_1, Bool.true_eq_false, Bool.false_eq_true, bI_0, n_le0, n_0lt, n_lt0, n_0le, n_eq0, n_eqm, n_eq1, n_le1, n_1lt, n_1le, n_lt1, nn_le, nI_ltI, nI_eq, nI_clamp, nI_add, pk_mul, i_eq0, i_eqm, i_0le, i_le0, i_0lt, i_lt0, i_mle, i_ltm, ii_le, iI_lt, iI_eq, ni_le, ni_lt, ni_eq, in_le, in_lt, in_eq, ni_add, in_add, ni_sub, in_sub, ni_mul, in_mul, iI_add, iI_sub, iI_mul, i_p1, iI_neg, n_neg, h.1, n_s1, cX_within, tI0, tI1, tIm1, tIm7, nI_toInt, iI_toInt, Int.cast_ofNat_Int, e]
theorem cX_sweep_full (d : Nat) (z : mm_Z) (F : Nat → Nat → Value) (I : Nat → Nat → Int32) (L : Nat → Nat → Int64) (n : Nat) (hs : Nat → List (Int × Int × Nat)) (st : Nat → Option (Nat × Nat)) (hz : zOK z) (ht : cTop F) (h : cHs n hs st F I) (h8 : n = 8) : mm_E (d + 1) mX10_sweep 0 [.ref 2] [] (z, F, I, L) = some (some (.int (-5)), (z, F, I, L)) := by
  have h3 := h.1
  subst h8
  simp (disch := first | assumption | exact zSw hz (by omega) | exact zSx hz (by omega) | exact zSy hz (by omega) | exact zSm hz (by omega) | exact zSp hz (by omega) | exact ix (zSxl hz (by omega)) (by omega) | exact ix (zSyl hz (by omega)) (by omega) | exact ix (zSml hz (by omega)) (by omega) | exact bI_or _ | exact zOK_O hz (by decide) (by decide) rfl | exact zOK_T hz (by decide) (by decide) rfl | (refine ix (zOK_l hz (by decide) (by decide) rfl) ?_; omega) | decide | omega) only [eX10_sweep_0, eX10_sweep_1, eX10_sweep_4, eX10_sweep_7, eX1_addSweep_0, eX1_addSweep_1, eX1_addSweep_4, eX1_addSweep_6, eX1_addSweep_9, eX1_addSweep_11, eX1_addSweep_12, eX1_addSweep_13, eX1_addSweep_14, eX1_addSweep_17, eX1_addSweep_18, eX1_addSweep_19, eX1_addSweep_22, eX1_addSweep_23, eX1_addSweep_26, eX1_addSweep_27, eX1_addSweep_28, Int.cast_ofNat_Int, Nat.reduceLT, Nat.reduceLeDiff, Nat.reduceEqDiff, Nat.reduceAdd, Nat.reduceMul, Int.reduceLE, Int.reduceLT, Int.reduceEq, not_false_iff, nlr, Nat.zero_add, Nat.add_zero, e10f, e01f, eq_self, true_and, and_true, false_and, and_false, and_self, decide_true, decide_false, mm_bd_i, mm_bd_v, if_true, if_false, not_true_eq_false, not_false_eq_true, nI_1, Bool.true_eq_false, Bool.false_eq_true, bI_0, n_le0, n_0lt, n_lt0, n_0le, n_eq0, n_eqm, n_eq1, n_le1, n_1lt, n_1le, n_lt1, nn_le, nI_ltI, nI_eq, nI_clamp, nI_add, pk_mul, i_eq0, i_eqm, i_0le, i_le0, i_0lt, i_lt0, i_mle, i_ltm, ii_le, iI_lt, iI_eq, ni_le, ni_lt, ni_eq, in_le, in_lt, in_eq, ni_add, in_add, ni_sub, in_sub, ni_mul, in_mul, iI_add, iI_sub, iI_mul, i_p1, iI_neg, n_neg, ht.1, h3]
theorem cX_sweep (d : Nat) (z : mm_Z) (F : Nat → Nat → Value) (I : Nat → Nat → Int32) (L : Nat → Nat → Int64) (n : Nat) (hs : Nat → List (Int × Int × Nat)) (st : Nat → Option (Nat × Nat)) (hz : zOK z) (ht : cTop F) (h : cHs n hs st F I) (h8 : n < 8) : mm_E (d + 1) mX10_sweep 0 [.ref 2] [] (z, F, I, L) = some (some (.int (nI n)), (z, mm_up2 F 3 3 (.int (nI (n + 1))), I, L)) := by
  have h3 := h.1
  simp (disch := first | assumption | exact zSw hz (by omega) | exact zSx hz (by omega) | exact zSy hz (by omega) | exact zSm hz (by omega) | exact zSp hz (by omega) | exact ix (zSxl hz (by omega)) (by omega) | exact ix (zSyl hz (by omega)) (by omega) | exact ix (zSml hz (by omega)) (by omega) | exact bI_or _ | exact zOK_O hz (by decide) (by decide) rfl | exact zOK_T hz (by decide) (by decide) rfl | (refine ix (zOK_l hz (by decide) (by decide) rfl) ?_; omega) | decide | omega) only [eX10_sweep_0, eX10_sweep_1, eX10_sweep_4, eX10_sweep_7, eX1_addSweep_0, eX1_addSweep_1, eX1_addSweep_4, eX1_addSweep_6, eX1_addSweep_9, eX1_addSweep_11, eX1_addSweep_12, eX1_addSweep_13, eX1_addSweep_14, eX1_addSweep_17, eX1_addSweep_18, eX1_addSweep_19, eX1_addSweep_22, eX1_addSweep_23, eX1_addSweep_26, eX1_addSweep_27, eX1_addSweep_28, Int.cast_ofNat_Int, Nat.reduceLT, Nat.reduceLeDiff, Nat.reduceEqDiff, Nat.reduceAdd, Nat.reduceMul, Int.reduceLE, Int.reduceLT, Int.reduceEq, not_false_iff, nlr, Nat.zero_add, Nat.add_zero, e10f, e01f, eq_self, true_and, and_true, false_and, and_false, and_self, decide_true, decide_false, mm_bd_i, mm_bd_v, if_true, if_false, not_true_eq_false, not_false_eq_true, nI_1, Bool.true_eq_false, Bool.false_eq_true, bI_0, n_le0, n_0lt, n_lt0, n_0le, n_eq0, n_eqm, n_eq1, n_le1, n_1lt, n_1le, n_lt1, nn_le, nI_ltI, nI_eq, nI_clamp, nI_add, pk_mul, i_eq0, i_eqm, i_0le, i_le0, i_0lt, i_lt0, i_mle, i_ltm, ii_le, iI_lt, iI_eq, ni_le, ni_lt, ni_eq, in_le, in_lt, in_eq, ni_add, in_add, ni_sub, in_sub, ni_mul, in_mul, iI_add, iI_sub, iI_mul, i_p1, iI_neg, n_neg, ht.1, h3, h8, up_s, nI_pred]
theorem swp_F {s : Nat} {l : List (Int × Int × Nat)} {F F' : Nat → Nat → Value} {I I' : Nat → Nat → Int32} (h : swp s l F I) (hF : ∀ j, ¬ j = 5 → ¬ j = 6 → ¬ j = 7 → F' (9 + 6 * s) j = F (9 + 6 * s) j) (h1 : I' (10 + 6 * s) = I (10 + 6 * s)) (h2 : I' (11 + 6 * s) = I (11 + 6 * s)) (h3 : I' (12 + 6 * s) = I (12 + 6 * s)) : swp s l F' I' := by
  unfold swp at *
  rw [hF 0 (by omega) (by omega) (by omega), hF 1 (by omega) (by omega) (by omega), hF 2 (by omega) (by omega) (by omega), hF 4 (by omega) (by omega) (by omega), h1, h2, h3]
  exact h
theorem cst_udf (st : Nat → Option (Nat × Nat)) (v : Option (Nat × Nat)) (a : Nat) : ∀ n, n ≤ a → cst (udf st a v) n = cst st n := by
  intro n
  induction n with
  | zero => intro _; rfl
  | succ n ih => intro h; rw [cst, cst, ih (by omega), udf_n _ _ (by omega)]
theorem cHs_sweep (n : Nat) (hs : Nat → List (Int × Int × Nat)) (st : Nat → Option (Nat × Nat)) {F : Nat → Nat → Value} {I : Nat → Nat → Int32} (h : cHs n hs st F I) (h8 : n < 8) : cHs (n + 1) (udf hs n []) (udf st n none) (mm_up2 F 3 3 (.int (nI (n + 1)))) I := by
  obtain ⟨h3, h4, hA, hB⟩ := h
  refine ⟨up_s _ _ _ _, ?_, fun s hs' => ?_, fun s a b => ?_⟩
  · rw [up_k _ _ _ _ (by decide), h4, cst, udf_s, if_pos rfl, Nat.add_zero, cst_udf st none n n (Nat.le_refl _)]
  · by_cases e : s = n
    · subst e
      rw [udf_s, udf_s]
      have g := hB s (Nat.le_refl _) h8
      refine ⟨swp_F g.1 (fun j _ _ _ => up_r _ _ _ _ (by omega)) rfl rfl rfl, by rw [up_r _ _ _ _ (by omega)]; simpa using g.2, fun c t q => absurd q (by simp)⟩
    · rw [udf_n _ _ e, udf_n _ _ e]
      have g := hA s (by omega)
      refine ⟨swp_F g.1 (fun j _ _ _ => up_r _ _ _ _ (by omega)) rfl rfl rfl, by rw [up_r _ _ _ _ (by omega)]; exact g.2.1, fun c t q => ?_⟩
      rw [up_r _ _ _ _ (by omega), up_r _ _ _ _ (by omega)]
      exact g.2.2 c t q
  · have g := hB s (by omega) b
    exact ⟨swp_F g.1 (fun j _ _ _ => up_r _ _ _ _ (by omega)) rfl rfl rfl, by rw [up_r _ _ _ _ (by omega)]; exact g.2⟩
theorem cS_has (d : Nat) (z : mm_Z) (F : Nat → Nat → Value) (I : Nat → Nat → Int32) (L : Nat → Nat → Int64) (s : Nat) (hs : s < 8) (l : List (Int × Int × Nat)) (hz : zOK z) (ok : okH l) (h : swp s l F I) (x y : Int) (hx : -7 ≤ x ∧ x ≤ 7) (hy : -7 ≤ y ∧ y ≤ 7) (b : Bool) (hb : b = true ↔ ∃ j, j < l.length ∧ (hg l j).1 = x ∧ (hg l j).2.1 = y) : mm_E d mX7_hasHitAt 0 [.ref (9 + 6 * s), .int (iI x), .int (iI y), uu] [] (z, F, I, L) = some (some (.int (bI b)), (z, F, I, L)) := by
  have ol := ok.1
  obtain ⟨⟨w0, w1, w2⟩, w4, w5⟩ := h
  have lo : ∀ i, i ≤ l.length → (∀ j, j < i → ¬ ((hg l j).1 = x ∧ (hg l j).2.1 = y)) → mm_E d mX7_hasHitAt 2 [.ref (9 + 6 * s), .int (iI x), .int (iI y), .int (nI i)] [] (z, F, I, L) = some (some (.int (bI b)), (z, F, I, L)) := by
    apply lp
    · intro hn
      have b0 : b = false := by
        cases b with
        | false => rfl
        | true => obtain ⟨j, q1, q2⟩ := hb.mp rfl; exact absurd q2 (hn j q1)
      subst b0
      rw [eX7_hasHitAt_2]
      simp (disch := first | assumption | exact zSw hz (by omega) | exact zSx hz (by omega) | exact zSy hz (by omega) | exact zSm hz (by omega) | exact zSp hz (by omega) | exact ix (zSxl hz (by omega)) (by omega) | exact ix (zSyl hz (by omega)) (by omega) | exact ix (zSml hz (by omega)) (by omega) | exact bI_or _ | exact zOK_O hz (by decide) (by decide) rfl | exact zOK_T hz (by decide) (by decide) rfl | (refine ix (zOK_l hz (by decide) (by decide) rfl) ?_; omega) | decide | omega) only [eX7_hasHitAt_0, eX7_hasHitAt_1, eX7_hasHitAt_3, eX7_hasHitAt_4, eX7_hasHitAt_7, eX7_hasHitAt_10, eX7_hasHitAt_11, eX7_hasHitAt_14, eX7_hasHitAt_15, eX7_hasHitAt_16, eX7_hasHitAt_17, eX7_hasHitAt_20, eX7_hasHitAt_21, eX7_hasHitAt_24, eX7_hasHitAt_25, eX7_hasHitAt_26, eX7_hasHitAt_27, eX7_hasHitAt_30, eX7_hasHitAt_31, eX7_hasHitAt_32, eX7_hasHitAt_35, eX7_hasHitAt_38, eX7_hasHitAt_39, Int.cast_ofNat_Int, Nat.reduceLT, Nat.reduceLeDiff, Nat.reduceEqDiff, Nat.reduceAdd, Nat.reduceMul, Int.reduceLE, Int.reduceLT, Int.reduceEq, not_false_iff, nlr, Nat.zero_add, Nat.add_zero, e10f, e01f, eq_self, true_and, and_true, false_and, and_false, and_self, decide_true, decide_false, mm_bd_i, mm_bd_v, if_true, if_false, not_true_eq_false, not_false_eq_true, nI_1, Bool.true_eq_false, Bool.false_eq_true, bI_0, n_le0, n_0lt, n_lt0, n_0le, n_eq0, n_eqm, n_eq1, n_le1, n_1lt, n_1le, n_lt1, nn_le, nI_ltI, nI_eq, nI_clamp, nI_add, pk_mul, i_eq0, i_eqm, i_0le, i_le0, i_0lt, i_lt0, i_mle, i_ltm, ii_le, iI_lt, iI_eq, ni_le, ni_lt, ni_eq, in_le, in_lt, in_eq, ni_add, in_add, ni_sub, in_sub, ni_mul, in_mul, iI_add, iI_sub, iI_mul, i_p1, iI_neg, n_neg, w4, bI_f]
    · intro i hi ih hn
      have q := w5 i hi
      have o := ok.2 i hi
      rw [eX7_hasHitAt_2]
      by_cases c1 : (hg l i).1 = x
      · by_cases c2 : (hg l i).2.1 = y
        · have b1 : b = true := hb.mpr ⟨i, hi, c1, c2⟩
          subst b1
          rw [c1] at q
          rw [c2] at q
          simp (disch := first | assumption | exact zSw hz (by omega) | exact zSx hz (by omega) | exact zSy hz (by omega) | exact zSm hz (by omega) | exact zSp hz (by omega) | exact ix (zSxl hz (by omega)) (by omega) | exact ix (zSyl hz (by omega)) (by omega) | exact ix (zSml hz (by omega)) (by omega) | exact bI_or _ | exact zOK_O hz (by decide) (by decide) rfl | exact zOK_T hz (by decide) (by decide) rfl | (refine ix (zOK_l hz (by decide) (by decide) rfl) ?_; omega) | decide | omega) only [eX7_hasHitAt_0, eX7_hasHitAt_1, eX7_hasHitAt_3, eX7_hasHitAt_4, eX7_hasHitAt_7, eX7_hasHitAt_10, eX7_hasHitAt_11, eX7_hasHitAt_14, eX7_hasHitAt_15, eX7_hasHitAt_16, eX7_hasHitAt_17, eX7_hasHitAt_20, eX7_hasHitAt_21, eX7_hasHitAt_24, eX7_hasHitAt_25, eX7_hasHitAt_26, eX7_hasHitAt_27, eX7_hasHitAt_30, eX7_hasHitAt_31, eX7_hasHitAt_32, eX7_hasHitAt_35, eX7_hasHitAt_38, eX7_hasHitAt_39, Int.cast_ofNat_Int, Nat.reduceLT, Nat.reduceLeDiff, Nat.reduceEqDiff, Nat.reduceAdd, Nat.reduceMul, Int.reduceLE, Int.reduceLT, Int.reduceEq, not_false_iff, nlr, Nat.zero_add, Nat.add_zero, e10f, e01f, eq_self, true_and, and_true, false_and, and_false, and_self, decide_true, decide_false, mm_bd_i, mm_bd_v, if_true, if_false, not_true_eq_false, not_false_eq_true, nI_1, Bool.true_eq_false, Bool.false_eq_true, bI_0, n_le0, n_0lt, n_lt0, n_0le, n_eq0, n_eqm, n_eq1, n_le1, n_1lt, n_1le, n_lt1, nn_le, nI_ltI, nI_eq, nI_clamp, nI_add, pk_mul, i_eq0, i_eqm, i_0le, i_le0, i_0lt, i_lt0, i_mle, i_ltm, ii_le, iI_lt, iI_eq, ni_le, ni_lt, ni_eq, in_le, in_lt, in_eq, ni_add, in_add, ni_sub, in_sub, ni_mul, in_mul, iI_add, iI_sub, iI_mul, i_p1, iI_neg, n_neg, w0, w1, w4, hi, q.1, q.2.1, bI_t]
        · have e := ih (fun j hj => by
            by_cases g : j = i
            · subst g; exact fun g => c2 g.2
            · exact hn j (by omega))
          rw [← e]
          simp (disch := first | assumption | exact zSw hz (by omega) | exact zSx hz (by omega) | exact zSy hz (by omega) | exact zSm hz (by omega) | exact zSp hz (by omega) | exact ix (zSxl hz (by omega)) (by omega) | exact ix (zSyl hz (by omega)) (by omega) | exact ix (zSml hz (by omega)) (by omega) | exact bI_or _ | exact zOK_O hz (by decide) (by decide) rfl | exact zOK_T hz (by decide) (by decide) rfl | (refine ix (zOK_l hz (by decide) (by decide) rfl) ?_; omega) | decide | omega) only [eX7_hasHitAt_0, eX7_hasHitAt_1, eX7_hasHitAt_3, eX7_hasHitAt_4, eX7_hasHitAt_7, eX7_hasHitAt_10, eX7_hasHitAt_11, eX7_hasHitAt_14, eX7_hasHitAt_15, eX7_hasHitAt_16, eX7_hasHitAt_17, eX7_hasHitAt_20, eX7_hasHitAt_21, eX7_hasHitAt_24, eX7_hasHitAt_25, eX7_hasHitAt_26, eX7_hasHitAt_27, eX7_hasHitAt_30, eX7_hasHitAt_31, eX7_hasHitAt_32, eX7_hasHitAt_35, eX7_hasHitAt_38, eX7_hasHitAt_39, Int.cast_ofNat_Int, Nat.reduceLT, Nat.reduceLeDiff, Nat.reduceEqDiff, Nat.reduceAdd, Nat.reduceMul, Int.reduceLE, Int.reduceLT, Int.reduceEq, not_false_iff, nlr, Nat.zero_add, Nat.add_zero, e10f, e01f, eq_self, true_and, and_true, false_and, and_false, and_self, decide_true, decide_false, mm_bd_i, mm_bd_v, if_true, if_false, not_true_eq_false, not_false_eq_true, nI_1, Bool.true_eq_false, Bool.false_eq_true, bI_0, n_le0, n_0lt, n_lt0, n_0le, n_eq0, n_eqm, n_eq1, n_le1, n_1lt, n_1le, n_lt1, nn_le, nI_ltI, nI_eq, nI_clamp, nI_add, pk_mul, i_eq0, i_eqm, i_0le, i_le0, i_0lt, i_lt0, i_mle, i_ltm, ii_le, iI_lt, iI_eq, ni_le, ni_lt, ni_eq, in_le, in_lt, in_eq, ni_add, in_add, ni_sub, in_sub, ni_mul, in_mul, iI_add, iI_sub, iI_mul, i_p1, iI_neg, n_neg, w0, w1, w4, hi, q.1, q.2.1, c1, c2]
      · have e := ih (fun j hj => by
            by_cases g : j = i
            · subst g; exact fun g => c1 g.1
            · exact hn j (by omega))
        rw [← e]
        simp (disch := first | assumption | exact zSw hz (by omega) | exact zSx hz (by omega) | exact zSy hz (by omega) | exact zSm hz (by omega) | exact zSp hz (by omega) | exact ix (zSxl hz (by omega)) (by omega) | exact ix (zSyl hz (by omega)) (by omega) | exact ix (zSml hz (by omega)) (by omega) | exact bI_or _ | exact zOK_O hz (by decide) (by decide) rfl | exact zOK_T hz (by decide) (by decide) rfl | (refine ix (zOK_l hz (by decide) (by decide) rfl) ?_; omega) | decide | omega) only [eX7_hasHitAt_0, eX7_hasHitAt_1, eX7_hasHitAt_3, eX7_hasHitAt_4, eX7_hasHitAt_7, eX7_hasHitAt_10, eX7_hasHitAt_11, eX7_hasHitAt_14, eX7_hasHitAt_15, eX7_hasHitAt_16, eX7_hasHitAt_17, eX7_hasHitAt_20, eX7_hasHitAt_21, eX7_hasHitAt_24, eX7_hasHitAt_25, eX7_hasHitAt_26, eX7_hasHitAt_27, eX7_hasHitAt_30, eX7_hasHitAt_31, eX7_hasHitAt_32, eX7_hasHitAt_35, eX7_hasHitAt_38, eX7_hasHitAt_39, Int.cast_ofNat_Int, Nat.reduceLT, Nat.reduceLeDiff, Nat.reduceEqDiff, Nat.reduceAdd, Nat.reduceMul, Int.reduceLE, Int.reduceLT, Int.reduceEq, not_false_iff, nlr, Nat.zero_add, Nat.add_zero, e10f, e01f, eq_self, true_and, and_true, false_and, and_false, and_self, decide_true, decide_false, mm_bd_i, mm_bd_v, if_true, if_false, not_true_eq_false, not_false_eq_true, nI_1, Bool.true_eq_false, Bool.false_eq_true, bI_0, n_le0, n_0lt, n_lt0, n_0le, n_eq0, n_eqm, n_eq1, n_le1, n_1lt, n_1le, n_lt1, nn_le, nI_ltI, nI_eq, nI_clamp, nI_add, pk_mul, i_eq0, i_eqm, i_0le, i_le0, i_0lt, i_lt0, i_mle, i_ltm, ii_le, iI_lt, iI_eq, ni_le, ni_lt, ni_eq, in_le, in_lt, in_eq, ni_add, in_add, ni_sub, in_sub, ni_mul, in_mul, iI_add, iI_sub, iI_mul, i_p1, iI_neg, n_neg, w0, w1, w4, hi, q.1, q.2.1, c1]
  rw [← lo 0 (by omega) (fun j hj => absurd hj (by omega))]
  simp (disch := first | assumption | exact zSw hz (by omega) | exact zSx hz (by omega) | exact zSy hz (by omega) | exact zSm hz (by omega) | exact zSp hz (by omega) | exact ix (zSxl hz (by omega)) (by omega) | exact ix (zSyl hz (by omega)) (by omega) | exact ix (zSml hz (by omega)) (by omega) | exact bI_or _ | exact zOK_O hz (by decide) (by decide) rfl | exact zOK_T hz (by decide) (by decide) rfl | (refine ix (zOK_l hz (by decide) (by decide) rfl) ?_; omega) | decide | omega) only [eX7_hasHitAt_0, eX7_hasHitAt_1, eX7_hasHitAt_3, eX7_hasHitAt_4, eX7_hasHitAt_7, eX7_hasHitAt_10, eX7_hasHitAt_11, eX7_hasHitAt_14, eX7_hasHitAt_15, eX7_hasHitAt_16, eX7_hasHitAt_17, eX7_hasHitAt_20, eX7_hasHitAt_21, eX7_hasHitAt_24, eX7_hasHitAt_25, eX7_hasHitAt_26, eX7_hasHitAt_27, eX7_hasHitAt_30, eX7_hasHitAt_31, eX7_hasHitAt_32, eX7_hasHitAt_35, eX7_hasHitAt_38, eX7_hasHitAt_39, Int.cast_ofNat_Int, Nat.reduceLT, Nat.reduceLeDiff, Nat.reduceEqDiff, Nat.reduceAdd, Nat.reduceMul, Int.reduceLE, Int.reduceLT, Int.reduceEq, not_false_iff, nlr, Nat.zero_add, Nat.add_zero, e10f, e01f, eq_self, true_and, and_true, false_and, and_false, and_self, decide_true, decide_false, mm_bd_i, mm_bd_v, if_true, if_false, not_true_eq_false, not_false_eq_true, nI_1, Bool.true_eq_false, Bool.false_eq_true, bI_0, n_le0, n_0lt, n_lt0, n_0le, n_eq0, n_eqm, n_eq1, n_le1, n_1lt, n_1le, n_lt1, nn_le, nI_ltI, nI_eq, nI_clamp, nI_add, pk_mul, i_eq0, i_eqm, i_0le, i_le0, i_0lt, i_lt0, i_mle, i_ltm, ii_le, iI_lt, iI_eq, ni_le, ni_lt, ni_eq, in_le, in_lt, in_eq, ni_add, in_add, ni_sub, in_sub, ni_mul, in_mul, iI_add, iI_sub, iI_mul, i_p1, iI_neg, n_neg]
  rfl
theorem cS_add_full (d : Nat) (z : mm_Z) (F : Nat → Nat → Value) (I : Nat → Nat → Int32) (L : Nat → Nat → Int64) (s : Nat) (hs : s < 8) (l : List (Int × Int × Nat)) (hz : zOK z) (h : swp s l F I) (hl : l.length = 16) (x y m : Value) : mm_E d mX7_addHit 0 [.ref (9 + 6 * s), x, y, m] [] (z, F, I, L) = some (some (.int (-5)), (z, F, I, L)) := by
  have w4 := h.2.1
  rw [hl] at w4
  simp (disch := first | assumption | exact zSw hz (by omega) | exact zSx hz (by omega) | exact zSy hz (by omega) | exact zSm hz (by omega) | exact zSp hz (by omega) | exact ix (zSxl hz (by omega)) (by omega) | exact ix (zSyl hz (by omega)) (by omega) | exact ix (zSml hz (by omega)) (by omega) | exact bI_or _ | exact zOK_O hz (by decide) (by decide) rfl | exact zOK_T hz (by decide) (by decide) rfl | (refine ix (zOK_l hz (by decide) (by decide) rfl) ?_; omega) | decide | omega) only [eX7_addHit_0, eX7_addHit_1, eX7_addHit_4, eX7_addHit_6, eX7_addHit_9, eX7_addHit_11, eX7_addHit_12, eX7_addHit_13, eX7_addHit_16, eX7_addHit_17, eX7_addHit_20, eX7_addHit_21, eX7_addHit_22, eX7_addHit_23, eX7_addHit_26, eX7_addHit_27, eX7_addHit_30, eX7_addHit_31, eX7_addHit_32, eX7_addHit_33, eX7_addHit_36, eX7_addHit_37, eX7_addHit_40, eX7_addHit_41, eX7_addHit_42, eX7_addHit_43, eX7_addHit_44, eX7_addHit_47, eX7_addHit_48, eX7_addHit_49, eX7_addHit_52, eX7_addHit_53, eX7_addHit_56, Int.cast_ofNat_Int, Nat.reduceLT, Nat.reduceLeDiff, Nat.reduceEqDiff, Nat.reduceAdd, Nat.reduceMul, Int.reduceLE, Int.reduceLT, Int.reduceEq, not_false_iff, nlr, Nat.zero_add, Nat.add_zero, e10f, e01f, eq_self, true_and, and_true, false_and, and_false, and_self, decide_true, decide_false, mm_bd_i, mm_bd_v, if_true, if_false, not_true_eq_false, not_false_eq_true, nI_1, Bool.true_eq_false, Bool.false_eq_true, bI_0, n_le0, n_0lt, n_lt0, n_0le, n_eq0, n_eqm, n_eq1, n_le1, n_1lt, n_1le, n_lt1, nn_le, nI_ltI, nI_eq, nI_clamp, nI_add, pk_mul, i_eq0, i_eqm, i_0le, i_le0, i_0lt, i_lt0, i_mle, i_ltm, ii_le, iI_lt, iI_eq, ni_le, ni_lt, ni_eq, in_le, in_lt, in_eq, ni_add, in_add, ni_sub, in_sub, ni_mul, in_mul, iI_add, iI_sub, iI_mul, i_p1, iI_neg, n_neg, w4]
def sAdd (s k : Nat) (x y : Int) (m : Nat) (I : Nat → Nat → Int32) : Nat → Nat → Int32 := mm_up2 (mm_up2 (mm_up2 I (10 + 6 * s) k (iI x)) (11 + 6 * s) k (iI y)) (12 + 6 * s) k (nI m)
theorem cS_add (d : Nat) (z : mm_Z) (F : Nat → Nat → Value) (I : Nat → Nat → Int32) (L : Nat → Nat → Int64) (s : Nat) (hs : s < 8) (l : List (Int × Int × Nat)) (hz : zOK z) (h : swp s l F I) (hl : l.length < 16) (x y : Int) (m : Nat) : mm_E d mX7_addHit 0 [.ref (9 + 6 * s), .int (iI x), .int (iI y), .int (nI m)] [] (z, F, I, L) = some (some (.int (nI (l.length + 1))), (z, mm_up2 F (9 + 6 * s) 4 (.int (nI (l.length + 1))), sAdd s l.length x y m I, L)) ∧ swp s (l ++ [(x, y, m)]) (mm_up2 F (9 + 6 * s) 4 (.int (nI (l.length + 1)))) (sAdd s l.length x y m I) := by
  obtain ⟨⟨w0, w1, w2⟩, w4, w5⟩ := h
  constructor
  · unfold sAdd
    simp (disch := first | assumption | exact zSw hz (by omega) | exact zSx hz (by omega) | exact zSy hz (by omega) | exact zSm hz (by omega) | exact zSp hz (by omega) | exact ix (zSxl hz (by omega)) (by omega) | exact ix (zSyl hz (by omega)) (by omega) | exact ix (zSml hz (by omega)) (by omega) | exact bI_or _ | exact zOK_O hz (by decide) (by decide) rfl | exact zOK_T hz (by decide) (by decide) rfl | (refine ix (zOK_l hz (by decide) (by decide) rfl) ?_; omega) | decide | omega) only [eX7_addHit_0, eX7_addHit_1, eX7_addHit_4, eX7_addHit_6, eX7_addHit_9, eX7_addHit_11, eX7_addHit_12, eX7_addHit_13, eX7_addHit_16, eX7_addHit_17, eX7_addHit_20, eX7_addHit_21, eX7_addHit_22, eX7_addHit_23, eX7_addHit_26, eX7_addHit_27, eX7_addHit_30, eX7_addHit_31, eX7_addHit_32, eX7_addHit_33, eX7_addHit_36, eX7_addHit_37, eX7_addHit_40, eX7_addHit_41, eX7_addHit_42, eX7_addHit_43, eX7_addHit_44, eX7_addHit_47, eX7_addHit_48, eX7_addHit_49, eX7_addHit_52, eX7_addHit_53, eX7_addHit_56, Int.cast_ofNat_Int, Nat.reduceLT, Nat.reduceLeDiff, Nat.reduceEqDiff, Nat.reduceAdd, Nat.reduceMul, Int.reduceLE, Int.reduceLT, Int.reduceEq, not_false_iff, nlr, Nat.zero_add, Nat.add_zero, e10f, e01f, eq_self, true_and, and_true, false_and, and_false, and_self, decide_true, decide_false, mm_bd_i, mm_bd_v, if_true, if_false, not_true_eq_false, not_false_eq_true, nI_1, Bool.true_eq_false, Bool.false_eq_true, bI_0, n_le0, n_0lt, n_lt0, n_0le, n_eq0, n_eqm, n_eq1, n_le1, n_1lt, n_1le, n_lt1, nn_le, nI_ltI, nI_eq, nI_clamp, nI_add, pk_mul, i_eq0, i_eqm, i_0le, i_le0, i_0lt, i_lt0, i_mle, i_ltm, ii_le, iI_lt, iI_eq, ni_le, ni_lt, ni_eq, in_le, in_lt, in_eq, ni_add, in_add, ni_sub, in_sub, ni_mul, in_mul, iI_add, iI_sub, iI_mul, i_p1, iI_neg, n_neg, w0, w1, w2, w4, hl, up_s, up_k]
  · unfold sAdd
    refine ⟨⟨by rw [up_k _ _ _ _ (by decide)]; exact w0, by rw [up_k _ _ _ _ (by decide)]; exact w1, by rw [up_k _ _ _ _ (by decide)]; exact w2⟩, by rw [up_s, List.length_append]; rfl, fun k hk => ?_⟩
    have e1 : ¬ 10 + 6 * s = 12 + 6 * s := by omega
    have e2 : ¬ 10 + 6 * s = 11 + 6 * s := by omega
    have e3 : ¬ 11 + 6 * s = 12 + 6 * s := by omega
    have e4 : ¬ 11 + 6 * s = 10 + 6 * s := by omega
    have e5 : ¬ 12 + 6 * s = 10 + 6 * s := by omega
    have e6 : ¬ 12 + 6 * s = 11 + 6 * s := by omega
    rw [List.length_append] at hk
    have hk' : k < l.length + 1 := hk
    by_cases q : k = l.length
    · subst q
      rw [hg_last]
      simp (disch := assumption) only [up_r, up_s, and_self]
    · rw [hg_app (by omega)]
      simp (disch := assumption) only [up_r, up_k]
      exact w5 k (by omega)
theorem sAdd_n (s k : Nat) (x y : Int) (m : Nat) (I : Nat → Nat → Int32) {r : Nat} (hr : r < 10 + 6 * s ∨ 12 + 6 * s < r) : sAdd s k x y m I r = I r := by
  unfold sAdd
  rw [up_row _ _ _ (by omega), up_row _ _ _ (by omega), up_row _ _ _ (by omega)]
theorem cHs_hit (n : Nat) (hs : Nat → List (Int × Int × Nat)) (st : Nat → Option (Nat × Nat)) {F : Nat → Nat → Value} {I : Nat → Nat → Int32} (h : cHs n hs st F I) (h8 : n ≤ 8) (s : Nat) (hs' : s < n) (x y : Int) (m : Nat) (hl : swp s (hs s ++ [(x, y, m)]) (mm_up2 F (9 + 6 * s) 4 (.int (nI ((hs s).length + 1)))) (sAdd s (hs s).length x y m I)) : cHs n (udf hs s (hs s ++ [(x, y, m)])) st (mm_up2 F (9 + 6 * s) 4 (.int (nI ((hs s).length + 1)))) (sAdd s (hs s).length x y m I) := by
  obtain ⟨h3, h4, hA, hB⟩ := h
  refine ⟨by rw [up_r _ _ _ _ (by omega)]; exact h3, by rw [up_r _ _ _ _ (by omega)]; exact h4, fun a ha => ?_, fun a b c => ?_⟩
  · have g := hA a ha
    refine ⟨?_, by rw [up_k _ _ _ _ (by decide)]; exact g.2.1, fun c t q => ?_⟩
    · by_cases e : a = s
      · subst e; rw [udf_s]; exact hl
      · rw [udf_n _ _ e]
        exact swp_F g.1 (fun j _ _ _ => up_r _ _ _ _ (by omega)) (sAdd_n s _ x y m I (by omega)) (sAdd_n s _ x y m I (by omega)) (sAdd_n s _ x y m I (by omega))
    · rw [up_k _ _ _ _ (by decide), up_k _ _ _ _ (by decide)]
      exact g.2.2 c t q
  · have g := hB a b c
    exact ⟨swp_F g.1 (fun j _ _ _ => up_r _ _ _ _ (by omega)) (sAdd_n s _ x y m I (by omega)) (sAdd_n s _ x y m I (by omega)) (sAdd_n s _ x y m I (by omega)), by rw [up_k _ _ _ _ (by decide)]; exact g.2⟩
