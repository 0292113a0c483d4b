/-! the text: the class reads all; fault and thing -/
def rdI (k : Nat) (tx : Nat → Nat) : Nat → Nat → Nat → (Nat → Nat × Nat × Nat × Nat) → Nat ⊕ (Nat × (Nat → Nat × Nat × Nat × Nat))
  | 0, _, _, _ => .inl 0
  | f + 1, i, c, th => match rdL k tx i with
    | .inl p => .inl p
    | .inr (ln, j) => if tkB k tx j = k then .inr (c + 1, udf th c ln) else if tx (tkB k tx j) = 59 ∧ ¬ f = 0 then rdI k tx f (nx k tx j) (c + 1) (udf th c ln) else .inl (tkB k tx j)
def okLine (ln : Nat × Nat × Nat × Nat) : Prop := ln.1 < 3 ∧ (ln.1 = 2 → 1 ≤ ln.2.1) ∧ ln.2.1 ≤ 9 ∧ ln.2.2.1 ≤ 7 ∧ ln.2.2.2 ≤ 7
theorem rdL_ok (k : Nat) (tx : Nat → Nat) {i j : Nat} {ln : Nat × Nat × Nat × Nat} (h : rdL k tx i = .inr (ln, j)) : okLine ln := by
  unfold rdL at h
  cases w : wdN tx (tkB k tx i) (nx k tx i - tkB k tx i) with
  | none => rw [w] at h; exact absurd h (by simp)
  | some kd =>
    rw [w] at h
    dsimp only at h
    cases m : (rdM k tx kd (nx k tx i)).1 with
    | none => rw [m] at h; exact absurd h (by simp)
    | some mr =>
      rw [m] at h
      dsimp only at h
      cases xv : nmV k tx (rdM k tx kd (nx k tx i)).2 0 7 with
      | none => rw [xv] at h; exact absurd h (by simp)
      | some x =>
        rw [xv] at h
        dsimp only at h
        cases yv : nmV k tx (nx k tx (rdM k tx kd (nx k tx i)).2) 0 7 with
        | none => rw [yv] at h; exact absurd h (by simp)
        | some y =>
          rw [yv] at h
          have q := congrArg Prod.fst (Sum.inr.inj h)
          simp only at q
          subst q
          have kl := wdN_lt w
          have xl := nmV_lt k tx xv
          have yl := nmV_lt k tx yv
          unfold rdM at m
          by_cases e : kd = 2
          · rw [if_pos e] at m
            have := nmV_lt k tx m
            exact ⟨kl, fun _ => this.1, this.2, xl.2, yl.2⟩
          · rw [if_neg e] at m
            have := Option.some.inj m
            exact ⟨kl, fun q => absurd q e, by simp only; omega, xl.2, yl.2⟩
def okTh (c : Nat) (th : Nat → Nat × Nat × Nat × Nat) : Prop := c ≤ 10 ∧ ∀ q, q < c → okLine (th q)
theorem rdI_ok (k : Nat) (tx : Nat → Nat) : ∀ f i c th c' th', c + f = 10 → okTh c th → rdI k tx f i c th = .inr (c', th') → okTh c' th' ∧ 1 ≤ c' := by
  intro f
  induction f with
  | zero => intro i c th c' th' _ _ h; exact absurd h (by simp [rdI])
  | succ f ih =>
    intro i c th c' th' hc ho h
    rw [rdI] at h
    cases r : rdL k tx i with
    | inl p => rw [r] at h; exact absurd h (by simp)
    | inr q =>
      obtain ⟨ln, j⟩ := q
      have ol := rdL_ok k tx r
      have ho' : okTh (c + 1) (udf th c ln) := ⟨by omega, fun q hq => by
        by_cases e : q = c
        · subst e; rw [udf_s]; exact ol
        · rw [udf_n _ _ e]; exact ho.2 q (by omega)⟩
      rw [r] at h
      dsimp only at h
      split at h
      · have q := Sum.inr.inj h
        have q1 := congrArg Prod.fst q
        have q2 := congrArg Prod.snd q
        simp only at q1 q2
        subst q1; subst q2
        exact ⟨ho', by omega⟩
      · split at h
        · exact ih _ _ _ _ _ (by omega) ho' h
        · exact absurd h (by simp)
theorem cT_into_s (d : Nat) (z : mm_Z) (F : Nat → Nat → Value) (I : Nat → Nat → Int32) (L : Nat → Nat → Int64) (t : Nat) (ht : t = 60 ∨ t = 66) (k : Nat) (tx : Nat → Nat) (hz : zOK z) (ok : okT k tx) (l i : Nat) (th : Nat → Nat × Nat × Nat × Nat) (hl : l < 10) (hi : i ≤ k) (h : cTx k tx F I) (hZ : thZ t F) (hR : thR t l th F I) (h3 : F 58 3 = .int (nI i)) : ∃ F' I', rdF t F F' I I' ∧ ((∃ p, rdL k tx i = .inl p ∧ mm_E (d + 5) mX8_readInto 12 [.ref 58, .ref t, .int (nI l)] [] (z, F, I, L) = some (some (.int (nI p)), (z, F', I', L))) ∨ ∃ ln j, rdL k tx i = .inr (ln, j) ∧ thR t (l + 1) (udf th l ln) F' I' ∧ F' 58 2 = .int (nI (tkB k tx j)) ∧ F' 58 3 = .int (nI (nx k tx j)) ∧ nx k tx j ≤ k ∧ ((tkB k tx j = k ∧ mm_E (d + 5) mX8_readInto 12 [.ref 58, .ref t, .int (nI l)] [] (z, F, I, L) = some (some (.int (-1)), (z, F', I', L))) ∨ (¬ tkB k tx j = k ∧ tx (tkB k tx j) = 59 ∧ mm_E (d + 5) mX8_readInto 12 [.ref 58, .ref t, .int (nI l)] [] (z, F, I, L) = mm_E (d + 5) mX8_readInto 12 [.ref 58, .ref t, .int (nI (l + 1))] [] (z, F', I', L)) ∨ (¬ tkB k tx j = k ∧ ¬ tx (tkB k tx j) = 59 ∧ mm_E (d + 5) mX8_readInto 12 [.ref 58, .ref t, .int (nI l)] [] (z, F, I, L) = some (some (.int (nI (tkB k tx j))), (z, F', I', L))))) := by
  have ok1 := ok.1
  obtain ⟨F1, I1, b, e1, r1, e2, e3⟩ := cT_line d z F I L t ht k tx l th hz ok h hZ hR hl i hi h3
  cases r : rdL k tx i with
  | inl p =>
    obtain ⟨b0, p0⟩ := e2 p r
    subst b0
    refine ⟨F1, I1, r1, Or.inl ⟨p, rfl, ?_⟩⟩
    rw [eX8_readInto_12]
    rcases ht with rfl | rfl <;> simp (disch := first | assumption | exact bI_or _ | exact zOK_O hz (by decide) (by decide) rfl | exact zOK_T hz (by decide) (by decide) rfl | (refine ix (zOK_l hz (by decide) (by decide) rfl) ?_; omega) | decide | omega) only [eX8_readInto_13, eX8_readInto_15, eX8_readInto_18, eX8_readInto_19, eX8_readInto_20, eX8_readInto_23, eX8_readInto_26, eX8_readInto_27, eX8_readInto_30, eX8_readInto_31, eX8_readInto_32, eX8_readInto_35, eX8_readInto_36, eX8_readInto_39, eX8_readInto_40, eX8_readInto_43, eX8_readInto_46, eX8_readInto_47, eX8_readInto_48, eX8_readInto_49, eX8_readInto_52, eX8_readInto_53, eX8_readInto_56, eX8_readInto_57, eX8_readInto_59, eX8_readInto_62, eX8_readInto_63, eX8_readInto_66, eX8_readInto_67, eX8_readInto_70, eX8_readInto_73, eX8_readInto_74, eX8_readInto_77, Nat.reduceLT, Nat.reduceLeDiff, Nat.reduceEqDiff, Nat.reduceAdd, Nat.reduceMul, Int.reduceLE, Int.reduceLT, Int.reduceEq, not_false_iff, nlr, Nat.zero_add, Nat.add_zero, e10f, e01f, eq_self, true_and, and_true, false_and, and_false, and_self, decide_true, decide_false, mm_bd_i, mm_bd_v, if_true, if_false, not_true_eq_false, not_false_eq_true, nI_1, Bool.true_eq_false, Bool.false_eq_true, bI_0, n_le0, n_0lt, n_lt0, n_0le, n_eq0, n_eqm, n_eq1, n_le1, n_1lt, n_1le, n_lt1, nn_le, nI_ltI, nI_eq, nI_clamp, nI_add, pk_mul, i_eq0, i_eqm, i_0le, i_le0, i_0lt, i_lt0, i_mle, i_ltm, ii_le, iI_lt, iI_eq, ni_le, ni_lt, ni_eq, in_le, in_lt, in_eq, ni_add, in_add, ni_sub, in_sub, ni_mul, in_mul, iI_add, iI_sub, iI_mul, i_p1, iI_neg, n_neg, hl, e1, p0]
  | inr q =>
    obtain ⟨ln, j⟩ := q
    obtain ⟨b0, hj, j3, tR⟩ := e3 ln j r
    subst b0
    have hA := cTx_rdF ht k tx h r1
    have ne := cT_next (d + 2) z F1 I1 L k tx hz ok hA j hj j3
    obtain ⟨⟨g0, g1, g2⟩, g4, g5⟩ := cTx_tkF k tx hA j
    have bb := tkB_b k tx hj
    refine ⟨tkF k tx F1 j, I1, rdF_trans r1 (rdF_tk t k tx F1 I1 j), Or.inr ⟨ln, j, rfl, thR_tk ht k tx (l + 1) _ tR j, g4, g5, (nx_b k tx hj).2, ?_⟩⟩
    by_cases c : tkB k tx j = k
    · left
      refine ⟨c, ?_⟩
      rw [eX8_readInto_12]
      rcases ht with rfl | rfl <;> simp (disch := first | assumption | exact bI_or _ | exact zOK_O hz (by decide) (by decide) rfl | exact zOK_T hz (by decide) (by decide) rfl | (refine ix (zOK_l hz (by decide) (by decide) rfl) ?_; omega) | decide | omega) only [eX8_readInto_13, eX8_readInto_15, eX8_readInto_18, eX8_readInto_19, eX8_readInto_20, eX8_readInto_23, eX8_readInto_26, eX8_readInto_27, eX8_readInto_30, eX8_readInto_31, eX8_readInto_32, eX8_readInto_35, eX8_readInto_36, eX8_readInto_39, eX8_readInto_40, eX8_readInto_43, eX8_readInto_46, eX8_readInto_47, eX8_readInto_48, eX8_readInto_49, eX8_readInto_52, eX8_readInto_53, eX8_readInto_56, eX8_readInto_57, eX8_readInto_59, eX8_readInto_62, eX8_readInto_63, eX8_readInto_66, eX8_readInto_67, eX8_readInto_70, eX8_readInto_73, eX8_readInto_74, eX8_readInto_77, Nat.reduceLT, Nat.reduceLeDiff, Nat.reduceEqDiff, Nat.reduceAdd, Nat.reduceMul, Int.reduceLE, Int.reduceLT, Int.reduceEq, not_false_iff, nlr, Nat.zero_add, Nat.add_zero, e10f, e01f, eq_self, true_and, and_true, false_and, and_false, and_self, decide_true, decide_false, mm_bd_i, mm_bd_v, if_true, if_false, not_true_eq_false, not_false_eq_true, nI_1, Bool.true_eq_false, Bool.false_eq_true, bI_0, n_le0, n_0lt, n_lt0, n_0le, n_eq0, n_eqm, n_eq1, n_le1, n_1lt, n_1le, n_lt1, nn_le, nI_ltI, nI_eq, nI_clamp, nI_add, pk_mul, i_eq0, i_eqm, i_0le, i_le0, i_0lt, i_lt0, i_mle, i_ltm, ii_le, iI_lt, iI_eq, ni_le, ni_lt, ni_eq, in_le, in_lt, in_eq, ni_add, in_add, ni_sub, in_sub, ni_mul, in_mul, iI_add, iI_sub, iI_mul, i_p1, iI_neg, n_neg, hl, e1, ne, g1, g4, c]
    · right
      have q := g2 (tkB k tx j) (by omega)
      have q6 := ok.2 (tkB k tx j) (by omega)
      by_cases c2 : tx (tkB k tx j) = 59
      · left
        refine ⟨c, c2, ?_⟩
        rw [eX8_readInto_12]
        rcases ht with rfl | rfl <;> simp (disch := first | assumption | exact bI_or _ | exact zOK_O hz (by decide) (by decide) rfl | exact zOK_T hz (by decide) (by decide) rfl | (refine ix (zOK_l hz (by decide) (by decide) rfl) ?_; omega) | decide | omega) only [eX8_readInto_13, eX8_readInto_15, eX8_readInto_18, eX8_readInto_19, eX8_readInto_20, eX8_readInto_23, eX8_readInto_26, eX8_readInto_27, eX8_readInto_30, eX8_readInto_31, eX8_readInto_32, eX8_readInto_35, eX8_readInto_36, eX8_readInto_39, eX8_readInto_40, eX8_readInto_43, eX8_readInto_46, eX8_readInto_47, eX8_readInto_48, eX8_readInto_49, eX8_readInto_52, eX8_readInto_53, eX8_readInto_56, eX8_readInto_57, eX8_readInto_59, eX8_readInto_62, eX8_readInto_63, eX8_readInto_66, eX8_readInto_67, eX8_readInto_70, eX8_readInto_73, eX8_readInto_74, eX8_readInto_77, Nat.reduceLT, Nat.reduceLeDiff, Nat.reduceEqDiff, Nat.reduceAdd, Nat.reduceMul, Int.reduceLE, Int.reduceLT, Int.reduceEq, not_false_iff, nlr, Nat.zero_add, Nat.add_zero, e10f, e01f, eq_self, true_and, and_true, false_and, and_false, and_self, decide_true, decide_false, mm_bd_i, mm_bd_v, if_true, if_false, not_true_eq_false, not_false_eq_true, nI_1, Bool.true_eq_false, Bool.false_eq_true, bI_0, n_le0, n_0lt, n_lt0, n_0le, n_eq0, n_eqm, n_eq1, n_le1, n_1lt, n_1le, n_lt1, nn_le, nI_ltI, nI_eq, nI_clamp, nI_add, pk_mul, i_eq0, i_eqm, i_0le, i_le0, i_0lt, i_lt0, i_mle, i_ltm, ii_le, iI_lt, iI_eq, ni_le, ni_lt, ni_eq, in_le, in_lt, in_eq, ni_add, in_add, ni_sub, in_sub, ni_mul, in_mul, iI_add, iI_sub, iI_mul, i_p1, iI_neg, n_neg, hl, e1, ne, g0, g1, g4, c, q, c2]
      · right
        refine ⟨c, c2, ?_⟩
        rw [eX8_readInto_12]
        rcases ht with rfl | rfl <;> simp (disch := first | assumption | exact bI_or _ | exact zOK_O hz (by decide) (by decide) rfl | exact zOK_T hz (by decide) (by decide) rfl | (refine ix (zOK_l hz (by decide) (by decide) rfl) ?_; omega) | decide | omega) only [eX8_readInto_13, eX8_readInto_15, eX8_readInto_18, eX8_readInto_19, eX8_readInto_20, eX8_readInto_23, eX8_readInto_26, eX8_readInto_27, eX8_readInto_30, eX8_readInto_31, eX8_readInto_32, eX8_readInto_35, eX8_readInto_36, eX8_readInto_39, eX8_readInto_40, eX8_readInto_43, eX8_readInto_46, eX8_readInto_47, eX8_readInto_48, eX8_readInto_49, eX8_readInto_52, eX8_readInto_53, eX8_readInto_56, eX8_readInto_57, eX8_readInto_59, eX8_readInto_62, eX8_readInto_63, eX8_readInto_66, eX8_readInto_67, eX8_readInto_70, eX8_readInto_73, eX8_readInto_74, eX8_readInto_77, Nat.reduceLT, Nat.reduceLeDiff, Nat.reduceEqDiff, Nat.reduceAdd, Nat.reduceMul, Int.reduceLE, Int.reduceLT, Int.reduceEq, not_false_iff, nlr, Nat.zero_add, Nat.add_zero, e10f, e01f, eq_self, true_and, and_true, false_and, and_false, and_self, decide_true, decide_false, mm_bd_i, mm_bd_v, if_true, if_false, not_true_eq_false, not_false_eq_true, nI_1, Bool.true_eq_false, Bool.false_eq_true, bI_0, n_le0, n_0lt, n_lt0, n_0le, n_eq0, n_eqm, n_eq1, n_le1, n_1lt, n_1le, n_lt1, nn_le, nI_ltI, nI_eq, nI_clamp, nI_add, pk_mul, i_eq0, i_eqm, i_0le, i_le0, i_0lt, i_lt0, i_mle, i_ltm, ii_le, iI_lt, iI_eq, ni_le, ni_lt, ni_eq, in_le, in_lt, in_eq, ni_add, in_add, ni_sub, in_sub, ni_mul, in_mul, iI_add, iI_sub, iI_mul, i_p1, iI_neg, n_neg, hl, e1, ne, g0, g1, g4, c, q, c2]
theorem cT_into_l (d : Nat) (z : mm_Z) (L : Nat → Nat → Int64) (t : Nat) (ht : t = 60 ∨ t = 66) (k : Nat) (tx : Nat → Nat) (hz : zOK z) (ok : okT k tx) : ∀ f l i (F : Nat → Nat → Value) (I : Nat → Nat → Int32) (th : Nat → Nat × Nat × Nat × Nat), l + f = 9 → i ≤ k → cTx k tx F I → thZ t F → thR t l th F I → F 58 3 = .int (nI i) → ∃ F' I' v, mm_E (d + 5) mX8_readInto 12 [.ref 58, .ref t, .int (nI l)] [] (z, F, I, L) = some (some (.int v), (z, F', I', L)) ∧ rdF t F F' I I' ∧ (∀ p, rdI k tx (f + 1) i l th = .inl p → v = nI p) ∧ ∀ c' th', rdI k tx (f + 1) i l th = .inr (c', th') → v = -1 ∧ thR t c' th' F' I' := by
  have ok1 := ok.1
  intro f
  induction f with
  | zero =>
    intro l i F I th hl hi h hZ hR h3
    obtain ⟨F1, I1, r1, e⟩ := cT_into_s d z F I L t ht k tx hz ok l i th (by omega) hi h hZ hR h3
    have bbk : tkB k tx i ≤ k := (tkB_b k tx hi).2
    rw [rdI]
    rcases e with ⟨p, e0, e1⟩ | ⟨ln, j, e0, e1, e2, e3, e4, e5⟩
    · rw [e0]
      exact ⟨F1, I1, nI p, e1, r1, fun q hq => by rw [Sum.inl.inj hq], fun c' th' hq => absurd hq (by simp)⟩
    · rw [e0]
      dsimp only
      rcases e5 with ⟨c, e6⟩ | ⟨c, c2, e6⟩ | ⟨c, c2, e6⟩
      · rw [if_pos c]
        refine ⟨F1, I1, -1, e6, r1, fun q hq => absurd hq (by simp), fun c' th' hq => ?_⟩
        have q := Sum.inr.inj hq
        have q1 := congrArg Prod.fst q
        have q2 := congrArg Prod.snd q
        simp only at q1 q2
        subst q1; subst q2
        exact ⟨rfl, e1⟩
      · rw [if_neg c, if_neg (fun q => q.2 rfl)]
        refine ⟨F1, I1, nI (tkB k tx j), ?_, r1, fun q hq => by rw [Sum.inl.inj hq], fun c' th' hq => absurd hq (by simp)⟩
        have l9 : l + 1 = 10 := by omega
        rw [e6, eX8_readInto_12, l9]
        rcases ht with rfl | rfl <;> simp (disch := first | assumption | exact bI_or _ | exact zOK_O hz (by decide) (by decide) rfl | exact zOK_T hz (by decide) (by decide) rfl | (refine ix (zOK_l hz (by decide) (by decide) rfl) ?_; omega) | decide | omega) only [eX8_readInto_13, eX8_readInto_15, eX8_readInto_18, eX8_readInto_19, eX8_readInto_20, eX8_readInto_23, eX8_readInto_26, eX8_readInto_27, eX8_readInto_30, eX8_readInto_31, eX8_readInto_32, eX8_readInto_35, eX8_readInto_36, eX8_readInto_39, eX8_readInto_40, eX8_readInto_43, eX8_readInto_46, eX8_readInto_47, eX8_readInto_48, eX8_readInto_49, eX8_readInto_52, eX8_readInto_53, eX8_readInto_56, eX8_readInto_57, eX8_readInto_59, eX8_readInto_62, eX8_readInto_63, eX8_readInto_66, eX8_readInto_67, eX8_readInto_70, eX8_readInto_73, eX8_readInto_74, eX8_readInto_77, Nat.reduceLT, Nat.reduceLeDiff, Nat.reduceEqDiff, Nat.reduceAdd, Nat.reduceMul, Int.reduceLE, Int.reduceLT, Int.reduceEq, not_false_iff, nlr, Nat.zero_add, Nat.add_zero, e10f, e01f, eq_self, true_and, and_true, false_and, and_false, and_self, decide_true, decide_false, mm_bd_i, mm_bd_v, if_true, if_false, not_true_eq_false, not_false_eq_true, nI_1, Bool.true_eq_false, Bool.false_eq_true, bI_0, n_le0, n_0lt, n_lt0, n_0le, n_eq0, n_eqm, n_eq1, n_le1, n_1lt, n_1le, n_lt1, nn_le, nI_ltI, nI_eq, nI_clamp, nI_add, pk_mul, i_eq0, i_eqm, i_0le, i_le0, i_0lt, i_lt0, i_mle, i_ltm, ii_le, iI_lt, iI_eq, ni_le, ni_lt, ni_eq, in_le, in_lt, in_eq, ni_add, in_add, ni_sub, in_sub, ni_mul, in_mul, iI_add, iI_sub, iI_mul, i_p1, iI_neg, n_neg, e2]
      · rw [if_neg c, if_neg (fun q => c2 q.1)]
        exact ⟨F1, I1, nI (tkB k tx j), e6, r1, fun q hq => by rw [Sum.inl.inj hq], fun c' th' hq => absurd hq (by simp)⟩
  | succ f ih =>
    intro l i F I th hl hi h hZ hR h3
    obtain ⟨F1, I1, r1, e⟩ := cT_into_s d z F I L t ht k tx hz ok l i th (by omega) hi h hZ hR h3
    rw [rdI]
    rcases e with ⟨p, e0, e1⟩ | ⟨ln, j, e0, e1, e2, e3, e4, e5⟩
    · rw [e0]
      exact ⟨F1, I1, nI p, e1, r1, fun q hq => by rw [Sum.inl.inj hq], fun c' th' hq => absurd hq (by simp)⟩
    · rw [e0]
      dsimp only
      rcases e5 with ⟨c, e6⟩ | ⟨c, c2, e6⟩ | ⟨c, c2, e6⟩
      · rw [if_pos c]
        refine ⟨F1, I1, -1, e6, r1, fun q hq => absurd hq (by simp), fun c' th' hq => ?_⟩
        have q := Sum.inr.inj hq
        have q1 := congrArg Prod.fst q
        have q2 := congrArg Prod.snd q
        simp only at q1 q2
        subst q1; subst q2
        exact ⟨rfl, e1⟩
      · rw [if_neg c, if_pos ⟨c2, by omega⟩]
        obtain ⟨F2, I2, v, n1, n2, n3, n4⟩ := ih (l + 1) (nx k tx j) F1 I1 (udf th l ln) (by omega) e4 (cTx_rdF ht k tx h r1) (thZ_rdF ht hZ r1) e1 e3
        exact ⟨F2, I2, v, e6.trans n1, rdF_trans r1 n2, n3, n4⟩
      · rw [if_neg c, if_neg (fun q => c2 q.1)]
        exact ⟨F1, I1, nI (tkB k tx j), e6, r1, fun q hq => by rw [Sum.inl.inj hq], fun c' th' hq => absurd hq (by simp)⟩
/-- the whole reading -/
def th0 : Nat → Nat × Nat × Nat × Nat := fun _ => (0, 0, 0, 0)
def rdT (k : Nat) (tx : Nat → Nat) : Nat ⊕ (Nat × (Nat → Nat × Nat × Nat × Nat)) := rdI k tx 10 0 0 th0
theorem cT_into (d : Nat) (z : mm_Z) (F : Nat → Nat → Value) (I : Nat → Nat → Int32) (L : Nat → Nat → Int64) (t : Nat) (ht : t = 60 ∨ t = 66) (k : Nat) (tx : Nat → Nat) (hz : zOK z) (ok : okT k tx) (h : cTx k tx F I) (hZ : thZ t F) : ∃ F' I' v, mm_E (d + 5) mX8_readInto 0 [.ref 58, .ref t, uu] [] (z, F, I, L) = some (some (.int v), (z, F', I', L)) ∧ rdF t F F' I I' ∧ (∀ p, rdT k tx = .inl p → v = nI p) ∧ ∀ c' th', rdT k tx = .inr (c', th') → v = -1 ∧ thR t c' th' F' I' := by
  have fr : rdF t F (mm_up2 (mm_up2 F t 5 (.int (nI 0))) 58 3 (.int (nI 0))) I I := ⟨fun r j a b => by unfold mm_up2; rw [if_neg (by omega), if_neg b], fun _ _ => rfl⟩
  obtain ⟨F1, I1, v, n1, n2, n3, n4⟩ := cT_into_l d z L t ht k tx hz ok 9 0 0 (mm_up2 (mm_up2 F t 5 (.int (nI 0))) 58 3 (.int (nI 0))) I th0 rfl (by omega) (cTx_rdF ht k tx h fr) (thZ_rdF ht hZ fr) ⟨by rw [up_r _ _ _ _ (by omega), up_s], fun q hq => absurd hq (by omega)⟩ (up_s _ _ _ _)
  refine ⟨F1, I1, v, ?_, rdF_trans fr n2, n3, n4⟩
  rw [← n1]
  rcases ht with rfl | rfl <;> simp (disch := first | assumption | exact bI_or _ | exact zOK_O hz (by decide) (by decide) rfl | exact zOK_T hz (by decide) (by decide) rfl | (refine ix (zOK_l hz (by decide) (by decide) rfl) ?_; omega) | decide | omega) only [eX8_readInto_0, eX8_readInto_1, eX8_readInto_2, eX8_readInto_5, eX8_readInto_6, eX8_readInto_7, eX8_readInto_10, eX8_readInto_11, Nat.reduceLT, Nat.reduceLeDiff, Nat.reduceEqDiff, Nat.reduceAdd, Nat.reduceMul, Int.reduceLE, Int.reduceLT, Int.reduceEq, not_false_iff, nlr, Nat.zero_add, Nat.add_zero, e10f, e01f, eq_self, true_and, and_true, false_and, and_false, and_self, decide_true, decide_false, mm_bd_i, mm_bd_v, if_true, if_false, not_true_eq_false, not_false_eq_true, nI_1, Bool.true_eq_false, Bool.false_eq_true, bI_0, n_le0, n_0lt, n_lt0, n_0le, n_eq0, n_eqm, n_eq1, n_le1, n_1lt, n_1le, n_lt1, nn_le, nI_ltI, nI_eq, nI_clamp, nI_add, pk_mul, i_eq0, i_eqm, i_0le, i_le0, i_0lt, i_lt0, i_mle, i_ltm, ii_le, iI_lt, iI_eq, ni_le, ni_lt, ni_eq, in_le, in_lt, in_eq, ni_add, in_add, ni_sub, in_sub, ni_mul, in_mul, iI_add, iI_sub, iI_mul, i_p1, iI_neg, n_neg] <;> rfl
/-- the thing as the class holds it: one of two, the other is a draft -/
def cTg (c : Nat) (th : Nat → Nat × Nat × Nat × Nat) (F : Nat → Nat → Value) (I : Nat → Nat → Int32) : Prop := ∃ t u : Nat, ((t = 60 ∧ u = 66) ∨ (t = 66 ∧ u = 60)) ∧ F 2 3 = .ref t ∧ F 2 4 = .ref u ∧ thZ t F ∧ thZ u F ∧ thR t c th F I
theorem cX_fault (d : Nat) (z : mm_Z) (F : Nat → Nat → Value) (I : Nat → Nat → Int32) (L : Nat → Nat → Int64) (k : Nat) (tx : Nat → Nat) (c : Nat) (th : Nat → Nat × Nat × Nat × Nat) (hz : zOK z) (ht : cTop F) (ok : okT k tx) (h : cTx k tx F I) (hg : cTg c th F I) : ∃ F' I' v, mm_E (d + 6) mX10_fault 0 [.ref 2] [] (z, F, I, L) = some (some (.int v), (z, F', I', L)) ∧ (∀ p, rdT k tx = .inl p → v = nI p) ∧ (∀ c' th', rdT k tx = .inr (c', th') → v = -1) ∧ cTx k tx F' I' ∧ cTg c th F' I' ∧ (∀ r, r < 58 ∨ 71 < r → F' r = F r) ∧ ∀ r, (r < 58 ∨ 71 < r) → I' r = I r := by
  obtain ⟨t, u, htu, f3, f4, z1, z2, hR⟩ := hg
  have hu : u = 60 ∨ u = 66 := by omega
  have ht' : t = 60 ∨ t = 66 := by omega
  obtain ⟨F1, I1, v, n1, n2, n3, n4⟩ := cT_into d z F I L u hu k tx hz ok h z2
  refine ⟨F1, I1, v, ?_, n3, fun c' th' q => (n4 c' th' q).1, cTx_rdF hu k tx h n2, ⟨t, u, htu, ?_, ?_, ?_, thZ_rdF hu z2 n2, ?_⟩, fun r hr => ?_, fun r hr => n2.2 r (by omega)⟩
  · rcases hu with rfl | rfl <;> simp (disch := first | assumption | exact bI_or _ | exact zOK_O hz (by decide) (by decide) rfl | exact zOK_T hz (by decide) (by decide) rfl | (refine ix (zOK_l hz (by decide) (by decide) rfl) ?_; omega) | decide | omega) only [eX10_fault_0, eX10_fault_1, eX10_fault_4, eX10_fault_5, eX10_fault_8, eX10_fault_11, Nat.reduceLT, Nat.reduceLeDiff, Nat.reduceEqDiff, Nat.reduceAdd, Nat.reduceMul, Int.reduceLE, Int.reduceLT, Int.reduceEq, not_false_iff, nlr, Nat.zero_add, Nat.add_zero, e10f, e01f, eq_self, true_and, and_true, false_and, and_false, and_self, decide_true, decide_false, mm_bd_i, mm_bd_v, if_true, if_false, not_true_eq_false, not_false_eq_true, nI_1, Bool.true_eq_false, Bool.false_eq_true, bI_0, n_le0, n_0lt, n_lt0, n_0le, n_eq0, n_eqm, n_eq1, n_le1, n_1lt, n_1le, n_lt1, nn_le, nI_ltI, nI_eq, nI_clamp, nI_add, pk_mul, i_eq0, i_eqm, i_0le, i_le0, i_0lt, i_lt0, i_mle, i_ltm, ii_le, iI_lt, iI_eq, ni_le, ni_lt, ni_eq, in_le, in_lt, in_eq, ni_add, in_add, ni_sub, in_sub, ni_mul, in_mul, iI_add, iI_sub, iI_mul, i_p1, iI_neg, n_neg, ht.2.2.1, f4, n1]
  · rw [n2.1 2 3 (by omega) (by omega)]; exact f3
  · rw [n2.1 2 4 (by omega) (by omega)]; exact f4
  · unfold thZ at *
    rw [n2.1 t 0 (by omega) (by omega), n2.1 t 1 (by omega) (by omega), n2.1 t 2 (by omega) (by omega), n2.1 t 3 (by omega) (by omega), n2.1 t 4 (by omega) (by omega)]
    exact z1
  · unfold thR at *
    rw [n2.1 t 5 (by omega) (by omega), n2.2 (t + 1) (by omega), n2.2 (t + 2) (by omega), n2.2 (t + 3) (by omega), n2.2 (t + 4) (by omega)]
    exact hR
  · funext j
    exact n2.1 r j (by omega) (by omega)
theorem cX_thing_not (d : Nat) (z : mm_Z) (F : Nat → Nat → Value) (I : Nat → Nat → Int32) (L : Nat → Nat → Int64) (k : Nat) (tx : Nat → Nat) (c : Nat) (th : Nat → Nat × Nat × Nat × Nat) (hz : zOK z) (ht : cTop F) (ok : okT k tx) (h : cTx k tx F I) (hg : cTg c th F I) (p : Nat) (hk : p < 1000) (hp : rdT k tx = .inl p) : ∃ F' I', mm_E (d + 6) mX10_thing 0 [.ref 2, uu] [] (z, F, I, L) = some (some (.int (-4)), (z, F', I', L)) ∧ cTx k tx F' I' ∧ cTg c th F' I' ∧ (∀ r, r < 58 ∨ 71 < r → F' r = F r) ∧ ∀ r, (r < 58 ∨ 71 < r) → I' r = I r := by
  obtain ⟨F1, I1, v, n1, n2, n3, n4, n5, n6, n7⟩ := cX_fault d z F I L k tx c th hz ht ok h hg
  refine ⟨F1, I1, ?_, n4, n5, n6, n7⟩
  have v0 := n2 p hp
  subst v0
  obtain ⟨t, u, htu, f3, f4, z1, z2, hR⟩ := hg
  have hu : u = 60 ∨ u = 66 := by omega
  have e : mm_E (d + 5) mX8_readInto 0 [.ref 58, .ref u, uu] [] (z, F, I, L) = some (some (.int (nI p)), (z, F1, I1, L)) := by
    obtain ⟨F2, I2, v, m1, m2, m3, m4⟩ := cT_into d z F I L u hu k tx hz ok h z2
    have : (some (some (Value.int v), (z, F2, I2, L)) : mm_R) = some (some (Value.int (nI p)), (z, F1, I1, L)) := by
      rw [← n1]
      rcases hu with rfl | rfl <;> simp (disch := first | assumption | exact bI_or _ | exact zOK_O hz (by decide) (by decide) rfl | exact zOK_T hz (by decide) (by decide) rfl | (refine ix (zOK_l hz (by decide) (by decide) rfl) ?_; omega) | decide | omega) only [eX10_fault_0, eX10_fault_1, eX10_fault_4, eX10_fault_5, eX10_fault_8, eX10_fault_11, Nat.reduceLT, Nat.reduceLeDiff, Nat.reduceEqDiff, Nat.reduceAdd, Nat.reduceMul, Int.reduceLE, Int.reduceLT, Int.reduceEq, not_false_iff, nlr, Nat.zero_add, Nat.add_zero, e10f, e01f, eq_self, true_and, and_true, false_and, and_false, and_self, decide_true, decide_false, mm_bd_i, mm_bd_v, if_true, if_false, not_true_eq_false, not_false_eq_true, nI_1, Bool.true_eq_false, Bool.false_eq_true, bI_0, n_le0, n_0lt, n_lt0, n_0le, n_eq0, n_eqm, n_eq1, n_le1, n_1lt, n_1le, n_lt1, nn_le, nI_ltI, nI_eq, nI_clamp, nI_add, pk_mul, i_eq0, i_eqm, i_0le, i_le0, i_0lt, i_lt0, i_mle, i_ltm, ii_le, iI_lt, iI_eq, ni_le, ni_lt, ni_eq, in_le, in_lt, in_eq, ni_add, in_add, ni_sub, in_sub, ni_mul, in_mul, iI_add, iI_sub, iI_mul, i_p1, iI_neg, n_neg, ht.2.2.1, f4, m1]
    rw [m1]; exact this
  rcases hu with rfl | rfl <;> simp (disch := first | assumption | exact bI_or _ | exact zOK_O hz (by decide) (by decide) rfl | exact zOK_T hz (by decide) (by decide) rfl | (refine ix (zOK_l hz (by decide) (by decide) rfl) ?_; omega) | decide | omega) only [eX10_thing_0, eX10_thing_1, eX10_thing_4, eX10_thing_5, eX10_thing_8, eX10_thing_11, eX10_thing_12, eX10_thing_15, eX10_thing_17, eX10_thing_18, eX10_thing_19, eX10_thing_22, eX10_thing_22N, eX10_thing_23, eX10_thing_24, eX10_thing_25, eX10_thing_28, eX10_thing_31, eX10_thing_32, eX10_thing_33, eX10_thing_36, eX10_thing_37, eX10_thing_40, eX10_thing_43, eX10_thing_44, eX10_thing_45, eX10_thing_48, eX10_thing_51, Nat.reduceLT, Nat.reduceLeDiff, Nat.reduceEqDiff, Nat.reduceAdd, Nat.reduceMul, Int.reduceLE, Int.reduceLT, Int.reduceEq, not_false_iff, nlr, Nat.zero_add, Nat.add_zero, e10f, e01f, eq_self, true_and, and_true, false_and, and_false, and_self, decide_true, decide_false, mm_bd_i, mm_bd_v, if_true, if_false, not_true_eq_false, not_false_eq_true, nI_1, Bool.true_eq_false, Bool.false_eq_true, bI_0, n_le0, n_0lt, n_lt0, n_0le, n_eq0, n_eqm, n_eq1, n_le1, n_1lt, n_1le, n_lt1, nn_le, nI_ltI, nI_eq, nI_clamp, nI_add, pk_mul, i_eq0, i_eqm, i_0le, i_le0, i_0lt, i_lt0, i_mle, i_ltm, ii_le, iI_lt, iI_eq, ni_le, ni_lt, ni_eq, in_le, in_lt, in_eq, ni_add, in_add, ni_sub, in_sub, ni_mul, in_mul, iI_add, iI_sub, iI_mul, i_p1, iI_neg, n_neg, ht.2.2.1, f4, e]
theorem cX_thing (d : Nat) (z : mm_Z) (F : Nat → Nat → Value) (I : Nat → Nat → Int32) (L : Nat → Nat → Int64) (k : Nat) (tx : Nat → Nat) (c : Nat) (th : Nat → Nat × Nat × Nat × Nat) (hz : zOK z) (ht : cTop F) (ok : okT k tx) (h : cTx k tx F I) (hg : cTg c th F I) (c' : Nat) (th' : Nat → Nat × Nat × Nat × Nat) (hp : rdT k tx = .inr (c', th')) : ∃ F' I', mm_E (d + 6) mX10_thing 0 [.ref 2, uu] [] (z, F, I, L) = some (some (.int (nI c')), (z, F', I', L)) ∧ cTx 0 tx F' I' ∧ cTg c' th' F' I' ∧ (∀ r j, (r < 58 ∨ 71 < r) → ¬ (r = 2 ∧ (j = 3 ∨ j = 4)) → F' r j = F r j) ∧ ∀ r, (r < 58 ∨ 71 < r) → I' r = I r := by
  obtain ⟨t, u, htu, f3, f4, z1, z2, hR⟩ := hg
  have hu : u = 60 ∨ u = 66 := by omega
  obtain ⟨F1, I1, v, n1, n2, n3, n4⟩ := cT_into d z F I L u hu k tx hz ok h z2
  obtain ⟨v0, tR⟩ := n4 c' th' hp
  subst v0
  have hT := cTx_rdF hu k tx h n2
  have g3 : F1 2 3 = .ref t := by rw [n2.1 2 3 (by omega) (by omega)]; exact f3
  have g4 : F1 2 4 = .ref u := by rw [n2.1 2 4 (by omega) (by omega)]; exact f4
  have g2 : F1 2 2 = .ref 58 := by rw [n2.1 2 2 (by omega) (by omega)]; exact ht.2.2.1
  have y1 : thZ t F1 := by
    unfold thZ at *
    rw [n2.1 t 0 (by omega) (by omega), n2.1 t 1 (by omega) (by omega), n2.1 t 2 (by omega) (by omega), n2.1 t 3 (by omega) (by omega), n2.1 t 4 (by omega) (by omega)]
    exact z1
  have y2 : thZ u F1 := thZ_rdF hu z2 n2
  refine ⟨mm_up2 (mm_up2 (mm_up2 F1 2 3 (.ref u)) 2 4 (.ref t)) 58 1 (.int (nI 0)), I1, ?_, ⟨?_, up_s _ _ _ _, fun i hi => absurd hi (by omega)⟩, ⟨u, t, by omega, ?_, ?_, ?_, ?_, ?_⟩, fun r j hr hn => ?_, fun r hr => n2.2 r (by omega)⟩
  · have g5 := tR.1
    have h1 := hT.2.1
    rcases htu with ⟨rfl, rfl⟩ | ⟨rfl, rfl⟩ <;> simp (disch := first | assumption | exact bI_or _ | exact zOK_O hz (by decide) (by decide) rfl | exact zOK_T hz (by decide) (by decide) rfl | (refine ix (zOK_l hz (by decide) (by decide) rfl) ?_; omega) | decide | omega) only [eX10_thing_0, eX10_thing_1, eX10_thing_4, eX10_thing_5, eX10_thing_8, eX10_thing_11, eX10_thing_12, eX10_thing_15, eX10_thing_17, eX10_thing_18, eX10_thing_19, eX10_thing_22, eX10_thing_22N, eX10_thing_23, eX10_thing_24, eX10_thing_25, eX10_thing_28, eX10_thing_31, eX10_thing_32, eX10_thing_33, eX10_thing_36, eX10_thing_37, eX10_thing_40, eX10_thing_43, eX10_thing_44, eX10_thing_45, eX10_thing_48, eX10_thing_51, eX8_clear_0, eX8_clear_1, eX8_clear_4, eX8_clear_5, eX8_clear_6, eX8_clear_7, eX8_clear_10, eX8_clear_11, Nat.reduceLT, Nat.reduceLeDiff, Nat.reduceEqDiff, Nat.reduceAdd, Nat.reduceMul, Int.reduceLE, Int.reduceLT, Int.reduceEq, not_false_iff, nlr, Nat.zero_add, Nat.add_zero, e10f, e01f, eq_self, true_and, and_true, false_and, and_false, and_self, decide_true, decide_false, mm_bd_i, mm_bd_v, if_true, if_false, not_true_eq_false, not_false_eq_true, nI_1, Bool.true_eq_false, Bool.false_eq_true, bI_0, n_le0, n_0lt, n_lt0, n_0le, n_eq0, n_eqm, n_eq1, n_le1, n_1lt, n_1le, n_lt1, nn_le, nI_ltI, nI_eq, nI_clamp, nI_add, pk_mul, i_eq0, i_eqm, i_0le, i_le0, i_0lt, i_lt0, i_mle, i_ltm, ii_le, iI_lt, iI_eq, ni_le, ni_lt, ni_eq, in_le, in_lt, in_eq, ni_add, in_add, ni_sub, in_sub, ni_mul, in_mul, iI_add, iI_sub, iI_mul, i_p1, iI_neg, n_neg, ht.2.2.1, f4, n1, g3, g4, g2, up_s, up_k, up_r, h1, g5] <;> rfl
  · rw [up_k _ _ _ _ (by decide), up_r _ _ _ _ (by decide), up_r _ _ _ _ (by decide)]; exact hT.1
  · rw [up_r _ _ _ _ (by decide), up_k _ _ _ _ (by decide), up_s]
  · rw [up_r _ _ _ _ (by decide), up_s]
  · unfold thZ at *
    simp (disch := omega) only [up_r]; exact y2
  · unfold thZ at *
    simp (disch := omega) only [up_r]; exact y1
  · unfold thR at *
    simp (disch := omega) only [up_r]; exact tR
  · unfold mm_up2
    rw [if_neg (by omega), if_neg (by omega), if_neg (by omega)]
    exact n2.1 r j (by omega) (by omega)
