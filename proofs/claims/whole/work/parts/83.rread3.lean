/-! the text: the reference's fault and thing -/
def frV (F F' : Nat → Nat → Value) : Prop := ∀ r j, ¬ (r = 120 ∧ 23 ≤ j ∧ j ≤ 29) → F' r j = F r j
theorem frV_U {F F' : Nat → Nat → Value} (h : frU F F') : frV F F' := fun r j a => h r j (by omega)
theorem frV_trans {F F' F'' : Nat → Nat → Value} (h : frV F F') (h' : frV F' F'') : frV F F'' := fun r j a => (h' r j a).trans (h r j a)
theorem frV_up (F : Nat → Nat → Value) (j : Nat) (v : Value) (hj : 23 ≤ j ∧ j ≤ 29) : frV F (mm_up2 F 120 j v) := fun r i a => by unfold mm_up2; rw [if_neg (by omega)]
theorem FixM_frV {F F' : Nat → Nat → Value} (h : FixM F) (hf : frV F F') : FixM F' := by
  intro q hq
  rw [hf 120 q.1 (fun a => stM_n q hq (by omega))]
  exact h q hq
theorem rTx_frV (k : Nat) (tx : Nat → Nat) {F F' : Nat → Nat → Value} {I I' : Nat → Nat → Int32} (h : rTx k tx F I) (hf : frV F F') (hi : I' 133 = I 133) : rTx k tx F' I' := ⟨by rw [hf 120 21 (by omega)]; exact h.1, by rw [hi]; exact h.2⟩
theorem tok_s (k : Nat) (tx : Nat → Nat) {b : Nat} {T : Int64} {N : Int32} (hb : b ≤ k) (h : tokR k tx b T N) : (T = -3 ↔ (b < k ∧ tx b = 59)) ∧ (T = -2 ↔ b = k) := by
  obtain ⟨h1, h2, h3, h4, h5⟩ := h
  by_cases c : b < k
  · have cn : ¬ b = k := by omega
    cases e : isL (tx b) with
    | true =>
      have eb := isL_b e
      have t := h2 c e
      have hl := tkE_L k tx c e
      have hb27 := wH_lt tx b _ hl
      have key : ∀ v : Int, v < 0 → ¬ v = -4 → ¬ T.toInt = v := by
        intro v hv hv4 q
        rw [t] at q
        unfold tkL at q
        split at q
        · have p1 : 27 ^ (tkE k tx b - b) ≤ 27 ^ 9 := Nat.pow_le_pow_right (by decide) (by omega)
          have p : (27 : Nat) ^ 9 < 2 ^ 63 := by decide
          unfold lN at q
          rw [Int64.toInt_ofNat_of_lt (by omega)] at q
          omega
        · have m4 : (-4 : Int64).toInt = -4 := rfl
          omega
      have k3 : ¬ T = -3 := fun q => key (-3) (by decide) (by decide) (by rw [q]; rfl)
      have k2 : ¬ T = -2 := fun q => key (-2) (by decide) (by decide) (by rw [q]; rfl)
      exact ⟨⟨fun q => absurd q k3, fun q => by omega⟩, ⟨fun q => absurd q k2, fun q => by omega⟩⟩
    | false =>
      cases e2 : isD (tx b) with
      | true =>
        have eb := isD_b e2
        have t : T = -1 ∨ T = -4 := by
          by_cases q : tkE k tx b = b + 1
          · exact Or.inl (h3 c e2 q).1
          · exact Or.inr (h4 c e2 q)
        have k3 : ¬ T = -3 := by rcases t with rfl | rfl <;> decide
        have k2 : ¬ T = -2 := by rcases t with rfl | rfl <;> decide
        exact ⟨⟨fun q => absurd q k3, fun q => by omega⟩, ⟨fun q => absurd q k2, fun q => by omega⟩⟩
      | false =>
        have t := h5 c e e2
        by_cases s : tx b = 59
        · rw [if_pos s] at t
          subst t
          exact ⟨⟨fun _ => ⟨c, s⟩, fun _ => rfl⟩, ⟨fun q => absurd q (by decide), fun q => absurd q cn⟩⟩
        · rw [if_neg s] at t
          subst t
          exact ⟨⟨fun q => absurd q (by decide), fun q => absurd q.2 s⟩, ⟨fun q => absurd q (by decide), fun q => absurd q cn⟩⟩
  · have t := h1 (by omega)
    subst t
    exact ⟨⟨fun q => absurd q (by decide), fun q => absurd q.1 c⟩, ⟨fun _ => by omega, fun _ => rfl⟩⟩
theorem rT_read_l (d : Nat) (z : mm_Z) (L : Nat → Nat → Int64) (k : Nat) (tx : Nat → Nat) (hz : zOK z) (ok : okT k tx) : ∀ f l i (F : Nat → Nat → Value) (I : Nat → Nat → Int32) (th : Nat → Nat × Nat × Nat × Nat), l + f = 9 → i ≤ k → FixM F → rTx k tx F I → F 120 23 = .int (nI i) → F 120 29 = .int (nI l) → (∀ q, q < l → rdW q (th q) I) → ∃ F' I' b, mm_E (d + 4) mX11_isRead 12 [.ref 120, .int 1] [] (z, F, I, L) = some (some (.int (bI b)), (z, F', I', L)) ∧ frV F F' ∧ (∀ r, ¬ r = 134 → I' r = I r) ∧ (∀ p, rdI k tx (f + 1) i l th = .inl p → b = false ∧ F' 120 28 = .int (nI p)) ∧ ∀ c' th', rdI k tx (f + 1) i l th = .inr (c', th') → b = true ∧ F' 120 29 = .int (nI c') ∧ ∀ q, q < c' → rdW q (th' q) I' := by
  have ok1 := ok.1
  intro f
  induction f with
  | zero =>
    intro l i F I th hl hi hF h h3 h9 hW
    obtain ⟨F1, I1, b, e1, r1, c1, e2, e3⟩ := rT_line d z F I L k tx hz hF ok h i l hi (by omega) h3
    have h9' : F1 120 29 = .int (nI l) := by rw [r1 120 29 (by omega)]; exact h9
    rw [rdI]
    cases r : rdL k tx i with
    | inl p =>
      obtain ⟨b0, p0⟩ := e2 p r
      subst b0
      refine ⟨F1, I1, false, ?_, frV_U r1, c1.1, fun q hq => ⟨rfl, by rw [p0, Sum.inl.inj hq]⟩, fun c' th' hq => absurd hq (by simp)⟩
      rw [eX11_isRead_12]
      simp (disch := first | assumption | exact bI_or _ | exact zOK_O hz (by decide) (by decide) rfl | exact zOK_T hz (by decide) (by decide) rfl | (refine ix (zOK_l hz (by decide) (by decide) rfl) ?_; omega) | decide | omega) only [eX11_isRead_13, eX11_isRead_16, eX11_isRead_17, eX11_isRead_18, eX11_isRead_19, eX11_isRead_22, eX11_isRead_23, eX11_isRead_26, eX11_isRead_29, eX11_isRead_30, eX11_isRead_31, eX11_isRead_32, eX11_isRead_33, eX11_isRead_36, eX11_isRead_37, eX11_isRead_38, eX11_isRead_41, eX11_isRead_42, eX11_isRead_45, eX11_isRead_46, eX11_isRead_49, eX11_isRead_52, eX11_isRead_53, eX11_isRead_56, eX11_isRead_57, eX11_isRead_60, eX11_isRead_62, eX11_isRead_65, eX11_isRead_66, eX11_isRead_69, eX11_isRead_70, eX11_isRead_71, Nat.reduceLT, Nat.reduceLeDiff, Nat.reduceEqDiff, Nat.reduceAdd, Nat.reduceMul, Int.reduceLE, Int.reduceLT, Int.reduceEq, not_false_iff, nlr, Nat.zero_add, Nat.add_zero, e10f, e01f, eq_self, true_and, and_true, false_and, and_false, and_self, decide_true, decide_false, mm_bd_i, mm_bd_v, if_true, if_false, not_true_eq_false, not_false_eq_true, nI_1, Bool.true_eq_false, Bool.false_eq_true, bI_0, n_le0, n_0lt, n_lt0, n_0le, n_eq0, n_eqm, n_eq1, n_le1, n_1lt, n_1le, n_lt1, nn_le, nI_ltI, nI_eq, nI_clamp, nI_add, pk_mul, i_eq0, i_eqm, i_0le, i_le0, i_0lt, i_lt0, i_mle, i_ltm, ii_le, iI_lt, iI_eq, ni_le, ni_lt, ni_eq, in_le, in_lt, in_eq, ni_add, in_add, ni_sub, in_sub, ni_mul, in_mul, iI_add, iI_sub, iI_mul, i_p1, iI_neg, n_neg, h9, e1, bI_f]
    | inr q =>
      obtain ⟨ln, j⟩ := q
      obtain ⟨b0, hj, j3, w0⟩ := e3 ln j r
      subst b0
      dsimp only
      have fr2 := frV_trans (frV_U r1) (frV_up F1 29 (.int (nI (l + 1))) (by decide))
      have hF2 := FixM_frV hF fr2
      have h2 : rTx k tx (mm_up2 F1 120 29 (.int (nI (l + 1)))) I1 := rTx_frV k tx h fr2 (c1.1 133 (by decide))
      obtain ⟨F3, T, N, n1, n2, n3, n4, n5, n6, n7⟩ := rT_next (d + 2) z _ I1 L k tx hz hF2 ok h2 j hj (by rw [up_k _ _ _ _ (by decide)]; exact j3)
      have bb := tkB_b k tx hj
      have ts := tok_s k tx bb.2 n7
      have n9 : F3 120 29 = .int (nI (l + 1)) := by rw [n2 120 29 (by omega), up_s]
      have fa := fun d' => rT_fails d' z F3 I1 L hz _ n4
      have fr3 := frV_trans fr2 (frV_U (frU_T n2))
      have W' : ∀ q, q < l + 1 → rdW q (udf th l ln q) I1 := by
        intro q hq
        by_cases e : q = l
        · subst e; rw [udf_s]; exact w0
        · rw [udf_n _ _ e]
          have := hW q (by omega)
          unfold rdW at *
          rw [c1.2 _ (by omega), c1.2 _ (by omega), c1.2 _ (by omega), c1.2 _ (by omega)]
          exact this
      have l9 : ¬ l + 1 < 10 := by omega
      by_cases c : tkB k tx j = k
      · have t2 := ts.2.mpr c
        have t3 : ¬ T = -3 := fun q => by have := ts.1.mp q; omega
        rw [if_pos c]
        refine ⟨F3, I1, true, ?_, fr3, c1.1, fun q hq => absurd hq (by simp), fun c' th' hq => ?_⟩
        · rw [eX11_isRead_12]
          simp (disch := first | assumption | exact bI_or _ | exact zOK_O hz (by decide) (by decide) rfl | exact zOK_T hz (by decide) (by decide) rfl | (refine ix (zOK_l hz (by decide) (by decide) rfl) ?_; omega) | decide | omega) only [eX11_isRead_13, eX11_isRead_16, eX11_isRead_17, eX11_isRead_18, eX11_isRead_19, eX11_isRead_22, eX11_isRead_23, eX11_isRead_26, eX11_isRead_29, eX11_isRead_30, eX11_isRead_31, eX11_isRead_32, eX11_isRead_33, eX11_isRead_36, eX11_isRead_37, eX11_isRead_38, eX11_isRead_41, eX11_isRead_42, eX11_isRead_45, eX11_isRead_46, eX11_isRead_49, eX11_isRead_52, eX11_isRead_53, eX11_isRead_56, eX11_isRead_57, eX11_isRead_60, eX11_isRead_62, eX11_isRead_65, eX11_isRead_66, eX11_isRead_69, eX11_isRead_70, eX11_isRead_71, Nat.reduceLT, Nat.reduceLeDiff, Nat.reduceEqDiff, Nat.reduceAdd, Nat.reduceMul, Int.reduceLE, Int.reduceLT, Int.reduceEq, not_false_iff, nlr, Nat.zero_add, Nat.add_zero, e10f, e01f, eq_self, true_and, and_true, false_and, and_false, and_self, decide_true, decide_false, mm_bd_i, mm_bd_v, if_true, if_false, not_true_eq_false, not_false_eq_true, nI_1, Bool.true_eq_false, Bool.false_eq_true, bI_0, n_le0, n_0lt, n_lt0, n_0le, n_eq0, n_eqm, n_eq1, n_le1, n_1lt, n_1le, n_lt1, nn_le, nI_ltI, nI_eq, nI_clamp, nI_add, pk_mul, i_eq0, i_eqm, i_0le, i_le0, i_0lt, i_lt0, i_mle, i_ltm, ii_le, iI_lt, iI_eq, ni_le, ni_lt, ni_eq, in_le, in_lt, in_eq, ni_add, in_add, ni_sub, in_sub, ni_mul, in_mul, iI_add, iI_sub, iI_mul, i_p1, iI_neg, n_neg, h9, e1, h9', n1, n5, lg_cmp_eq, t3, bI_t]
          rw [eX11_isRead_12]
          simp (disch := first | assumption | exact bI_or _ | exact zOK_O hz (by decide) (by decide) rfl | exact zOK_T hz (by decide) (by decide) rfl | (refine ix (zOK_l hz (by decide) (by decide) rfl) ?_; omega) | decide | omega) only [eX11_isRead_13, eX11_isRead_16, eX11_isRead_17, eX11_isRead_18, eX11_isRead_19, eX11_isRead_22, eX11_isRead_23, eX11_isRead_26, eX11_isRead_29, eX11_isRead_30, eX11_isRead_31, eX11_isRead_32, eX11_isRead_33, eX11_isRead_36, eX11_isRead_37, eX11_isRead_38, eX11_isRead_41, eX11_isRead_42, eX11_isRead_45, eX11_isRead_46, eX11_isRead_49, eX11_isRead_52, eX11_isRead_53, eX11_isRead_56, eX11_isRead_57, eX11_isRead_60, eX11_isRead_62, eX11_isRead_65, eX11_isRead_66, eX11_isRead_69, eX11_isRead_70, eX11_isRead_71, eX11_isRead_74, eX11_isRead_75, eX11_isRead_78, eX11_isRead_81, eX11_isRead_82, eX11_isRead_85, eX11_isRead_86, eX11_isRead_89, eX11_isRead_92, eX11_isRead_93, eX11_isRead_96, eX11_isRead_97, Nat.reduceLT, Nat.reduceLeDiff, Nat.reduceEqDiff, Nat.reduceAdd, Nat.reduceMul, Int.reduceLE, Int.reduceLT, Int.reduceEq, not_false_iff, nlr, Nat.zero_add, Nat.add_zero, e10f, e01f, eq_self, true_and, and_true, false_and, and_false, and_self, decide_true, decide_false, mm_bd_i, mm_bd_v, if_true, if_false, not_true_eq_false, not_false_eq_true, nI_1, Bool.true_eq_false, Bool.false_eq_true, bI_0, n_le0, n_0lt, n_lt0, n_0le, n_eq0, n_eqm, n_eq1, n_le1, n_1lt, n_1le, n_lt1, nn_le, nI_ltI, nI_eq, nI_clamp, nI_add, pk_mul, i_eq0, i_eqm, i_0le, i_le0, i_0lt, i_lt0, i_mle, i_ltm, ii_le, iI_lt, iI_eq, ni_le, ni_lt, ni_eq, in_le, in_lt, in_eq, ni_add, in_add, ni_sub, in_sub, ni_mul, in_mul, iI_add, iI_sub, iI_mul, i_p1, iI_neg, n_neg, n5, lg_cmp_eq]
          rw [if_pos t2]
        · have q := Sum.inr.inj hq
          have q1 := congrArg Prod.fst q
          have q2 := congrArg Prod.snd q
          simp only at q1 q2
          subst q1; subst q2
          exact ⟨rfl, n9, W'⟩
      · have t2 : ¬ T = -2 := fun q => c (ts.2.mp q)
        rw [if_neg c, if_neg (fun q => q.2 rfl)]
        refine ⟨mm_up2 F3 120 28 (.int (nI (tkB k tx j))), I1, false, ?_, frV_trans fr3 (frV_up _ 28 _ (by decide)), c1.1, fun q hq => ⟨rfl, by rw [up_s, Sum.inl.inj hq]⟩, fun c' th' hq => absurd hq (by simp)⟩
        rw [eX11_isRead_12]
        by_cases t3 : T = -3
        · simp (disch := first | assumption | exact bI_or _ | exact zOK_O hz (by decide) (by decide) rfl | exact zOK_T hz (by decide) (by decide) rfl | (refine ix (zOK_l hz (by decide) (by decide) rfl) ?_; omega) | decide | omega) only [eX11_isRead_13, eX11_isRead_16, eX11_isRead_17, eX11_isRead_18, eX11_isRead_19, eX11_isRead_22, eX11_isRead_23, eX11_isRead_26, eX11_isRead_29, eX11_isRead_30, eX11_isRead_31, eX11_isRead_32, eX11_isRead_33, eX11_isRead_36, eX11_isRead_37, eX11_isRead_38, eX11_isRead_41, eX11_isRead_42, eX11_isRead_45, eX11_isRead_46, eX11_isRead_49, eX11_isRead_52, eX11_isRead_53, eX11_isRead_56, eX11_isRead_57, eX11_isRead_60, eX11_isRead_62, eX11_isRead_65, eX11_isRead_66, eX11_isRead_69, eX11_isRead_70, eX11_isRead_71, Nat.reduceLT, Nat.reduceLeDiff, Nat.reduceEqDiff, Nat.reduceAdd, Nat.reduceMul, Int.reduceLE, Int.reduceLT, Int.reduceEq, not_false_iff, nlr, Nat.zero_add, Nat.add_zero, e10f, e01f, eq_self, true_and, and_true, false_and, and_false, and_self, decide_true, decide_false, mm_bd_i, mm_bd_v, if_true, if_false, not_true_eq_false, not_false_eq_true, nI_1, Bool.true_eq_false, Bool.false_eq_true, bI_0, n_le0, n_0lt, n_lt0, n_0le, n_eq0, n_eqm, n_eq1, n_le1, n_1lt, n_1le, n_lt1, nn_le, nI_ltI, nI_eq, nI_clamp, nI_add, pk_mul, i_eq0, i_eqm, i_0le, i_le0, i_0lt, i_lt0, i_mle, i_ltm, ii_le, iI_lt, iI_eq, ni_le, ni_lt, ni_eq, in_le, in_lt, in_eq, ni_add, in_add, ni_sub, in_sub, ni_mul, in_mul, iI_add, iI_sub, iI_mul, i_p1, iI_neg, n_neg, h9, e1, h9', n1, n5, n9, lg_cmp_eq, l9, bI_t, bI_f]
          rw [if_neg (fun q => q t3), eX11_isRead_12]
          simp (disch := first | assumption | exact bI_or _ | exact zOK_O hz (by decide) (by decide) rfl | exact zOK_T hz (by decide) (by decide) rfl | (refine ix (zOK_l hz (by decide) (by decide) rfl) ?_; omega) | decide | omega) only [eX11_isRead_13, eX11_isRead_16, eX11_isRead_17, eX11_isRead_18, eX11_isRead_19, eX11_isRead_22, eX11_isRead_23, eX11_isRead_26, eX11_isRead_29, eX11_isRead_30, eX11_isRead_31, eX11_isRead_32, eX11_isRead_33, eX11_isRead_36, eX11_isRead_37, eX11_isRead_38, eX11_isRead_41, eX11_isRead_42, eX11_isRead_45, eX11_isRead_46, eX11_isRead_49, eX11_isRead_52, eX11_isRead_53, eX11_isRead_56, eX11_isRead_57, eX11_isRead_60, eX11_isRead_62, eX11_isRead_65, eX11_isRead_66, eX11_isRead_69, eX11_isRead_70, eX11_isRead_71, eX11_isRead_74, eX11_isRead_75, eX11_isRead_78, eX11_isRead_81, eX11_isRead_82, eX11_isRead_85, eX11_isRead_86, eX11_isRead_89, eX11_isRead_92, eX11_isRead_93, eX11_isRead_96, eX11_isRead_97, Nat.reduceLT, Nat.reduceLeDiff, Nat.reduceEqDiff, Nat.reduceAdd, Nat.reduceMul, Int.reduceLE, Int.reduceLT, Int.reduceEq, not_false_iff, nlr, Nat.zero_add, Nat.add_zero, e10f, e01f, eq_self, true_and, and_true, false_and, and_false, and_self, decide_true, decide_false, mm_bd_i, mm_bd_v, if_true, if_false, not_true_eq_false, not_false_eq_true, nI_1, Bool.true_eq_false, Bool.false_eq_true, bI_0, n_le0, n_0lt, n_lt0, n_0le, n_eq0, n_eqm, n_eq1, n_le1, n_1lt, n_1le, n_lt1, nn_le, nI_ltI, nI_eq, nI_clamp, nI_add, pk_mul, i_eq0, i_eqm, i_0le, i_le0, i_0lt, i_lt0, i_mle, i_ltm, ii_le, iI_lt, iI_eq, ni_le, ni_lt, ni_eq, in_le, in_lt, in_eq, ni_add, in_add, ni_sub, in_sub, ni_mul, in_mul, iI_add, iI_sub, iI_mul, i_p1, iI_neg, n_neg, n5, lg_cmp_eq, t2, fa]
        · simp (disch := first | assumption | exact bI_or _ | exact zOK_O hz (by decide) (by decide) rfl | exact zOK_T hz (by decide) (by decide) rfl | (refine ix (zOK_l hz (by decide) (by decide) rfl) ?_; omega) | decide | omega) only [eX11_isRead_13, eX11_isRead_16, eX11_isRead_17, eX11_isRead_18, eX11_isRead_19, eX11_isRead_22, eX11_isRead_23, eX11_isRead_26, eX11_isRead_29, eX11_isRead_30, eX11_isRead_31, eX11_isRead_32, eX11_isRead_33, eX11_isRead_36, eX11_isRead_37, eX11_isRead_38, eX11_isRead_41, eX11_isRead_42, eX11_isRead_45, eX11_isRead_46, eX11_isRead_49, eX11_isRead_52, eX11_isRead_53, eX11_isRead_56, eX11_isRead_57, eX11_isRead_60, eX11_isRead_62, eX11_isRead_65, eX11_isRead_66, eX11_isRead_69, eX11_isRead_70, eX11_isRead_71, Nat.reduceLT, Nat.reduceLeDiff, Nat.reduceEqDiff, Nat.reduceAdd, Nat.reduceMul, Int.reduceLE, Int.reduceLT, Int.reduceEq, not_false_iff, nlr, Nat.zero_add, Nat.add_zero, e10f, e01f, eq_self, true_and, and_true, false_and, and_false, and_self, decide_true, decide_false, mm_bd_i, mm_bd_v, if_true, if_false, not_true_eq_false, not_false_eq_true, nI_1, Bool.true_eq_false, Bool.false_eq_true, bI_0, n_le0, n_0lt, n_lt0, n_0le, n_eq0, n_eqm, n_eq1, n_le1, n_1lt, n_1le, n_lt1, nn_le, nI_ltI, nI_eq, nI_clamp, nI_add, pk_mul, i_eq0, i_eqm, i_0le, i_le0, i_0lt, i_lt0, i_mle, i_ltm, ii_le, iI_lt, iI_eq, ni_le, ni_lt, ni_eq, in_le, in_lt, in_eq, ni_add, in_add, ni_sub, in_sub, ni_mul, in_mul, iI_add, iI_sub, iI_mul, i_p1, iI_neg, n_neg, h9, e1, h9', n1, n5, lg_cmp_eq, t3, bI_t, bI_f]
          rw [eX11_isRead_12]
          simp (disch := first | assumption | exact bI_or _ | exact zOK_O hz (by decide) (by decide) rfl | exact zOK_T hz (by decide) (by decide) rfl | (refine ix (zOK_l hz (by decide) (by decide) rfl) ?_; omega) | decide | omega) only [eX11_isRead_13, eX11_isRead_16, eX11_isRead_17, eX11_isRead_18, eX11_isRead_19, eX11_isRead_22, eX11_isRead_23, eX11_isRead_26, eX11_isRead_29, eX11_isRead_30, eX11_isRead_31, eX11_isRead_32, eX11_isRead_33, eX11_isRead_36, eX11_isRead_37, eX11_isRead_38, eX11_isRead_41, eX11_isRead_42, eX11_isRead_45, eX11_isRead_46, eX11_isRead_49, eX11_isRead_52, eX11_isRead_53, eX11_isRead_56, eX11_isRead_57, eX11_isRead_60, eX11_isRead_62, eX11_isRead_65, eX11_isRead_66, eX11_isRead_69, eX11_isRead_70, eX11_isRead_71, eX11_isRead_74, eX11_isRead_75, eX11_isRead_78, eX11_isRead_81, eX11_isRead_82, eX11_isRead_85, eX11_isRead_86, eX11_isRead_89, eX11_isRead_92, eX11_isRead_93, eX11_isRead_96, eX11_isRead_97, Nat.reduceLT, Nat.reduceLeDiff, Nat.reduceEqDiff, Nat.reduceAdd, Nat.reduceMul, Int.reduceLE, Int.reduceLT, Int.reduceEq, not_false_iff, nlr, Nat.zero_add, Nat.add_zero, e10f, e01f, eq_self, true_and, and_true, false_and, and_false, and_self, decide_true, decide_false, mm_bd_i, mm_bd_v, if_true, if_false, not_true_eq_false, not_false_eq_true, nI_1, Bool.true_eq_false, Bool.false_eq_true, bI_0, n_le0, n_0lt, n_lt0, n_0le, n_eq0, n_eqm, n_eq1, n_le1, n_1lt, n_1le, n_lt1, nn_le, nI_ltI, nI_eq, nI_clamp, nI_add, pk_mul, i_eq0, i_eqm, i_0le, i_le0, i_0lt, i_lt0, i_mle, i_ltm, ii_le, iI_lt, iI_eq, ni_le, ni_lt, ni_eq, in_le, in_lt, in_eq, ni_add, in_add, ni_sub, in_sub, ni_mul, in_mul, iI_add, iI_sub, iI_mul, i_p1, iI_neg, n_neg, n5, lg_cmp_eq, t2, fa]
  | succ f ih =>
    intro l i F I th hl hi hF h h3 h9 hW
    obtain ⟨F1, I1, b, e1, r1, c1, e2, e3⟩ := rT_line d z F I L k tx hz hF ok h i l hi (by omega) h3
    have h9' : F1 120 29 = .int (nI l) := by rw [r1 120 29 (by omega)]; exact h9
    rw [rdI]
    cases r : rdL k tx i with
    | inl p =>
      obtain ⟨b0, p0⟩ := e2 p r
      subst b0
      refine ⟨F1, I1, false, ?_, frV_U r1, c1.1, fun q hq => ⟨rfl, by rw [p0, Sum.inl.inj hq]⟩, fun c' th' hq => absurd hq (by simp)⟩
      rw [eX11_isRead_12]
      simp (disch := first | assumption | exact bI_or _ | exact zOK_O hz (by decide) (by decide) rfl | exact zOK_T hz (by decide) (by decide) rfl | (refine ix (zOK_l hz (by decide) (by decide) rfl) ?_; omega) | decide | omega) only [eX11_isRead_13, eX11_isRead_16, eX11_isRead_17, eX11_isRead_18, eX11_isRead_19, eX11_isRead_22, eX11_isRead_23, eX11_isRead_26, eX11_isRead_29, eX11_isRead_30, eX11_isRead_31, eX11_isRead_32, eX11_isRead_33, eX11_isRead_36, eX11_isRead_37, eX11_isRead_38, eX11_isRead_41, eX11_isRead_42, eX11_isRead_45, eX11_isRead_46, eX11_isRead_49, eX11_isRead_52, eX11_isRead_53, eX11_isRead_56, eX11_isRead_57, eX11_isRead_60, eX11_isRead_62, eX11_isRead_65, eX11_isRead_66, eX11_isRead_69, eX11_isRead_70, eX11_isRead_71, Nat.reduceLT, Nat.reduceLeDiff, Nat.reduceEqDiff, Nat.reduceAdd, Nat.reduceMul, Int.reduceLE, Int.reduceLT, Int.reduceEq, not_false_iff, nlr, Nat.zero_add, Nat.add_zero, e10f, e01f, eq_self, true_and, and_true, false_and, and_false, and_self, decide_true, decide_false, mm_bd_i, mm_bd_v, if_true, if_false, not_true_eq_false, not_false_eq_true, nI_1, Bool.true_eq_false, Bool.false_eq_true, bI_0, n_le0, n_0lt, n_lt0, n_0le, n_eq0, n_eqm, n_eq1, n_le1, n_1lt, n_1le, n_lt1, nn_le, nI_ltI, nI_eq, nI_clamp, nI_add, pk_mul, i_eq0, i_eqm, i_0le, i_le0, i_0lt, i_lt0, i_mle, i_ltm, ii_le, iI_lt, iI_eq, ni_le, ni_lt, ni_eq, in_le, in_lt, in_eq, ni_add, in_add, ni_sub, in_sub, ni_mul, in_mul, iI_add, iI_sub, iI_mul, i_p1, iI_neg, n_neg, h9, e1, bI_f]
    | inr q =>
      obtain ⟨ln, j⟩ := q
      obtain ⟨b0, hj, j3, w0⟩ := e3 ln j r
      subst b0
      dsimp only
      have fr2 := frV_trans (frV_U r1) (frV_up F1 29 (.int (nI (l + 1))) (by decide))
      have hF2 := FixM_frV hF fr2
      have h2 : rTx k tx (mm_up2 F1 120 29 (.int (nI (l + 1)))) I1 := rTx_frV k tx h fr2 (c1.1 133 (by decide))
      obtain ⟨F3, T, N, n1, n2, n3, n4, n5, n6, n7⟩ := rT_next (d + 2) z _ I1 L k tx hz hF2 ok h2 j hj (by rw [up_k _ _ _ _ (by decide)]; exact j3)
      have bb := tkB_b k tx hj
      have ts := tok_s k tx bb.2 n7
      have n9 : F3 120 29 = .int (nI (l + 1)) := by rw [n2 120 29 (by omega), up_s]
      have fa := fun d' => rT_fails d' z F3 I1 L hz _ n4
      have fr3 := frV_trans fr2 (frV_U (frU_T n2))
      have W' : ∀ q, q < l + 1 → rdW q (udf th l ln q) I1 := by
        intro q hq
        by_cases e : q = l
        · subst e; rw [udf_s]; exact w0
        · rw [udf_n _ _ e]
          have := hW q (by omega)
          unfold rdW at *
          rw [c1.2 _ (by omega), c1.2 _ (by omega), c1.2 _ (by omega), c1.2 _ (by omega)]
          exact this
      have l9 : l + 1 < 10 := by omega
      by_cases c : tkB k tx j = k
      · have t2 := ts.2.mpr c
        have t3 : ¬ T = -3 := fun q => by have := ts.1.mp q; omega
        rw [if_pos c]
        refine ⟨F3, I1, true, ?_, fr3, c1.1, fun q hq => absurd hq (by simp), fun c' th' hq => ?_⟩
        · rw [eX11_isRead_12]
          simp (disch := first | assumption | exact bI_or _ | exact zOK_O hz (by decide) (by decide) rfl | exact zOK_T hz (by decide) (by decide) rfl | (refine ix (zOK_l hz (by decide) (by decide) rfl) ?_; omega) | decide | omega) only [eX11_isRead_13, eX11_isRead_16, eX11_isRead_17, eX11_isRead_18, eX11_isRead_19, eX11_isRead_22, eX11_isRead_23, eX11_isRead_26, eX11_isRead_29, eX11_isRead_30, eX11_isRead_31, eX11_isRead_32, eX11_isRead_33, eX11_isRead_36, eX11_isRead_37, eX11_isRead_38, eX11_isRead_41, eX11_isRead_42, eX11_isRead_45, eX11_isRead_46, eX11_isRead_49, eX11_isRead_52, eX11_isRead_53, eX11_isRead_56, eX11_isRead_57, eX11_isRead_60, eX11_isRead_62, eX11_isRead_65, eX11_isRead_66, eX11_isRead_69, eX11_isRead_70, eX11_isRead_71, Nat.reduceLT, Nat.reduceLeDiff, Nat.reduceEqDiff, Nat.reduceAdd, Nat.reduceMul, Int.reduceLE, Int.reduceLT, Int.reduceEq, not_false_iff, nlr, Nat.zero_add, Nat.add_zero, e10f, e01f, eq_self, true_and, and_true, false_and, and_false, and_self, decide_true, decide_false, mm_bd_i, mm_bd_v, if_true, if_false, not_true_eq_false, not_false_eq_true, nI_1, Bool.true_eq_false, Bool.false_eq_true, bI_0, n_le0, n_0lt, n_lt0, n_0le, n_eq0, n_eqm, n_eq1, n_le1, n_1lt, n_1le, n_lt1, nn_le, nI_ltI, nI_eq, nI_clamp, nI_add, pk_mul, i_eq0, i_eqm, i_0le, i_le0, i_0lt, i_lt0, i_mle, i_ltm, ii_le, iI_lt, iI_eq, ni_le, ni_lt, ni_eq, in_le, in_lt, in_eq, ni_add, in_add, ni_sub, in_sub, ni_mul, in_mul, iI_add, iI_sub, iI_mul, i_p1, iI_neg, n_neg, h9, e1, h9', n1, n5, lg_cmp_eq, t3, bI_t]
          rw [eX11_isRead_12]
          simp (disch := first | assumption | exact bI_or _ | exact zOK_O hz (by decide) (by decide) rfl | exact zOK_T hz (by decide) (by decide) rfl | (refine ix (zOK_l hz (by decide) (by decide) rfl) ?_; omega) | decide | omega) only [eX11_isRead_13, eX11_isRead_16, eX11_isRead_17, eX11_isRead_18, eX11_isRead_19, eX11_isRead_22, eX11_isRead_23, eX11_isRead_26, eX11_isRead_29, eX11_isRead_30, eX11_isRead_31, eX11_isRead_32, eX11_isRead_33, eX11_isRead_36, eX11_isRead_37, eX11_isRead_38, eX11_isRead_41, eX11_isRead_42, eX11_isRead_45, eX11_isRead_46, eX11_isRead_49, eX11_isRead_52, eX11_isRead_53, eX11_isRead_56, eX11_isRead_57, eX11_isRead_60, eX11_isRead_62, eX11_isRead_65, eX11_isRead_66, eX11_isRead_69, eX11_isRead_70, eX11_isRead_71, eX11_isRead_74, eX11_isRead_75, eX11_isRead_78, eX11_isRead_81, eX11_isRead_82, eX11_isRead_85, eX11_isRead_86, eX11_isRead_89, eX11_isRead_92, eX11_isRead_93, eX11_isRead_96, eX11_isRead_97, Nat.reduceLT, Nat.reduceLeDiff, Nat.reduceEqDiff, Nat.reduceAdd, Nat.reduceMul, Int.reduceLE, Int.reduceLT, Int.reduceEq, not_false_iff, nlr, Nat.zero_add, Nat.add_zero, e10f, e01f, eq_self, true_and, and_true, false_and, and_false, and_self, decide_true, decide_false, mm_bd_i, mm_bd_v, if_true, if_false, not_true_eq_false, not_false_eq_true, nI_1, Bool.true_eq_false, Bool.false_eq_true, bI_0, n_le0, n_0lt, n_lt0, n_0le, n_eq0, n_eqm, n_eq1, n_le1, n_1lt, n_1le, n_lt1, nn_le, nI_ltI, nI_eq, nI_clamp, nI_add, pk_mul, i_eq0, i_eqm, i_0le, i_le0, i_0lt, i_lt0, i_mle, i_ltm, ii_le, iI_lt, iI_eq, ni_le, ni_lt, ni_eq, in_le, in_lt, in_eq, ni_add, in_add, ni_sub, in_sub, ni_mul, in_mul, iI_add, iI_sub, iI_mul, i_p1, iI_neg, n_neg, n5, lg_cmp_eq]
          rw [if_pos t2]
        · have q := Sum.inr.inj hq
          have q1 := congrArg Prod.fst q
          have q2 := congrArg Prod.snd q
          simp only at q1 q2
          subst q1; subst q2
          exact ⟨rfl, n9, W'⟩
      · have t2 : ¬ T = -2 := fun q => c (ts.2.mp q)
        by_cases t3 : T = -3
        · have s59 := (ts.1.mp t3).2
          rw [if_neg c, if_pos ⟨s59, by omega⟩]
          obtain ⟨F4, I4, b4, m1, m2, m3, m4, m5⟩ := ih (l + 1) (nx k tx j) F3 I1 (udf th l ln) (by omega) (nx_b k tx hj).2 (FixM_frV hF fr3) (rTx_frV k tx h fr3 (c1.1 133 (by decide))) n3 n9 W'
          refine ⟨F4, I4, b4, ?_, frV_trans fr3 m2, fun r hr => by rw [m3 r hr, c1.1 r hr], m4, m5⟩
          rw [← m1, eX11_isRead_12]
          simp (disch := first | assumption | exact bI_or _ | exact zOK_O hz (by decide) (by decide) rfl | exact zOK_T hz (by decide) (by decide) rfl | (refine ix (zOK_l hz (by decide) (by decide) rfl) ?_; omega) | decide | omega) only [eX11_isRead_13, eX11_isRead_16, eX11_isRead_17, eX11_isRead_18, eX11_isRead_19, eX11_isRead_22, eX11_isRead_23, eX11_isRead_26, eX11_isRead_29, eX11_isRead_30, eX11_isRead_31, eX11_isRead_32, eX11_isRead_33, eX11_isRead_36, eX11_isRead_37, eX11_isRead_38, eX11_isRead_41, eX11_isRead_42, eX11_isRead_45, eX11_isRead_46, eX11_isRead_49, eX11_isRead_52, eX11_isRead_53, eX11_isRead_56, eX11_isRead_57, eX11_isRead_60, eX11_isRead_62, eX11_isRead_65, eX11_isRead_66, eX11_isRead_69, eX11_isRead_70, eX11_isRead_71, Nat.reduceLT, Nat.reduceLeDiff, Nat.reduceEqDiff, Nat.reduceAdd, Nat.reduceMul, Int.reduceLE, Int.reduceLT, Int.reduceEq, not_false_iff, nlr, Nat.zero_add, Nat.add_zero, e10f, e01f, eq_self, true_and, and_true, false_and, and_false, and_self, decide_true, decide_false, mm_bd_i, mm_bd_v, if_true, if_false, not_true_eq_false, not_false_eq_true, nI_1, Bool.true_eq_false, Bool.false_eq_true, bI_0, n_le0, n_0lt, n_lt0, n_0le, n_eq0, n_eqm, n_eq1, n_le1, n_1lt, n_1le, n_lt1, nn_le, nI_ltI, nI_eq, nI_clamp, nI_add, pk_mul, i_eq0, i_eqm, i_0le, i_le0, i_0lt, i_lt0, i_mle, i_ltm, ii_le, iI_lt, iI_eq, ni_le, ni_lt, ni_eq, in_le, in_lt, in_eq, ni_add, in_add, ni_sub, in_sub, ni_mul, in_mul, iI_add, iI_sub, iI_mul, i_p1, iI_neg, n_neg, h9, e1, h9', n1, n5, n9, lg_cmp_eq, l9, bI_t]
          rw [if_neg (fun q => q t3)]
        · have s59 : ¬ tx (tkB k tx j) = 59 := fun q => t3 (ts.1.mpr ⟨by omega, q⟩)
          rw [if_neg c, if_neg (fun q => s59 q.1)]
          refine ⟨mm_up2 F3 120 28 (.int (nI (tkB k tx j))), I1, false, ?_, frV_trans fr3 (frV_up _ 28 _ (by decide)), c1.1, fun q hq => ⟨rfl, by rw [up_s, Sum.inl.inj hq]⟩, fun c' th' hq => absurd hq (by simp)⟩
          rw [eX11_isRead_12]
          simp (disch := first | assumption | exact bI_or _ | exact zOK_O hz (by decide) (by decide) rfl | exact zOK_T hz (by decide) (by decide) rfl | (refine ix (zOK_l hz (by decide) (by decide) rfl) ?_; omega) | decide | omega) only [eX11_isRead_13, eX11_isRead_16, eX11_isRead_17, eX11_isRead_18, eX11_isRead_19, eX11_isRead_22, eX11_isRead_23, eX11_isRead_26, eX11_isRead_29, eX11_isRead_30, eX11_isRead_31, eX11_isRead_32, eX11_isRead_33, eX11_isRead_36, eX11_isRead_37, eX11_isRead_38, eX11_isRead_41, eX11_isRead_42, eX11_isRead_45, eX11_isRead_46, eX11_isRead_49, eX11_isRead_52, eX11_isRead_53, eX11_isRead_56, eX11_isRead_57, eX11_isRead_60, eX11_isRead_62, eX11_isRead_65, eX11_isRead_66, eX11_isRead_69, eX11_isRead_70, eX11_isRead_71, Nat.reduceLT, Nat.reduceLeDiff, Nat.reduceEqDiff, Nat.reduceAdd, Nat.reduceMul, Int.reduceLE, Int.reduceLT, Int.reduceEq, not_false_iff, nlr, Nat.zero_add, Nat.add_zero, e10f, e01f, eq_self, true_and, and_true, false_and, and_false, and_self, decide_true, decide_false, mm_bd_i, mm_bd_v, if_true, if_false, not_true_eq_false, not_false_eq_true, nI_1, Bool.true_eq_false, Bool.false_eq_true, bI_0, n_le0, n_0lt, n_lt0, n_0le, n_eq0, n_eqm, n_eq1, n_le1, n_1lt, n_1le, n_lt1, nn_le, nI_ltI, nI_eq, nI_clamp, nI_add, pk_mul, i_eq0, i_eqm, i_0le, i_le0, i_0lt, i_lt0, i_mle, i_ltm, ii_le, iI_lt, iI_eq, ni_le, ni_lt, ni_eq, in_le, in_lt, in_eq, ni_add, in_add, ni_sub, in_sub, ni_mul, in_mul, iI_add, iI_sub, iI_mul, i_p1, iI_neg, n_neg, h9, e1, h9', n1, n5, lg_cmp_eq, t3, bI_t, bI_f]
          rw [eX11_isRead_12]
          simp (disch := first | assumption | exact bI_or _ | exact zOK_O hz (by decide) (by decide) rfl | exact zOK_T hz (by decide) (by decide) rfl | (refine ix (zOK_l hz (by decide) (by decide) rfl) ?_; omega) | decide | omega) only [eX11_isRead_13, eX11_isRead_16, eX11_isRead_17, eX11_isRead_18, eX11_isRead_19, eX11_isRead_22, eX11_isRead_23, eX11_isRead_26, eX11_isRead_29, eX11_isRead_30, eX11_isRead_31, eX11_isRead_32, eX11_isRead_33, eX11_isRead_36, eX11_isRead_37, eX11_isRead_38, eX11_isRead_41, eX11_isRead_42, eX11_isRead_45, eX11_isRead_46, eX11_isRead_49, eX11_isRead_52, eX11_isRead_53, eX11_isRead_56, eX11_isRead_57, eX11_isRead_60, eX11_isRead_62, eX11_isRead_65, eX11_isRead_66, eX11_isRead_69, eX11_isRead_70, eX11_isRead_71, eX11_isRead_74, eX11_isRead_75, eX11_isRead_78, eX11_isRead_81, eX11_isRead_82, eX11_isRead_85, eX11_isRead_86, eX11_isRead_89, eX11_isRead_92, eX11_isRead_93, eX11_isRead_96, eX11_isRead_97, Nat.reduceLT, Nat.reduceLeDiff, Nat.reduceEqDiff, Nat.reduceAdd, Nat.reduceMul, Int.reduceLE, Int.reduceLT, Int.reduceEq, not_false_iff, nlr, Nat.zero_add, Nat.add_zero, e10f, e01f, eq_self, true_and, and_true, false_and, and_false, and_self, decide_true, decide_false, mm_bd_i, mm_bd_v, if_true, if_false, not_true_eq_false, not_false_eq_true, nI_1, Bool.true_eq_false, Bool.false_eq_true, bI_0, n_le0, n_0lt, n_lt0, n_0le, n_eq0, n_eqm, n_eq1, n_le1, n_1lt, n_1le, n_lt1, nn_le, nI_ltI, nI_eq, nI_clamp, nI_add, pk_mul, i_eq0, i_eqm, i_0le, i_le0, i_0lt, i_lt0, i_mle, i_ltm, ii_le, iI_lt, iI_eq, ni_le, ni_lt, ni_eq, in_le, in_lt, in_eq, ni_add, in_add, ni_sub, in_sub, ni_mul, in_mul, iI_add, iI_sub, iI_mul, i_p1, iI_neg, n_neg, n5, lg_cmp_eq, t2, fa]
theorem rT_read (d : Nat) (z : mm_Z) (F : Nat → Nat → Value) (I : Nat → Nat → Int32) (L : Nat → Nat → Int64) (k : Nat) (tx : Nat → Nat) (hz : zOK z) (hF : FixM F) (ok : okT k tx) (h : rTx k tx F I) : ∃ F' I' b, mm_E (d + 4) mX11_isRead 0 [.ref 120, uu] [] (z, F, I, L) = some (some (.int (bI b)), (z, F', I', L)) ∧ frV F F' ∧ (∀ r, ¬ r = 134 → I' r = I r) ∧ (∀ p, rdT k tx = .inl p → b = false ∧ F' 120 28 = .int (nI p)) ∧ ∀ c' th', rdT k tx = .inr (c', th') → b = true ∧ F' 120 29 = .int (nI c') ∧ ∀ q, q < c' → rdW q (th' q) I' := by
  have fr := frV_trans (frV_up F 23 (.int (nI 0)) (by decide)) (frV_up _ 29 (.int (nI 0)) (by decide))
  obtain ⟨F', I', b, e1, e2, e3, e4, e5⟩ := rT_read_l d z L k tx hz ok 9 0 0 _ I th0 rfl (by omega) (FixM_frV hF fr) (rTx_frV k tx h fr rfl) (by rw [up_k _ _ _ _ (by decide), up_s]) (up_s _ _ _ _) (fun q hq => absurd hq (by omega))
  refine ⟨F', I', b, ?_, frV_trans fr e2, e3, e4, e5⟩
  rw [← e1]
  simp (disch := first | assumption | exact bI_or _ | exact zOK_O hz (by decide) (by decide) rfl | exact zOK_T hz (by decide) (by decide) rfl | (refine ix (zOK_l hz (by decide) (by decide) rfl) ?_; omega) | decide | omega) only [eX11_isRead_0, eX11_isRead_1, eX11_isRead_2, eX11_isRead_5, eX11_isRead_6, eX11_isRead_7, eX11_isRead_10, eX11_isRead_11, Nat.reduceLT, Nat.reduceLeDiff, Nat.reduceEqDiff, Nat.reduceAdd, Nat.reduceMul, Int.reduceLE, Int.reduceLT, Int.reduceEq, not_false_iff, nlr, Nat.zero_add, Nat.add_zero, e10f, e01f, eq_self, true_and, and_true, false_and, and_false, and_self, decide_true, decide_false, mm_bd_i, mm_bd_v, if_true, if_false, not_true_eq_false, not_false_eq_true, nI_1, Bool.true_eq_false, Bool.false_eq_true, bI_0, n_le0, n_0lt, n_lt0, n_0le, n_eq0, n_eqm, n_eq1, n_le1, n_1lt, n_1le, n_lt1, nn_le, nI_ltI, nI_eq, nI_clamp, nI_add, pk_mul, i_eq0, i_eqm, i_0le, i_le0, i_0lt, i_lt0, i_mle, i_ltm, ii_le, iI_lt, iI_eq, ni_le, ni_lt, ni_eq, in_le, in_lt, in_eq, ni_add, in_add, ni_sub, in_sub, ni_mul, in_mul, iI_add, iI_sub, iI_mul, i_p1, iI_neg, n_neg]
  rfl
theorem rM_fault (d : Nat) (z : mm_Z) (F : Nat → Nat → Value) (I : Nat → Nat → Int32) (L : Nat → Nat → Int64) (k : Nat) (tx : Nat → Nat) (hz : zOK z) (hF : FixM F) (ok : okT k tx) (h : rTx k tx F I) : ∃ F' I' v, mm_E (d + 5) mX11_fault 0 [.ref 120] [] (z, F, I, L) = some (some (.int v), (z, F', I', L)) ∧ frV F F' ∧ (∀ r, ¬ r = 134 → I' r = I r) ∧ (∀ p, rdT k tx = .inl p → v = nI p) ∧ ∀ c' th', rdT k tx = .inr (c', th') → v = -1 := by
  obtain ⟨F', I', b, e1, e2, e3, e4, e5⟩ := rT_read d z F I L k tx hz hF ok h
  cases r : rdT k tx with
  | inl p =>
    obtain ⟨b0, p0⟩ := e4 p r
    subst b0
    refine ⟨F', I', nI p, ?_, e2, e3, fun q hq => by rw [Sum.inl.inj hq], fun c' th' hq => absurd hq (by simp)⟩
    simp (disch := first | assumption | exact bI_or _ | exact zOK_O hz (by decide) (by decide) rfl | exact zOK_T hz (by decide) (by decide) rfl | (refine ix (zOK_l hz (by decide) (by decide) rfl) ?_; omega) | decide | omega) only [eX11_fault_0, eX11_fault_1, eX11_fault_4, eX11_fault_7, eX11_fault_8, eX11_fault_11, eX11_fault_12, eX11_fault_15, Nat.reduceLT, Nat.reduceLeDiff, Nat.reduceEqDiff, Nat.reduceAdd, Nat.reduceMul, Int.reduceLE, Int.reduceLT, Int.reduceEq, not_false_iff, nlr, Nat.zero_add, Nat.add_zero, e10f, e01f, eq_self, true_and, and_true, false_and, and_false, and_self, decide_true, decide_false, mm_bd_i, mm_bd_v, if_true, if_false, not_true_eq_false, not_false_eq_true, nI_1, Bool.true_eq_false, Bool.false_eq_true, bI_0, n_le0, n_0lt, n_lt0, n_0le, n_eq0, n_eqm, n_eq1, n_le1, n_1lt, n_1le, n_lt1, nn_le, nI_ltI, nI_eq, nI_clamp, nI_add, pk_mul, i_eq0, i_eqm, i_0le, i_le0, i_0lt, i_lt0, i_mle, i_ltm, ii_le, iI_lt, iI_eq, ni_le, ni_lt, ni_eq, in_le, in_lt, in_eq, ni_add, in_add, ni_sub, in_sub, ni_mul, in_mul, iI_add, iI_sub, iI_mul, i_p1, iI_neg, n_neg, e1, p0]
  | inr q =>
    obtain ⟨c', th'⟩ := q
    obtain ⟨b0, p0⟩ := e5 c' th' r
    subst b0
    refine ⟨F', I', -1, ?_, e2, e3, fun q hq => absurd hq (by simp), fun _ _ _ => rfl⟩
    simp (disch := first | assumption | exact bI_or _ | exact zOK_O hz (by decide) (by decide) rfl | exact zOK_T hz (by decide) (by decide) rfl | (refine ix (zOK_l hz (by decide) (by decide) rfl) ?_; omega) | decide | omega) only [eX11_fault_0, eX11_fault_1, eX11_fault_4, eX11_fault_7, eX11_fault_8, eX11_fault_11, eX11_fault_12, eX11_fault_15, Nat.reduceLT, Nat.reduceLeDiff, Nat.reduceEqDiff, Nat.reduceAdd, Nat.reduceMul, Int.reduceLE, Int.reduceLT, Int.reduceEq, not_false_iff, nlr, Nat.zero_add, Nat.add_zero, e10f, e01f, eq_self, true_and, and_true, false_and, and_false, and_self, decide_true, decide_false, mm_bd_i, mm_bd_v, if_true, if_false, not_true_eq_false, not_false_eq_true, nI_1, Bool.true_eq_false, Bool.false_eq_true, bI_0, n_le0, n_0lt, n_lt0, n_0le, n_eq0, n_eqm, n_eq1, n_le1, n_1lt, n_1le, n_lt1, nn_le, nI_ltI, nI_eq, nI_clamp, nI_add, pk_mul, i_eq0, i_eqm, i_0le, i_le0, i_0lt, i_lt0, i_mle, i_ltm, ii_le, iI_lt, iI_eq, ni_le, ni_lt, ni_eq, in_le, in_lt, in_eq, ni_add, in_add, ni_sub, in_sub, ni_mul, in_mul, iI_add, iI_sub, iI_mul, i_p1, iI_neg, n_neg, e1]
/-- the thing as the reference holds it -/
def rTg (c : Nat) (th : Nat → Nat × Nat × Nat × Nat) (F : Nat → Nat → Value) (I : Nat → Nat → Int32) : Prop := F 120 31 = .int (nI c) ∧ ∀ q, q < c → I 135 (4 * q) = nI (srt (th q).1) ∧ I 135 (4 * q + 1) = nI (th q).2.1 ∧ I 135 (4 * q + 2) = nI (th q).2.2.1 ∧ I 135 (4 * q + 3) = nI (th q).2.2.2
theorem rM_thing_not (d : Nat) (z : mm_Z) (F : Nat → Nat → Value) (I : Nat → Nat → Int32) (L : Nat → Nat → Int64) (k : Nat) (tx : Nat → Nat) (hz : zOK z) (hF : FixM F) (ok : okT k tx) (h : rTx k tx F I) (p : Nat) (hp : rdT k tx = .inl p) : ∃ F' I', mm_E (d + 5) mX11_thing 0 [.ref 120, uu] [] (z, F, I, L) = some (some (.int (-4)), (z, F', I', L)) ∧ frV F F' ∧ ∀ r, ¬ r = 134 → I' r = I r := by
  obtain ⟨F', I', b, e1, e2, e3, e4, e5⟩ := rT_read d z F I L k tx hz hF ok h
  obtain ⟨b0, p0⟩ := e4 p hp
  subst b0
  refine ⟨F', I', ?_, e2, e3⟩
  simp (disch := first | assumption | exact bI_or _ | exact zOK_O hz (by decide) (by decide) rfl | exact zOK_T hz (by decide) (by decide) rfl | (refine ix (zOK_l hz (by decide) (by decide) rfl) ?_; omega) | decide | omega) only [eX11_thing_0, eX11_thing_1, eX11_thing_4, eX11_thing_7, eX11_thing_9, eX11_thing_10, eX11_thing_11, eX11_thing_13, eX11_thing_15, eX11_thing_18, eX11_thing_19, eX11_thing_22, eX11_thing_23, eX11_thing_24, eX11_thing_27, eX11_thing_28, eX11_thing_29, eX11_thing_30, eX11_thing_33, eX11_thing_36, eX11_thing_37, eX11_thing_38, eX11_thing_41, eX11_thing_44, eX11_thing_45, eX11_thing_46, eX11_thing_49, eX11_thing_50, eX11_thing_53, Nat.reduceLT, Nat.reduceLeDiff, Nat.reduceEqDiff, Nat.reduceAdd, Nat.reduceMul, Int.reduceLE, Int.reduceLT, Int.reduceEq, not_false_iff, nlr, Nat.zero_add, Nat.add_zero, e10f, e01f, eq_self, true_and, and_true, false_and, and_false, and_self, decide_true, decide_false, mm_bd_i, mm_bd_v, if_true, if_false, not_true_eq_false, not_false_eq_true, nI_1, Bool.true_eq_false, Bool.false_eq_true, bI_0, n_le0, n_0lt, n_lt0, n_0le, n_eq0, n_eqm, n_eq1, n_le1, n_1lt, n_1le, n_lt1, nn_le, nI_ltI, nI_eq, nI_clamp, nI_add, pk_mul, i_eq0, i_eqm, i_0le, i_le0, i_0lt, i_lt0, i_mle, i_ltm, ii_le, iI_lt, iI_eq, ni_le, ni_lt, ni_eq, in_le, in_lt, in_eq, ni_add, in_add, ni_sub, in_sub, ni_mul, in_mul, iI_add, iI_sub, iI_mul, i_p1, iI_neg, n_neg, e1]
theorem rM_thing (d : Nat) (z : mm_Z) (F : Nat → Nat → Value) (I : Nat → Nat → Int32) (L : Nat → Nat → Int64) (k : Nat) (tx : Nat → Nat) (hz : zOK z) (hF : FixM F) (ok : okT k tx) (h : rTx k tx F I) (c' : Nat) (th' : Nat → Nat × Nat × Nat × Nat) (hc : c' ≤ 10) (hp : rdT k tx = .inr (c', th')) : ∃ F' I', mm_E (d + 5) mX11_thing 0 [.ref 120, uu] [] (z, F, I, L) = some (some (.int (nI c')), (z, F', I', L)) ∧ rTg c' th' F' I' ∧ rTx 0 tx F' I' ∧ FixM F' ∧ (∀ r j, ¬ (r = 120 ∧ (j = 21 ∨ j = 31 ∨ (23 ≤ j ∧ j ≤ 29))) → F' r j = F r j) ∧ ∀ r, ¬ r = 134 → ¬ r = 135 → I' r = I r := by
  obtain ⟨F1, I1, b, e1, e2, e3, e4, e5⟩ := rT_read d z F I L k tx hz hF ok h
  obtain ⟨b0, p0, w0⟩ := e5 c' th' hp
  subst b0
  have hF1 := FixM_frV hF e2
  have l : ∀ i, i ≤ 40 → ∀ I2 : Nat → Nat → Int32, I2 134 = I1 134 → (∀ j, j < i → I2 135 j = I1 134 j) → (∀ r, ¬ r = 135 → I2 r = I1 r) → ∃ I3, mm_E (d + 5) mX11_thing 12 [.ref 120, .int (nI i)] [] (z, F1, I2, L) = some (some (.int (nI c')), (z, mm_up2 (mm_up2 F1 120 31 (.int (nI c'))) 120 21 (.int 0), I3, L)) ∧ (∀ j, j < 40 → I3 135 j = I1 134 j) ∧ (∀ r, ¬ r = 135 → I3 r = I1 r) := by
    apply lp
    · intro I2 h1 h2 h3
      refine ⟨I2, ?_, h2, h3⟩
      rw [eX11_thing_12]
      simp (disch := first | assumption | exact bI_or _ | exact zOK_O hz (by decide) (by decide) rfl | exact zOK_T hz (by decide) (by decide) rfl | (refine ix (zOK_l hz (by decide) (by decide) rfl) ?_; omega) | decide | omega) only [eX11_thing_13, eX11_thing_15, eX11_thing_18, eX11_thing_19, eX11_thing_22, eX11_thing_23, eX11_thing_24, eX11_thing_27, eX11_thing_28, eX11_thing_29, eX11_thing_30, eX11_thing_33, eX11_thing_36, eX11_thing_37, eX11_thing_38, eX11_thing_41, eX11_thing_44, eX11_thing_45, eX11_thing_46, eX11_thing_49, eX11_thing_50, eX11_thing_53, Nat.reduceLT, Nat.reduceLeDiff, Nat.reduceEqDiff, Nat.reduceAdd, Nat.reduceMul, Int.reduceLE, Int.reduceLT, Int.reduceEq, not_false_iff, nlr, Nat.zero_add, Nat.add_zero, e10f, e01f, eq_self, true_and, and_true, false_and, and_false, and_self, decide_true, decide_false, mm_bd_i, mm_bd_v, if_true, if_false, not_true_eq_false, not_false_eq_true, nI_1, Bool.true_eq_false, Bool.false_eq_true, bI_0, n_le0, n_0lt, n_lt0, n_0le, n_eq0, n_eqm, n_eq1, n_le1, n_1lt, n_1le, n_lt1, nn_le, nI_ltI, nI_eq, nI_clamp, nI_add, pk_mul, i_eq0, i_eqm, i_0le, i_le0, i_0lt, i_lt0, i_mle, i_ltm, ii_le, iI_lt, iI_eq, ni_le, ni_lt, ni_eq, in_le, in_lt, in_eq, ni_add, in_add, ni_sub, in_sub, ni_mul, in_mul, iI_add, iI_sub, iI_mul, i_p1, iI_neg, n_neg, p0, up_s, up_k]
    · intro i hi ih I2 h1 h2 h3
      obtain ⟨I3, k1, k2, k3⟩ := ih (mm_up2 I2 135 i (I1 134 i)) (by rw [up_row _ _ _ (by decide)]; exact h1) (fun j hj => by
        by_cases e : j = i
        · subst e; rw [up_s]
        · rw [up_k _ _ _ _ e]; exact h2 j (by omega)) (fun r hr => by rw [up_row _ _ _ hr]; exact h3 r hr)
      refine ⟨I3, ?_, k2, k3⟩
      have g : I2 134 i = I1 134 i := by rw [h1]
      rw [← k1, eX11_thing_12]
      simp (disch := first | assumption | exact bI_or _ | exact zOK_O hz (by decide) (by decide) rfl | exact zOK_T hz (by decide) (by decide) rfl | (refine ix (zOK_l hz (by decide) (by decide) rfl) ?_; omega) | decide | omega) only [eX11_thing_13, eX11_thing_15, eX11_thing_18, eX11_thing_19, eX11_thing_22, eX11_thing_23, eX11_thing_24, eX11_thing_27, eX11_thing_28, eX11_thing_29, eX11_thing_30, eX11_thing_33, Nat.reduceLT, Nat.reduceLeDiff, Nat.reduceEqDiff, Nat.reduceAdd, Nat.reduceMul, Int.reduceLE, Int.reduceLT, Int.reduceEq, not_false_iff, nlr, Nat.zero_add, Nat.add_zero, e10f, e01f, eq_self, true_and, and_true, false_and, and_false, and_self, decide_true, decide_false, mm_bd_i, mm_bd_v, if_true, if_false, not_true_eq_false, not_false_eq_true, nI_1, Bool.true_eq_false, Bool.false_eq_true, bI_0, n_le0, n_0lt, n_lt0, n_0le, n_eq0, n_eqm, n_eq1, n_le1, n_1lt, n_1le, n_lt1, nn_le, nI_ltI, nI_eq, nI_clamp, nI_add, pk_mul, i_eq0, i_eqm, i_0le, i_le0, i_0lt, i_lt0, i_mle, i_ltm, ii_le, iI_lt, iI_eq, ni_le, ni_lt, ni_eq, in_le, in_lt, in_eq, ni_add, in_add, ni_sub, in_sub, ni_mul, in_mul, iI_add, iI_sub, iI_mul, i_p1, iI_neg, n_neg, hi, fM_30 hF1, fM_32 hF1, g]
  obtain ⟨I3, k1, k2, k3⟩ := l 0 (by omega) I1 rfl (fun j hj => absurd hj (by omega)) (fun _ _ => rfl)
  refine ⟨mm_up2 (mm_up2 F1 120 31 (.int (nI c'))) 120 21 (.int 0), I3, ?_, ⟨?_, fun q hq => ?_⟩, ⟨up_s _ _ _ _, fun i hi => absurd hi (by omega)⟩, FixM_up (FixM_up hF1 (by decide)) (by decide), fun r j hn => ?_, fun r r1 r2 => by rw [k3 r r2, e3 r r1]⟩
  rotate_left
  · rw [up_k _ _ _ _ (by decide), up_s]
  · have := w0 q hq
    unfold rdW at this
    rw [k2 _ (by omega), k2 _ (by omega), k2 _ (by omega), k2 _ (by omega)]
    exact this
  · unfold mm_up2
    rw [if_neg (by omega), if_neg (by omega)]
    exact e2 r j (by omega)
  rw [nI_0] at k1
  simp (disch := first | assumption | exact bI_or _ | exact zOK_O hz (by decide) (by decide) rfl | exact zOK_T hz (by decide) (by decide) rfl | (refine ix (zOK_l hz (by decide) (by decide) rfl) ?_; omega) | decide | omega) only [eX11_thing_0, eX11_thing_1, eX11_thing_4, eX11_thing_7, eX11_thing_9, eX11_thing_10, eX11_thing_11, Nat.reduceLT, Nat.reduceLeDiff, Nat.reduceEqDiff, Nat.reduceAdd, Nat.reduceMul, Int.reduceLE, Int.reduceLT, Int.reduceEq, not_false_iff, nlr, Nat.zero_add, Nat.add_zero, e10f, e01f, eq_self, true_and, and_true, false_and, and_false, and_self, decide_true, decide_false, mm_bd_i, mm_bd_v, if_true, if_false, not_true_eq_false, not_false_eq_true, nI_1, Bool.true_eq_false, Bool.false_eq_true, bI_0, n_le0, n_0lt, n_lt0, n_0le, n_eq0, n_eqm, n_eq1, n_le1, n_1lt, n_1le, n_lt1, nn_le, nI_ltI, nI_eq, nI_clamp, nI_add, pk_mul, i_eq0, i_eqm, i_0le, i_le0, i_0lt, i_lt0, i_mle, i_ltm, ii_le, iI_lt, iI_eq, ni_le, ni_lt, ni_eq, in_le, in_lt, in_eq, ni_add, in_add, ni_sub, in_sub, ni_mul, in_mul, iI_add, iI_sub, iI_mul, i_p1, iI_neg, n_neg, e1]
  rw [k1]
