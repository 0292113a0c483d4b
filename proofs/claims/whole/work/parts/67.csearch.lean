/-! joins: the class's search for the best set -/
theorem cJ_copy (d : Nat) (z : mm_Z) (F : Nat → Nat → Value) (I : Nat → Nat → Int32) (L : Nat → Nat → Int64) (m : Nat) (ja jb : Nat → Nat) (jv : Nat → Int) (jw : Nat → Nat) (hz : zOK z) (h : cJ0 m ja jb jv jw F I) (j : Nat) (hj : j + 1 < 13) (g : Nat → Nat) (x : Nat → Int32) (hr : jrow I (j + 1) g x) : ∃ I', mm_E d mX2_copyDown 0 [.ref 80, .int (nI (j + 1))] [] (z, F, I, L) = some (none, (z, F, I', L)) ∧ jrow I' j g x ∧ ∀ r, ¬ r = 86 + j → ¬ r = 100 + j → I' r = I r := by
  obtain ⟨⟨h0, h1, h2, h3, h4, h5⟩, h6, h7, h8⟩ := h
  have f := h6 j (by omega)
  have f' := h6 (j + 1) (by omega)
  have fq1 : mm_rv (F 85 (nI j).toNatClampNeg) = true := by rw [nI_clamp (by omega), f.1]; rfl
  have fq2 : mm_rv (F 99 (nI j).toNatClampNeg) = true := by rw [nI_clamp (by omega), f.2]; rfl
  have fq3 : mm_rv (F 85 (nI (j + 1)).toNatClampNeg) = true := by rw [nI_clamp (by omega), f'.1]; rfl
  have fq4 : mm_rv (F 99 (nI (j + 1)).toNatClampNeg) = true := by rw [nI_clamp (by omega), f'.2]; rfl
  have c0 : (0 : Int32).toNatClampNeg = 0 := rfl
  have c8 : (nI 8).toNatClampNeg = 8 := rfl
  have z1 := zJal hz (s := j) (by omega)
  have z2 := zJal hz (s := j + 1) (by omega)
  have z3 := zJbl hz (s := j) (by omega)
  have z4 := zJbl hz (s := j + 1) (by omega)
  have x1 : ((0 : Int32) ≤ 0 ∧ (0 : Int32) ≤ 0 ∧ 0 ≤ nI 8) ∧ (0 : Int32).toNatClampNeg + (nI 8).toNatClampNeg ≤ mm_zl z (86 + (j + 1)) ∧ (0 : Int32).toNatClampNeg + (nI 8).toNatClampNeg ≤ mm_zl z (86 + j) := by rw [z1, z2]; decide
  have x2 : ((0 : Int32) ≤ 0 ∧ (0 : Int32) ≤ 0 ∧ 0 ≤ nI 8) ∧ (0 : Int32).toNatClampNeg + (nI 8).toNatClampNeg ≤ mm_zl z (100 + (j + 1)) ∧ (0 : Int32).toNatClampNeg + (nI 8).toNatClampNeg ≤ mm_zl z (100 + j) := by rw [z3, z4]; decide
  refine ⟨va_up (va_up I (86 + j) (va_cpy (I (86 + (j + 1))) (I (86 + j)) 0 0 8)) (100 + j) (va_cpy (va_up I (86 + j) (va_cpy (I (86 + (j + 1))) (I (86 + j)) 0 0 8) (100 + (j + 1))) (va_up I (86 + j) (va_cpy (I (86 + (j + 1))) (I (86 + j)) 0 0 8) (100 + j)) 0 0 8), ?_, ?_, ?_⟩
  · simp (disch := first | assumption | exact zJa hz (by omega) | exact zJb hz (by omega) | exact ix (zJal hz (by omega)) (by omega) | exact ix (zJbl hz (by omega)) (by omega) | exact bI_or _ | exact zOK_O hz (by decide) (by decide) rfl | exact zOK_T hz (by decide) (by decide) rfl | (refine ix (zOK_l hz (by decide) (by decide) rfl) ?_; omega) | decide | omega) only [eX2_copyDown_0, eX2_copyDown_1, eX2_copyDown_4, eX2_copyDown_5, eX2_copyDown_6, eX2_copyDown_7, eX2_copyDown_8, eX2_copyDown_11, eX2_copyDown_12, eX2_copyDown_13, eX2_copyDown_14, eX2_copyDown_15, eX2_copyDown_16, eX2_copyDown_18, eX2_copyDown_21, eX2_copyDown_22, eX2_copyDown_25, eX2_copyDown_26, eX2_copyDown_27, eX2_copyDown_28, eX2_copyDown_29, eX2_copyDown_32, eX2_copyDown_33, eX2_copyDown_34, eX2_copyDown_35, eX2_copyDown_36, eX2_copyDown_37, eX2_copyDown_39, eX2_copyDown_42, mm_bd_v, nI_clamp, nI_pred, h4, h5, f.1, f.2, f'.1, f'.2, c0, c8]
  · intro s hs
    have q := hr s hs
    unfold va_up va_cpy
    have e1 : ¬ 86 + j = 100 + j := by omega
    have e2 : ¬ 100 + (j + 1) = 86 + j := by omega
    simp only [e1, e2, if_true, if_false, Nat.zero_le, true_and, Nat.zero_add, hs, Nat.sub_zero]
    exact q
  · intro r r1 r2
    unfold va_up
    rw [if_neg r2, if_neg r1]
def bts (S : Nat) : Nat → Bool := fun j => S.testBit j
theorem bts_wth {S j : Nat} (hS : S % 2 ^ (j + 1) = 0) : wth (bts S) j = bts (S + 2 ^ j) := by
  funext i
  unfold wth bts
  rw [tb_add hS (Nat.pow_lt_pow_right (by decide) (by omega)) i, Nat.testBit_two_pow]
  by_cases c : i < j + 1
  · rw [if_pos c, tb_low hS c, Bool.false_or]
    exact decide_eq_decide.mpr ⟨fun q => q.symm, fun q => q.symm⟩
  · rw [if_neg c, decide_eq_false (by omega), Bool.or_false]
/-- what a search over all sets S + E, E below 2^lv, does to the best so far -/
def spost (m : Nat) (ja jb : Nat → Nat) (jv : Nat → Int) (jw : Nat → Nat) (lv S b bw b' bw' : Nat) : Prop := ((∀ E, E < 2 ^ lv → agr m ja jb jv (bts (S + E)) → wtS m jw (S + E) < bw) ∧ b' = b ∧ bw' = bw) ∨ ∃ E, E < 2 ^ lv ∧ agr m ja jb jv (bts (S + E)) ∧ bw ≤ wtS m jw (S + E) ∧ b' = S + E ∧ bw' = wtS m jw (S + E) ∧ ∀ Y, Y < 2 ^ lv → agr m ja jb jv (bts (S + Y)) → wtS m jw (S + Y) < wtS m jw (S + E) ∨ (wtS m jw (S + Y) = wtS m jw (S + E) ∧ E ≤ Y)
theorem spost_join (m : Nat) (ja jb : Nat → Nat) (jv : Nat → Int) (jw : Nat → Nat) (j S b bw b1 bw1 b2 bw2 : Nat) (h1 : spost m ja jb jv jw j (S + 2 ^ j) b bw b1 bw1) (h2 : spost m ja jb jv jw j S b1 bw1 b2 bw2) : spost m ja jb jv jw (j + 1) S b bw b2 bw2 := by
  have e2 : 2 ^ (j + 1) = 2 ^ j + 2 ^ j := by rw [Nat.pow_succ]; omega
  have sp : ∀ E, E < 2 ^ (j + 1) → E < 2 ^ j ∨ ∃ E', E' < 2 ^ j ∧ E = 2 ^ j + E' := by
    intro E hE
    by_cases c : E < 2 ^ j
    · exact Or.inl c
    · exact Or.inr ⟨E - 2 ^ j, by omega, by omega⟩
  have as : ∀ E', S + 2 ^ j + E' = S + (2 ^ j + E') := fun E' => Nat.add_assoc _ _ _
  rcases h1 with ⟨a1, a2, a3⟩ | ⟨E, a1, a2, a3, a4, a5, a6⟩
  · subst a2; subst a3
    rcases h2 with ⟨c1, c2, c3⟩ | ⟨E, c1, c2, c3, c4, c5, c6⟩
    · left
      refine ⟨fun E hE g => ?_, c2, c3⟩
      rcases sp E hE with q | ⟨E', q1, q2⟩
      · exact c1 E q g
      · subst q2; rw [← as] at g ⊢; exact a1 E' q1 g
    · right
      refine ⟨E, by omega, c2, c3, c4, c5, fun Y hY g => ?_⟩
      rcases sp Y hY with q | ⟨E', q1, q2⟩
      · exact c6 Y q g
      · subst q2; rw [← as] at g ⊢; have := a1 E' q1 g; omega
  · rw [as] at a2 a3 a4 a5
    rcases h2 with ⟨c1, c2, c3⟩ | ⟨E2, c1, c2, c3, c4, c5, c6⟩
    · right
      refine ⟨2 ^ j + E, by omega, a2, a3, by rw [c2, a4], by rw [c3, a5], fun Y hY g => ?_⟩
      rcases sp Y hY with q | ⟨E', q1, q2⟩
      · have := c1 Y q g; omega
      · subst q2; rw [← as] at g; have := a6 E' q1 g; rw [as, as] at this; omega
    · right
      refine ⟨E2, by omega, c2, by omega, c4, c5, fun Y hY g => ?_⟩
      rcases sp Y hY with q | ⟨E', q1, q2⟩
      · exact c6 Y q g
      · subst q2; rw [← as] at g; have := a6 E' q1 g; rw [as, as] at this; omega
theorem spost_no (m : Nat) (ja jb : Nat → Nat) (jv : Nat → Int) (jw : Nat → Nat) (j S b bw : Nat) (hS : S % 2 ^ (j + 1) = 0) (h : ¬ agr m ja jb jv (bts (S + 2 ^ j))) : spost m ja jb jv jw j (S + 2 ^ j) b bw b bw := by
  refine Or.inl ⟨fun E hE g => absurd ?_ h, rfl, rfl⟩
  obtain ⟨p, hp⟩ := g
  refine ⟨p, sol_mono m ja jb jv (fun i hi hs => ?_) hp⟩
  unfold bts at hs ⊢
  rw [tb_add (mod_dn hS).2 hE i]
  by_cases c : i < j
  · rw [tb_low (mod_dn hS).2 c] at hs; exact absurd hs (by simp)
  · rw [if_neg c]; exact hs
theorem cJ_search (m : Nat) (ja jb : Nat → Nat) (jv : Nat → Int) (jw : Nat → Nat) (ok : okJ m ja jb jv jw) (z : mm_Z) (L : Nat → Nat → Int64) (hz : zOK z) : ∀ lv, lv ≤ m → ∀ (d : Nat) (F : Nat → Nat → Value) (I : Nat → Nat → Int32) (S b bw : Nat) (g : Nat → Nat) (x : Nat → Int32), cJ0 m ja jb jv jw F I → S % 2 ^ lv = 0 → UF m ja jb jv (bts S) g x → jrow I lv g x → F 80 7 = .int (nI b) → F 80 8 = .int (nI bw) → bw ≤ 600 → ∃ F' I' b' bw', mm_E (d + lv + 1) mX2_search 0 [.ref 80, .int (nI lv), .int (nI S), .int (nI (wtS m jw S)), .int (nI (sumT jw lv)), uu, uu] [] (z, F, I, L) = some (none, (z, F', I', L)) ∧ cJ0 m ja jb jv jw F' I' ∧ F' 80 7 = .int (nI b') ∧ F' 80 8 = .int (nI bw') ∧ bw' ≤ 600 ∧ spost m ja jb jv jw lv S b bw b' bw' ∧ (∀ r k, ¬ (r = 80 ∧ (k = 7 ∨ k = 8)) → F' r k = F r k) ∧ ∀ r, ¬ (86 ≤ r ∧ r < 86 + lv) → ¬ (100 ≤ r ∧ r < 100 + lv) → I' r = I r := by
  have om := ok.1
  have w6 : ∀ S, wtS m jw S ≤ 600 := fun S => wt_le600 jw om (fun j hj => by have := ok.2 j hj; omega)
  have s6 : ∀ k, k ≤ m → sumT jw k ≤ 600 := by
    intro k hk
    have h1 : sumT jw k ≤ sumT (fun _ => 50) k := sumT_mono k (fun j hj => by have := ok.2 j (by omega); omega)
    have h2 := sumT_le (fun _ => 50) 50 (fun _ => Nat.le_refl _) k
    omega
  intro lv
  induction lv with
  | zero =>
    intro _ d F I S b bw g x h hS hu hr hb hbw hbw6
    have w := w6 S
    by_cases c : wtS m jw S < bw
    · refine ⟨F, I, b, bw, ?_, h, hb, hbw, hbw6, Or.inl ⟨fun E hE _ => ?_, rfl, rfl⟩, fun _ _ _ => rfl, fun _ _ _ => rfl⟩
      · have s0 : sumT jw 0 = 0 := rfl
        simp (disch := first | assumption | exact zJa hz (by omega) | exact zJb hz (by omega) | exact ix (zJal hz (by omega)) (by omega) | exact ix (zJbl hz (by omega)) (by omega) | exact bI_or _ | exact zOK_O hz (by decide) (by decide) rfl | exact zOK_T hz (by decide) (by decide) rfl | (refine ix (zOK_l hz (by decide) (by decide) rfl) ?_; omega) | decide | omega) only [eX2_search_0, eX2_search_1, eX2_search_3, eX2_search_6, eX2_search_7, eX2_search_9, eX2_search_10, eX2_search_11, eX2_search_14, eX2_search_17, eX2_search_18, eX2_search_19, eX2_search_22, eX2_search_23, eX2_search_24, eX2_search_27, eX2_search_28, eX2_search_29, eX2_search_32, eX2_search_33, eX2_search_34, eX2_search_35, eX2_search_36, eX2_search_38, eX2_search_40, eX2_search_41, eX2_search_44, eX2_search_46, eX2_search_47, eX2_search_48, eX2_search_50, eX2_search_51, eX2_search_52, eX2_search_55, eX2_search_56, eX2_search_58, eX2_search_60, eX2_search_63, eX2_search_66, eX2_search_67, eX2_search_69, eX2_search_70, eX2_search_71, eX2_search_73, eX2_search_74, eX2_search_75, eX2_search_76, eX2_search_77, eX2_search_80, eX2_search_82, eX2_search_83, eX2_search_84, eX2_search_86, eX2_search_89, eX2_search_90, eX2_search_91, eX2_search_94, eX2_search_95, eX2_search_97, eX2_search_98, eX2_search_99, eX2_search_101, eX2_search_104, Nat.reduceLT, Nat.reduceLeDiff, Nat.reduceEqDiff, Nat.reduceAdd, Nat.reduceMul, Int.reduceLE, Int.reduceLT, Int.reduceEq, not_false_iff, nlr, Nat.zero_add, Nat.add_zero, e10f, e01f, eq_self, true_and, and_true, false_and, and_false, and_self, decide_true, decide_false, mm_bd_i, mm_bd_v, if_true, if_false, not_true_eq_false, not_false_eq_true, nI_1, Bool.true_eq_false, Bool.false_eq_true, bI_0, n_le0, n_0lt, n_lt0, n_0le, n_eq0, n_eqm, n_eq1, n_le1, n_1lt, n_1le, n_lt1, nn_le, nI_ltI, nI_eq, nI_clamp, nI_add, pk_mul, i_eq0, i_eqm, i_0le, i_le0, i_0lt, i_lt0, i_mle, i_ltm, ii_le, iI_lt, iI_eq, ni_le, ni_lt, ni_eq, in_le, in_lt, in_eq, ni_add, in_add, ni_sub, in_sub, ni_mul, in_mul, iI_add, iI_sub, iI_mul, i_p1, iI_neg, n_neg, hbw, c, s0]
      · have : E = 0 := by simpa using hE
        subst this; exact c
    · refine ⟨mm_up2 (mm_up2 F 80 7 (.int (nI S))) 80 8 (.int (nI (wtS m jw S))), I, S, wtS m jw S, ?_, ?_, ?_, up_s _ _ _ _, w, Or.inr ⟨0, by decide, UF_agr m ja jb jv hu, by rw [Nat.add_zero]; omega, rfl, rfl, fun Y hY _ => ?_⟩, ?_, fun _ _ _ => rfl⟩
      · have s0 : sumT jw 0 = 0 := rfl
        simp (disch := first | assumption | exact zJa hz (by omega) | exact zJb hz (by omega) | exact ix (zJal hz (by omega)) (by omega) | exact ix (zJbl hz (by omega)) (by omega) | exact bI_or _ | exact zOK_O hz (by decide) (by decide) rfl | exact zOK_T hz (by decide) (by decide) rfl | (refine ix (zOK_l hz (by decide) (by decide) rfl) ?_; omega) | decide | omega) only [eX2_search_0, eX2_search_1, eX2_search_3, eX2_search_6, eX2_search_7, eX2_search_9, eX2_search_10, eX2_search_11, eX2_search_14, eX2_search_17, eX2_search_18, eX2_search_19, eX2_search_22, eX2_search_23, eX2_search_24, eX2_search_27, eX2_search_28, eX2_search_29, eX2_search_32, eX2_search_33, eX2_search_34, eX2_search_35, eX2_search_36, eX2_search_38, eX2_search_40, eX2_search_41, eX2_search_44, eX2_search_46, eX2_search_47, eX2_search_48, eX2_search_50, eX2_search_51, eX2_search_52, eX2_search_55, eX2_search_56, eX2_search_58, eX2_search_60, eX2_search_63, eX2_search_66, eX2_search_67, eX2_search_69, eX2_search_70, eX2_search_71, eX2_search_73, eX2_search_74, eX2_search_75, eX2_search_76, eX2_search_77, eX2_search_80, eX2_search_82, eX2_search_83, eX2_search_84, eX2_search_86, eX2_search_89, eX2_search_90, eX2_search_91, eX2_search_94, eX2_search_95, eX2_search_97, eX2_search_98, eX2_search_99, eX2_search_101, eX2_search_104, Nat.reduceLT, Nat.reduceLeDiff, Nat.reduceEqDiff, Nat.reduceAdd, Nat.reduceMul, Int.reduceLE, Int.reduceLT, Int.reduceEq, not_false_iff, nlr, Nat.zero_add, Nat.add_zero, e10f, e01f, eq_self, true_and, and_true, false_and, and_false, and_self, decide_true, decide_false, mm_bd_i, mm_bd_v, if_true, if_false, not_true_eq_false, not_false_eq_true, nI_1, Bool.true_eq_false, Bool.false_eq_true, bI_0, n_le0, n_0lt, n_lt0, n_0le, n_eq0, n_eqm, n_eq1, n_le1, n_1lt, n_1le, n_lt1, nn_le, nI_ltI, nI_eq, nI_clamp, nI_add, pk_mul, i_eq0, i_eqm, i_0le, i_le0, i_0lt, i_lt0, i_mle, i_ltm, ii_le, iI_lt, iI_eq, ni_le, ni_lt, ni_eq, in_le, in_lt, in_eq, ni_add, in_add, ni_sub, in_sub, ni_mul, in_mul, iI_add, iI_sub, iI_mul, i_p1, iI_neg, n_neg, hbw, c, s0]
      · unfold cJ0 at *
        simpa [mm_up2] using h
      · rw [up_k _ _ _ _ (by decide), up_s]
      · have : Y = 0 := by simpa using hY
        subst this; right; exact ⟨rfl, Nat.le_refl _⟩
      · intro r k hn
        unfold mm_up2
        rw [if_neg (by omega), if_neg (by omega)]
  | succ j ih =>
    intro hj d F I S b bw g x h hS hu hr hb hbw hbw6
    have w := w6 S
    have sj := s6 (j + 1) hj
    have oj := ok.2 j hj
    have hwj : sumT jw (j + 1) = sumT jw j + jw j := rfl
    have e12 : ¬ 12 < j + 1 := by omega
    by_cases c : wtS m jw S + sumT jw (j + 1) < bw
    · refine ⟨F, I, b, bw, ?_, h, hb, hbw, hbw6, Or.inl ⟨fun E hE _ => ?_, rfl, rfl⟩, fun _ _ _ => rfl, fun _ _ _ => rfl⟩
      · simp (disch := first | assumption | exact zJa hz (by omega) | exact zJb hz (by omega) | exact ix (zJal hz (by omega)) (by omega) | exact ix (zJbl hz (by omega)) (by omega) | exact bI_or _ | exact zOK_O hz (by decide) (by decide) rfl | exact zOK_T hz (by decide) (by decide) rfl | (refine ix (zOK_l hz (by decide) (by decide) rfl) ?_; omega) | decide | omega) only [eX2_search_0, eX2_search_1, eX2_search_3, eX2_search_6, eX2_search_7, eX2_search_9, eX2_search_10, eX2_search_11, eX2_search_14, eX2_search_17, eX2_search_18, eX2_search_19, eX2_search_22, eX2_search_23, eX2_search_24, eX2_search_27, eX2_search_28, eX2_search_29, eX2_search_32, eX2_search_33, eX2_search_34, eX2_search_35, eX2_search_36, eX2_search_38, eX2_search_40, eX2_search_41, eX2_search_44, eX2_search_46, eX2_search_47, eX2_search_48, eX2_search_50, eX2_search_51, eX2_search_52, eX2_search_55, eX2_search_56, eX2_search_58, eX2_search_60, eX2_search_63, eX2_search_66, eX2_search_67, eX2_search_69, eX2_search_70, eX2_search_71, eX2_search_73, eX2_search_74, eX2_search_75, eX2_search_76, eX2_search_77, eX2_search_80, eX2_search_82, eX2_search_83, eX2_search_84, eX2_search_86, eX2_search_89, eX2_search_90, eX2_search_91, eX2_search_94, eX2_search_95, eX2_search_97, eX2_search_98, eX2_search_99, eX2_search_101, eX2_search_104, Nat.reduceLT, Nat.reduceLeDiff, Nat.reduceEqDiff, Nat.reduceAdd, Nat.reduceMul, Int.reduceLE, Int.reduceLT, Int.reduceEq, not_false_iff, nlr, Nat.zero_add, Nat.add_zero, e10f, e01f, eq_self, true_and, and_true, false_and, and_false, and_self, decide_true, decide_false, mm_bd_i, mm_bd_v, if_true, if_false, not_true_eq_false, not_false_eq_true, nI_1, Bool.true_eq_false, Bool.false_eq_true, bI_0, n_le0, n_0lt, n_lt0, n_0le, n_eq0, n_eqm, n_eq1, n_le1, n_1lt, n_1le, n_lt1, nn_le, nI_ltI, nI_eq, nI_clamp, nI_add, pk_mul, i_eq0, i_eqm, i_0le, i_le0, i_0lt, i_lt0, i_mle, i_ltm, ii_le, iI_lt, iI_eq, ni_le, ni_lt, ni_eq, in_le, in_lt, in_eq, ni_add, in_add, ni_sub, in_sub, ni_mul, in_mul, iI_add, iI_sub, iI_mul, i_p1, iI_neg, n_neg, hbw, c, e12]
      · have := wt_le jw hj hS hE
        omega
    · obtain ⟨I1, k1, k2, k3⟩ := cJ_copy (d + (j + 1)) z F I L m ja jb jv jw hz h j (by omega) g x hr
      have h1 : cJ0 m ja jb jv jw F I1 := cJ0_I m ja jb jv jw h (k3 _ (by omega) (by omega)) (k3 _ (by omega) (by omega)) (k3 _ (by omega) (by omega)) (k3 _ (by omega) (by omega))
      obtain ⟨I2, t, t1, t2, t3, t4⟩ := cJ_tie (d + (j + 1)) z F I1 L m ja jb jv jw hz ok h1 j j hj (by omega) (bts S) g x hu k2
      have h2 : cJ0 m ja jb jv jw F I2 := cJ0_I m ja jb jv jw h1 (t4 _ (by omega) (by omega)) (t4 _ (by omega) (by omega)) (t4 _ (by omega) (by omega)) (t4 _ (by omega) (by omega))
      rw [bts_wth hS] at t2 t3
      have md := mod_dn hS
      have sub1 : nI (sumT jw (j + 1)) - nI (jw j) = nI (sumT jw j) := by rw [pk_sub (by omega)]; congr 1; omega
      have q84 := ((h.2.2.2) j hj).2.2.2
      have w1 := w6 (S + 2 ^ j)
      -- the way behind the first search
      have tail : ∀ (F3 : Nat → Nat → Value) (I3 : Nat → Nat → Int32) (b1 bw1 : Nat), cJ0 m ja jb jv jw F3 I3 → jrow I3 (j + 1) g x → F3 80 7 = .int (nI b1) → F3 80 8 = .int (nI bw1) → bw1 ≤ 600 → ∃ F' I' b' bw', mm_E (d + (j + 1) + 1) mX2_search 89 [.ref 80, .int (nI (j + 1)), .int (nI S), .int (nI (wtS m jw S)), .int (nI (sumT jw (j + 1))), .int (nI j), .int (nI (sumT jw j))] [] (z, F3, I3, L) = some (none, (z, F', I', L)) ∧ cJ0 m ja jb jv jw F' I' ∧ F' 80 7 = .int (nI b') ∧ F' 80 8 = .int (nI bw') ∧ bw' ≤ 600 ∧ spost m ja jb jv jw j S b1 bw1 b' bw' ∧ (∀ r k, ¬ (r = 80 ∧ (k = 7 ∨ k = 8)) → F' r k = F3 r k) ∧ ∀ r, ¬ (86 ≤ r ∧ r < 86 + (j + 1)) → ¬ (100 ≤ r ∧ r < 100 + (j + 1)) → I' r = I3 r := by
        intro F3 I3 b1 bw1 a1 a2 a3 a4 a5
        obtain ⟨I4, m1, m2, m3⟩ := cJ_copy (d + (j + 1)) z F3 I3 L m ja jb jv jw hz a1 j (by omega) g x a2
        have h4 : cJ0 m ja jb jv jw F3 I4 := cJ0_I m ja jb jv jw a1 (m3 _ (by omega) (by omega)) (m3 _ (by omega) (by omega)) (m3 _ (by omega) (by omega)) (m3 _ (by omega) (by omega))
        obtain ⟨F5, I5, b5, bw5, n1, n2, n3, n4, n5, n6, n7, n8⟩ := ih (by omega) d F3 I4 S b1 bw1 g x h4 md.1 hu m2 a3 a4 a5
        refine ⟨F5, I5, b5, bw5, ?_, n2, n3, n4, n5, n6, n7, ?_⟩
        · have n1' : mm_E (d + (j + 1)) mX2_search 0 [.ref 80, .int (nI j), .int (nI S), .int (nI (wtS m jw S)), .int (nI (sumT jw j)), uu, uu] [] (z, F3, I4, L) = some (none, (z, F5, I5, L)) := n1
          simp (disch := first | assumption | exact zJa hz (by omega) | exact zJb hz (by omega) | exact ix (zJal hz (by omega)) (by omega) | exact ix (zJbl hz (by omega)) (by omega) | exact bI_or _ | exact zOK_O hz (by decide) (by decide) rfl | exact zOK_T hz (by decide) (by decide) rfl | (refine ix (zOK_l hz (by decide) (by decide) rfl) ?_; omega) | decide | omega) only [eX2_search_0, eX2_search_1, eX2_search_3, eX2_search_6, eX2_search_7, eX2_search_9, eX2_search_10, eX2_search_11, eX2_search_14, eX2_search_17, eX2_search_18, eX2_search_19, eX2_search_22, eX2_search_23, eX2_search_24, eX2_search_27, eX2_search_28, eX2_search_29, eX2_search_32, eX2_search_33, eX2_search_34, eX2_search_35, eX2_search_36, eX2_search_38, eX2_search_40, eX2_search_41, eX2_search_44, eX2_search_46, eX2_search_47, eX2_search_48, eX2_search_50, eX2_search_51, eX2_search_52, eX2_search_55, eX2_search_56, eX2_search_58, eX2_search_60, eX2_search_63, eX2_search_66, eX2_search_67, eX2_search_69, eX2_search_70, eX2_search_71, eX2_search_73, eX2_search_74, eX2_search_75, eX2_search_76, eX2_search_77, eX2_search_80, eX2_search_82, eX2_search_83, eX2_search_84, eX2_search_86, eX2_search_89, eX2_search_90, eX2_search_91, eX2_search_94, eX2_search_95, eX2_search_97, eX2_search_98, eX2_search_99, eX2_search_101, eX2_search_104, Nat.reduceLT, Nat.reduceLeDiff, Nat.reduceEqDiff, Nat.reduceAdd, Nat.reduceMul, Int.reduceLE, Int.reduceLT, Int.reduceEq, not_false_iff, nlr, Nat.zero_add, Nat.add_zero, e10f, e01f, eq_self, true_and, and_true, false_and, and_false, and_self, decide_true, decide_false, mm_bd_i, mm_bd_v, if_true, if_false, not_true_eq_false, not_false_eq_true, nI_1, Bool.true_eq_false, Bool.false_eq_true, bI_0, n_le0, n_0lt, n_lt0, n_0le, n_eq0, n_eqm, n_eq1, n_le1, n_1lt, n_1le, n_lt1, nn_le, nI_ltI, nI_eq, nI_clamp, nI_add, pk_mul, i_eq0, i_eqm, i_0le, i_le0, i_0lt, i_lt0, i_mle, i_ltm, ii_le, iI_lt, iI_eq, ni_le, ni_lt, ni_eq, in_le, in_lt, in_eq, ni_add, in_add, ni_sub, in_sub, ni_mul, in_mul, iI_add, iI_sub, iI_mul, i_p1, iI_neg, n_neg, m1, n1']
        · intro r r1 r2
          rw [n8 r (by omega) (by omega), m3 r (by omega) (by omega)]
      cases t with
      | true =>
        obtain ⟨g', x', u1, u2⟩ := t2 rfl
        obtain ⟨F3, I3, b3, bw3, n1, n2, n3, n4, n5, n6, n7, n8⟩ := ih (by omega) d F I2 (S + 2 ^ j) b bw g' x' h2 md.2 u1 u2 hb hbw hbw6
        obtain ⟨F', I', b', bw', p1, p2, p3, p4, p5, p6, p7, p8⟩ := tail F3 I3 b3 bw3 n2 (by
          intro s hs
          rw [n8 _ (by omega) (by omega), n8 _ (by omega) (by omega), t4 _ (by omega) (by omega), t4 _ (by omega) (by omega), k3 _ (by omega) (by omega), k3 _ (by omega) (by omega)]
          exact hr s hs) n3 n4 n5
        refine ⟨F', I', b', bw', ?_, p2, p3, p4, p5, spost_join m ja jb jv jw j S b bw b3 bw3 b' bw' n6 p6, ?_, ?_⟩
        · rw [wt_bit jw hj hS] at n1
          have n1' : mm_E (d + (j + 1)) mX2_search 0 [.ref 80, .int (nI j), .int (nI (S + 2 ^ j)), .int (nI (wtS m jw S + jw j)), .int (nI (sumT jw j)), uu, uu] [] (z, F, I2, L) = some (none, (z, F3, I3, L)) := n1
          have q84' : I2 84 j = nI (jw j) := by rw [t4 _ (by omega) (by omega), k3 _ (by omega) (by omega)]; exact q84
          have q3 := h.1.2.2.2.1
          rw [← p1]
          simp (disch := first | assumption | exact zJa hz (by omega) | exact zJb hz (by omega) | exact ix (zJal hz (by omega)) (by omega) | exact ix (zJbl hz (by omega)) (by omega) | exact bI_or _ | exact zOK_O hz (by decide) (by decide) rfl | exact zOK_T hz (by decide) (by decide) rfl | (refine ix (zOK_l hz (by decide) (by decide) rfl) ?_; omega) | decide | omega) only [eX2_search_0, eX2_search_1, eX2_search_3, eX2_search_6, eX2_search_7, eX2_search_9, eX2_search_10, eX2_search_11, eX2_search_14, eX2_search_17, eX2_search_18, eX2_search_19, eX2_search_22, eX2_search_23, eX2_search_24, eX2_search_27, eX2_search_28, eX2_search_29, eX2_search_32, eX2_search_33, eX2_search_34, eX2_search_35, eX2_search_36, eX2_search_38, eX2_search_40, eX2_search_41, eX2_search_44, eX2_search_46, eX2_search_47, eX2_search_48, eX2_search_50, eX2_search_51, eX2_search_52, eX2_search_55, eX2_search_56, eX2_search_58, eX2_search_60, eX2_search_63, eX2_search_66, eX2_search_67, eX2_search_69, eX2_search_70, eX2_search_71, eX2_search_73, eX2_search_74, eX2_search_75, eX2_search_76, eX2_search_77, eX2_search_80, eX2_search_82, eX2_search_83, eX2_search_84, eX2_search_86, hbw, c, e12, Nat.reduceLT, Nat.reduceLeDiff, Nat.reduceEqDiff, Nat.reduceAdd, Nat.reduceMul, Int.reduceLE, Int.reduceLT, Int.reduceEq, not_false_iff, nlr, Nat.zero_add, Nat.add_zero, e10f, e01f, eq_self, true_and, and_true, false_and, and_false, and_self, decide_true, decide_false, mm_bd_i, mm_bd_v, if_true, if_false, not_true_eq_false, not_false_eq_true, nI_1, Bool.true_eq_false, Bool.false_eq_true, bI_0, n_le0, n_0lt, n_lt0, n_0le, n_eq0, n_eqm, n_eq1, n_le1, n_1lt, n_1le, n_lt1, nn_le, nI_ltI, nI_eq, nI_clamp, nI_add, pk_mul, i_eq0, i_eqm, i_0le, i_le0, i_0lt, i_lt0, i_mle, i_ltm, ii_le, iI_lt, iI_eq, ni_le, ni_lt, ni_eq, in_le, in_lt, in_eq, ni_add, in_add, ni_sub, in_sub, ni_mul, in_mul, iI_add, iI_sub, iI_mul, i_p1, iI_neg, n_neg, nI_pred, q3, q84, q84', sub1, k1, t1, n_shl1, n_or, n_orp hS, n1']
        · intro r k hn
          rw [p7 r k hn, n7 r k hn]
        · intro r r1 r2
          rw [p8 r r1 r2, n8 r (by omega) (by omega), t4 r (by omega) (by omega), k3 r (by omega) (by omega)]
      | false =>
        obtain ⟨F', I', b', bw', p1, p2, p3, p4, p5, p6, p7, p8⟩ := tail F I2 b bw h2 (by
          intro s hs
          rw [t4 _ (by omega) (by omega), t4 _ (by omega) (by omega), k3 _ (by omega) (by omega), k3 _ (by omega) (by omega)]
          exact hr s hs) hb hbw hbw6
        refine ⟨F', I', b', bw', ?_, p2, p3, p4, p5, spost_join m ja jb jv jw j S b bw b bw b' bw' (spost_no m ja jb jv jw j S b bw hS (t3 rfl)) p6, p7, ?_⟩
        · have q3 := h.1.2.2.2.1
          rw [← p1]
          simp (disch := first | assumption | exact zJa hz (by omega) | exact zJb hz (by omega) | exact ix (zJal hz (by omega)) (by omega) | exact ix (zJbl hz (by omega)) (by omega) | exact bI_or _ | exact zOK_O hz (by decide) (by decide) rfl | exact zOK_T hz (by decide) (by decide) rfl | (refine ix (zOK_l hz (by decide) (by decide) rfl) ?_; omega) | decide | omega) only [eX2_search_0, eX2_search_1, eX2_search_3, eX2_search_6, eX2_search_7, eX2_search_9, eX2_search_10, eX2_search_11, eX2_search_14, eX2_search_17, eX2_search_18, eX2_search_19, eX2_search_22, eX2_search_23, eX2_search_24, eX2_search_27, eX2_search_28, eX2_search_29, eX2_search_32, eX2_search_33, eX2_search_34, eX2_search_35, eX2_search_36, eX2_search_38, eX2_search_40, eX2_search_41, eX2_search_44, eX2_search_46, eX2_search_47, eX2_search_48, eX2_search_50, eX2_search_51, eX2_search_52, eX2_search_55, eX2_search_56, eX2_search_58, eX2_search_60, eX2_search_63, eX2_search_66, eX2_search_67, eX2_search_69, eX2_search_70, eX2_search_71, eX2_search_73, eX2_search_74, eX2_search_75, eX2_search_76, eX2_search_77, eX2_search_80, eX2_search_82, eX2_search_83, eX2_search_84, eX2_search_86, hbw, c, e12, Nat.reduceLT, Nat.reduceLeDiff, Nat.reduceEqDiff, Nat.reduceAdd, Nat.reduceMul, Int.reduceLE, Int.reduceLT, Int.reduceEq, not_false_iff, nlr, Nat.zero_add, Nat.add_zero, e10f, e01f, eq_self, true_and, and_true, false_and, and_false, and_self, decide_true, decide_false, mm_bd_i, mm_bd_v, if_true, if_false, not_true_eq_false, not_false_eq_true, nI_1, Bool.true_eq_false, Bool.false_eq_true, bI_0, n_le0, n_0lt, n_lt0, n_0le, n_eq0, n_eqm, n_eq1, n_le1, n_1lt, n_1le, n_lt1, nn_le, nI_ltI, nI_eq, nI_clamp, nI_add, pk_mul, i_eq0, i_eqm, i_0le, i_le0, i_0lt, i_lt0, i_mle, i_ltm, ii_le, iI_lt, iI_eq, ni_le, ni_lt, ni_eq, in_le, in_lt, in_eq, ni_add, in_add, ni_sub, in_sub, ni_mul, in_mul, iI_add, iI_sub, iI_mul, i_p1, iI_neg, n_neg, nI_pred, q3, q84, sub1, k1, t1]
        · intro r r1 r2
          rw [p8 r r1 r2, t4 r (by omega) (by omega), k3 r (by omega) (by omega)]
