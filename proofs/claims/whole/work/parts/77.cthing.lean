/-! the text: the class reads lines into a thing -/
/-- the refs of a thing -/
def thZ (t : Nat) (F : Nat → Nat → Value) : Prop := F t 0 = .ref (t + 1) ∧ F t 1 = .ref (t + 2) ∧ F t 2 = .ref (t + 3) ∧ F t 3 = .ref (t + 4) ∧ F t 4 = .ref (t + 5)
def thR (t : Nat) (c : Nat) (th : Nat → Nat × Nat × Nat × Nat) (F : Nat → Nat → Value) (I : Nat → Nat → Int32) : Prop := F t 5 = .int (nI c) ∧ ∀ q, q < c → I (t + 1) q = nI (th q).1 ∧ I (t + 2) q = nI (th q).2.1 ∧ I (t + 3) q = nI (th q).2.2.1 ∧ I (t + 4) q = nI (th q).2.2.2
def thW (t c : Nat) (ln : Nat × Nat × Nat × Nat) (I : Nat → Nat → Int32) : Nat → Nat → Int32 := mm_up2 (mm_up2 (mm_up2 (mm_up2 I (t + 1) c (nI ln.1)) (t + 2) c (nI ln.2.1)) (t + 3) c (nI ln.2.2.1)) (t + 4) c (nI ln.2.2.2)
theorem cTh_add (d : Nat) (z : mm_Z) (F : Nat → Nat → Value) (I : Nat → Nat → Int32) (L : Nat → Nat → Int64) (t : Nat) (ht : t = 60 ∨ t = 66) (c : Nat) (th : Nat → Nat × Nat × Nat × Nat) (hz : zOK z) (hF : thZ t F) (h : thR t c th F I) (hc : c < 10) (ln : Nat × Nat × Nat × Nat) : mm_E d mX9_addLine 0 [.ref t, .int (nI ln.1), .int (nI ln.2.1), .int (nI ln.2.2.1), .int (nI ln.2.2.2)] [] (z, F, I, L) = some (some (.int 1), (z, mm_up2 F t 5 (.int (nI (c + 1))), thW t c ln I, L)) := by
  obtain ⟨h0, h1, h2, h3, h4⟩ := hF
  have h5 := h.1
  unfold thW
  rcases ht with rfl | rfl <;> simp only [Nat.reduceAdd] at h0 h1 h2 h3 h4 h5 ⊢ <;> simp (disch := first | assumption | exact bI_or _ | exact zOK_O hz (by decide) (by decide) rfl | exact zOK_T hz (by decide) (by decide) rfl | (refine ix (zOK_l hz (by decide) (by decide) rfl) ?_; omega) | decide | omega) only [eX9_addLine_0, eX9_addLine_1, eX9_addLine_4, eX9_addLine_6, eX9_addLine_9, eX9_addLine_10, eX9_addLine_11, eX9_addLine_12, eX9_addLine_15, eX9_addLine_16, eX9_addLine_19, eX9_addLine_20, eX9_addLine_21, eX9_addLine_22, eX9_addLine_25, eX9_addLine_26, eX9_addLine_29, eX9_addLine_30, eX9_addLine_31, eX9_addLine_32, eX9_addLine_35, eX9_addLine_36, eX9_addLine_39, eX9_addLine_40, eX9_addLine_41, eX9_addLine_42, eX9_addLine_45, eX9_addLine_46, eX9_addLine_49, eX9_addLine_51, eX9_addLine_52, eX9_addLine_53, eX9_addLine_54, eX9_addLine_57, eX9_addLine_58, eX9_addLine_59, eX9_addLine_62, eX9_addLine_63, Nat.reduceLT, Nat.reduceLeDiff, Nat.reduceEqDiff, Nat.reduceAdd, Nat.reduceMul, Int.reduceLE, Int.reduceLT, Int.reduceEq, not_false_iff, nlr, Nat.zero_add, Nat.add_zero, e10f, e01f, eq_self, true_and, and_true, false_and, and_false, and_self, decide_true, decide_false, mm_bd_i, mm_bd_v, if_true, if_false, not_true_eq_false, not_false_eq_true, nI_1, Bool.true_eq_false, Bool.false_eq_true, bI_0, n_le0, n_0lt, n_lt0, n_0le, n_eq0, n_eqm, n_eq1, n_le1, n_1lt, n_1le, n_lt1, nn_le, nI_ltI, nI_eq, nI_clamp, nI_add, pk_mul, i_eq0, i_eqm, i_0le, i_le0, i_0lt, i_lt0, i_mle, i_ltm, ii_le, iI_lt, iI_eq, ni_le, ni_lt, ni_eq, in_le, in_lt, in_eq, ni_add, in_add, ni_sub, in_sub, ni_mul, in_mul, iI_add, iI_sub, iI_mul, i_p1, iI_neg, n_neg, h0, h1, h2, h3, h5, hc, up_s, up_k]
theorem thR_add (t : Nat) (c : Nat) (th : Nat → Nat × Nat × Nat × Nat) {F : Nat → Nat → Value} {I : Nat → Nat → Int32} (h : thR t c th F I) (ln : Nat × Nat × Nat × Nat) : thR t (c + 1) (udf th c ln) (mm_up2 F t 5 (.int (nI (c + 1)))) (thW t c ln I) := by
  refine ⟨up_s _ _ _ _, fun q hq => ?_⟩
  unfold thW
  have n1 : ¬ t + 1 = t + 2 := by omega
  have n2 : ¬ t + 1 = t + 3 := by omega
  have n3 : ¬ t + 1 = t + 4 := by omega
  have n4 : ¬ t + 2 = t + 3 := by omega
  have n5 : ¬ t + 2 = t + 4 := by omega
  have n6 : ¬ t + 3 = t + 4 := by omega
  have m1 : ¬ t + 2 = t + 1 := by omega
  have m2 : ¬ t + 3 = t + 1 := by omega
  have m3 : ¬ t + 4 = t + 1 := by omega
  have m4 : ¬ t + 3 = t + 2 := by omega
  have m5 : ¬ t + 4 = t + 2 := by omega
  have m6 : ¬ t + 4 = t + 3 := by omega
  by_cases e : q = c
  · subst e
    rw [udf_s]
    simp (disch := assumption) only [up_s, up_r, and_self]
  · rw [udf_n _ _ e]
    simp (disch := assumption) only [up_k, up_r]
    exact h.2 q (by omega)
theorem thW_n (t c : Nat) (ln : Nat × Nat × Nat × Nat) (I : Nat → Nat → Int32) {r : Nat} (hr : r < t + 1 ∨ t + 4 < r) : thW t c ln I r = I r := by
  unfold thW
  rw [up_row _ _ _ (by omega), up_row _ _ _ (by omega), up_row _ _ _ (by omega), up_row _ _ _ (by omega)]
/-- a line read from i on: a fault's place, or the line and where its last token ends -/
def rdM (k : Nat) (tx : Nat → Nat) (kd i : Nat) : Option Nat × Nat := if kd = 2 then (nmV k tx i 1 9, nx k tx i) else (some 0, i)
def rdL (k : Nat) (tx : Nat → Nat) (i : Nat) : Nat ⊕ ((Nat × Nat × Nat × Nat) × Nat) := match wdN tx (tkB k tx i) (nx k tx i - tkB k tx i) with
  | none => .inl (tkB k tx i)
  | some kd => match (rdM k tx kd (nx k tx i)).1 with
    | none => .inl (tkB k tx (nx k tx i))
    | some mr => match nmV k tx (rdM k tx kd (nx k tx i)).2 0 7 with
      | none => .inl (tkB k tx (rdM k tx kd (nx k tx i)).2)
      | some x => match nmV k tx (nx k tx (rdM k tx kd (nx k tx i)).2) 0 7 with
        | none => .inl (tkB k tx (nx k tx (rdM k tx kd (nx k tx i)).2))
        | some y => .inr ((kd, mr, x, y), nx k tx (nx k tx (rdM k tx kd (nx k tx i)).2))
theorem nmV_lt (k : Nat) (tx : Nat → Nat) {i lo hi v : Nat} (h : nmV k tx i lo hi = some v) : lo ≤ v ∧ v ≤ hi := by
  unfold nmV at h
  split at h
  · have := Option.some.inj h; omega
  · exact absurd h (by simp)
theorem wdI_n {v : Nat} (h : v < 1000) : ¬ wdI (some v) = -1 := nI_nm1 (by omega)
/-- what a reading may change -/
def rdF (t : Nat) (F F' : Nat → Nat → Value) (I I' : Nat → Nat → Int32) : Prop := (∀ r j, ¬ (r = 58 ∧ (j = 2 ∨ j = 3)) → ¬ (r = t ∧ j = 5) → F' r j = F r j) ∧ ∀ r, (r < t + 1 ∨ t + 4 < r) → I' r = I r
theorem rdF_rfl (t : Nat) (F : Nat → Nat → Value) (I : Nat → Nat → Int32) : rdF t F F I I := ⟨fun _ _ _ _ => rfl, fun _ _ => rfl⟩
theorem rdF_trans {t : Nat} {F F' F'' : Nat → Nat → Value} {I I' I'' : Nat → Nat → Int32} (h : rdF t F F' I I') (h' : rdF t F' F'' I' I'') : rdF t F F'' I I'' := ⟨fun r j a b => (h'.1 r j a b).trans (h.1 r j a b), fun r a => (h'.2 r a).trans (h.2 r a)⟩
theorem rdF_tk (t : Nat) (k : Nat) (tx : Nat → Nat) (F : Nat → Nat → Value) (I : Nat → Nat → Int32) (i : Nat) : rdF t F (tkF k tx F i) I I := ⟨fun r j a _ => tkF_n k tx F i a, fun _ _ => rfl⟩
theorem thZ_rdF {t : Nat} (ht : t = 60 ∨ t = 66) {F F' : Nat → Nat → Value} {I I' : Nat → Nat → Int32} (h : thZ t F) (hf : rdF t F F' I I') : thZ t F' := by
  unfold thZ at *
  rw [hf.1 t 0 (by omega) (by omega), hf.1 t 1 (by omega) (by omega), hf.1 t 2 (by omega) (by omega), hf.1 t 3 (by omega) (by omega), hf.1 t 4 (by omega) (by omega)]
  exact h
theorem thR_tk {t : Nat} (ht : t = 60 ∨ t = 66) (k : Nat) (tx : Nat → Nat) (c : Nat) (th : Nat → Nat × Nat × Nat × Nat) {F : Nat → Nat → Value} {I : Nat → Nat → Int32} (h : thR t c th F I) (i : Nat) : thR t c th (tkF k tx F i) I := by
  unfold thR at *
  rw [tkF_n k tx F i (by omega)]
  exact h
theorem cTx_rdF {t : Nat} (ht : t = 60 ∨ t = 66) (k : Nat) (tx : Nat → Nat) {F F' : Nat → Nat → Value} {I I' : Nat → Nat → Int32} (h : cTx k tx F I) (hf : rdF t F F' I I') : cTx k tx F' I' := by
  unfold cTx at *
  rw [hf.1 58 0 (by omega) (by omega), hf.1 58 1 (by omega) (by omega), hf.2 59 (by omega)]
  exact h
theorem cT_line (d : Nat) (z : mm_Z) (F : Nat → Nat → Value) (I : Nat → Nat → Int32) (L : Nat → Nat → Int64) (t : Nat) (ht : t = 60 ∨ t = 66) (k : Nat) (tx : Nat → Nat) (c : Nat) (th : Nat → Nat × Nat × Nat × Nat) (hz : zOK z) (ok : okT k tx) (h : cTx k tx F I) (hZ : thZ t F) (hR : thR t c th F I) (hc : c < 10) (i : Nat) (hi : i ≤ k) (h3 : F 58 3 = .int (nI i)) : ∃ F' I' b, mm_E (d + 4) mX8_readLine 0 [.ref 58, .ref t, uu, uu, uu, uu] [] (z, F, I, L) = some (some (.int (bI b)), (z, F', I', L)) ∧ rdF t F F' I I' ∧ (∀ p, rdL k tx i = .inl p → b = false ∧ F' 58 2 = .int (nI p)) ∧ ∀ ln j, rdL k tx i = .inr (ln, j) → b = true ∧ j ≤ k ∧ F' 58 3 = .int (nI j) ∧ thR t (c + 1) (udf th c ln) F' I' := by
  have ok1 := ok.1
  -- the first token
  have ne := cT_next (d + 1) z F I L k tx hz ok h i hi h3
  obtain ⟨hA, a2, a3⟩ := cTx_tkF k tx h i
  have nb := nx_b k tx hi
  have wk := cT_word z (tkF k tx F i) I L k tx hz ok hA (tkB k tx i) (nx k tx i) nb.1 nb.2 a2 a3
  have rA := rdF_tk t k tx F I i
  unfold rdL
  cases w : wdN tx (tkB k tx i) (nx k tx i - tkB k tx i) with
  | none =>
    rw [w] at wk
    refine ⟨_, I, false, ?_, rA, fun p hp => ⟨rfl, by rw [a2]; have := Sum.inl.inj hp; rw [this]⟩, fun ln j hj => absurd hj (by simp)⟩
    rcases ht with rfl | rfl <;> simp (disch := first | assumption | exact bI_or _ | exact zOK_O hz (by decide) (by decide) rfl | exact zOK_T hz (by decide) (by decide) rfl | (refine ix (zOK_l hz (by decide) (by decide) rfl) ?_; omega) | decide | omega) only [eX8_readLine_0, eX8_readLine_1, eX8_readLine_4, eX8_readLine_5, eX8_readLine_8, eX8_readLine_9, eX8_readLine_10, eX8_readLine_11, eX8_readLine_14, eX8_readLine_15, eX8_readLine_16, eX8_readLine_17, eX8_readLine_18, eX8_readLine_21, eX8_readLine_22, eX8_readLine_23, eX8_readLine_25, eX8_readLine_28, eX8_readLine_31, eX8_readLine_32, eX8_readLine_33, eX8_readLine_34, eX8_readLine_35, eX8_readLine_38, eX8_readLine_39, eX8_readLine_40, eX8_readLine_41, eX8_readLine_42, eX8_readLine_44, eX8_readLine_47, eX8_readLine_49, eX8_readLine_51, eX8_readLine_52, eX8_readLine_55, eX8_readLine_56, eX8_readLine_57, eX8_readLine_58, eX8_readLine_59, eX8_readLine_61, eX8_readLine_64, eX8_readLine_66, eX8_readLine_68, eX8_readLine_69, eX8_readLine_72, eX8_readLine_73, eX8_readLine_74, eX8_readLine_75, eX8_readLine_77, eX8_readLine_79, eX8_readLine_82, eX8_readLine_85, eX8_readLine_86, eX8_readLine_89, eX8_readLine_90, Nat.reduceLT, Nat.reduceLeDiff, Nat.reduceEqDiff, Nat.reduceAdd, Nat.reduceMul, Int.reduceLE, Int.reduceLT, Int.reduceEq, not_false_iff, nlr, Nat.zero_add, Nat.add_zero, e10f, e01f, eq_self, true_and, and_true, false_and, and_false, and_self, decide_true, decide_false, mm_bd_i, mm_bd_v, if_true, if_false, not_true_eq_false, not_false_eq_true, nI_1, Bool.true_eq_false, Bool.false_eq_true, bI_0, n_le0, n_0lt, n_lt0, n_0le, n_eq0, n_eqm, n_eq1, n_le1, n_1lt, n_1le, n_lt1, nn_le, nI_ltI, nI_eq, nI_clamp, nI_add, pk_mul, i_eq0, i_eqm, i_0le, i_le0, i_0lt, i_lt0, i_mle, i_ltm, ii_le, iI_lt, iI_eq, ni_le, ni_lt, ni_eq, in_le, in_lt, in_eq, ni_add, in_add, ni_sub, in_sub, ni_mul, in_mul, iI_add, iI_sub, iI_mul, i_p1, iI_neg, n_neg, ne, wk, wdI, bI_f]
  | some kd =>
    have kl := wdN_lt w
    rw [w] at wk
    have kn : ¬ wdI (some kd) = -1 := wdI_n (by omega)
    -- the mark
    have stM : ∃ F1, mm_E (d + 4) mX8_readLine 0 [.ref 58, .ref t, uu, uu, uu, uu] [] (z, F, I, L) = mm_E (d + 4) mX8_readLine 33 [.ref 58, .ref t, .int (nI kd), .int (wdI (rdM k tx kd (nx k tx i)).1), uu, uu] [] (z, F1, I, L) ∧ rdF t F F1 I I ∧ thR t c th F1 I ∧ F1 58 3 = .int (nI (rdM k tx kd (nx k tx i)).2) ∧ (rdM k tx kd (nx k tx i)).2 ≤ k ∧ ((rdM k tx kd (nx k tx i)).1 = none → F1 58 2 = .int (nI (tkB k tx (nx k tx i)))) := by
      unfold rdM
      by_cases e : kd = 2
      · have nu := cT_num d z (tkF k tx F i) I L k tx hz ok hA (nx k tx i) nb.2 a3 1 9 (by decide) (by decide)
        obtain ⟨hB, b2, b3⟩ := cTx_tkF k tx hA (nx k tx i)
        refine ⟨tkF k tx (tkF k tx F i) (nx k tx i), ?_, rdF_trans rA (rdF_tk t k tx _ I _), thR_tk ht k tx c th (thR_tk ht k tx c th hR i) _, ?_, ?_, ?_⟩
        · rw [if_pos e]
          subst e
          have n1 : nI 1 = 1 := rfl
          rw [n1] at nu
          rcases ht with rfl | rfl <;> simp (disch := first | assumption | exact bI_or _ | exact zOK_O hz (by decide) (by decide) rfl | exact zOK_T hz (by decide) (by decide) rfl | (refine ix (zOK_l hz (by decide) (by decide) rfl) ?_; omega) | decide | omega) only [eX8_readLine_0, eX8_readLine_1, eX8_readLine_4, eX8_readLine_5, eX8_readLine_8, eX8_readLine_9, eX8_readLine_10, eX8_readLine_11, eX8_readLine_14, eX8_readLine_15, eX8_readLine_16, eX8_readLine_17, eX8_readLine_18, eX8_readLine_21, eX8_readLine_22, eX8_readLine_23, eX8_readLine_25, eX8_readLine_28, eX8_readLine_31, eX8_readLine_32, Nat.reduceLT, Nat.reduceLeDiff, Nat.reduceEqDiff, Nat.reduceAdd, Nat.reduceMul, Int.reduceLE, Int.reduceLT, Int.reduceEq, not_false_iff, nlr, Nat.zero_add, Nat.add_zero, e10f, e01f, eq_self, true_and, and_true, false_and, and_false, and_self, decide_true, decide_false, mm_bd_i, mm_bd_v, if_true, if_false, not_true_eq_false, not_false_eq_true, nI_1, Bool.true_eq_false, Bool.false_eq_true, bI_0, n_le0, n_0lt, n_lt0, n_0le, n_eq0, n_eqm, n_eq1, n_le1, n_1lt, n_1le, n_lt1, nn_le, nI_ltI, nI_eq, nI_clamp, nI_add, pk_mul, i_eq0, i_eqm, i_0le, i_le0, i_0lt, i_lt0, i_mle, i_ltm, ii_le, iI_lt, iI_eq, ni_le, ni_lt, ni_eq, in_le, in_lt, in_eq, ni_add, in_add, ni_sub, in_sub, ni_mul, in_mul, iI_add, iI_sub, iI_mul, i_p1, iI_neg, n_neg, ne, wk, wdI, nu]
        · rw [if_pos e]; exact b3
        · rw [if_pos e]; exact (nx_b k tx nb.2).2
        · intro _; exact b2
      · refine ⟨tkF k tx F i, ?_, rA, thR_tk ht k tx c th hR i, ?_, ?_, ?_⟩
        · rw [if_neg e]
          rcases ht with rfl | rfl <;> simp (disch := first | assumption | exact bI_or _ | exact zOK_O hz (by decide) (by decide) rfl | exact zOK_T hz (by decide) (by decide) rfl | (refine ix (zOK_l hz (by decide) (by decide) rfl) ?_; omega) | decide | omega) only [eX8_readLine_0, eX8_readLine_1, eX8_readLine_4, eX8_readLine_5, eX8_readLine_8, eX8_readLine_9, eX8_readLine_10, eX8_readLine_11, eX8_readLine_14, eX8_readLine_15, eX8_readLine_16, eX8_readLine_17, eX8_readLine_18, eX8_readLine_21, eX8_readLine_22, eX8_readLine_23, eX8_readLine_25, eX8_readLine_28, eX8_readLine_31, eX8_readLine_32, Nat.reduceLT, Nat.reduceLeDiff, Nat.reduceEqDiff, Nat.reduceAdd, Nat.reduceMul, Int.reduceLE, Int.reduceLT, Int.reduceEq, not_false_iff, nlr, Nat.zero_add, Nat.add_zero, e10f, e01f, eq_self, true_and, and_true, false_and, and_false, and_self, decide_true, decide_false, mm_bd_i, mm_bd_v, if_true, if_false, not_true_eq_false, not_false_eq_true, nI_1, Bool.true_eq_false, Bool.false_eq_true, bI_0, n_le0, n_0lt, n_lt0, n_0le, n_eq0, n_eqm, n_eq1, n_le1, n_1lt, n_1le, n_lt1, nn_le, nI_ltI, nI_eq, nI_clamp, nI_add, pk_mul, i_eq0, i_eqm, i_0le, i_le0, i_0lt, i_lt0, i_mle, i_ltm, ii_le, iI_lt, iI_eq, ni_le, ni_lt, ni_eq, in_le, in_lt, in_eq, ni_add, in_add, ni_sub, in_sub, ni_mul, in_mul, iI_add, iI_sub, iI_mul, i_p1, iI_neg, n_neg, ne, wk, wdI, e] <;> rfl
        · rw [if_neg e]; exact a3
        · rw [if_neg e]; exact nb.2
        · rw [if_neg e]; intro q; exact absurd q (by simp)
    obtain ⟨F1, e1, r1, t1, p1, l1, f1⟩ := stM
    have hA1 := cTx_rdF ht k tx h r1
    dsimp only
    cases m : (rdM k tx kd (nx k tx i)).1 with
    | none =>
      refine ⟨F1, I, false, ?_, r1, fun p hp => ⟨rfl, by rw [f1 m]; have := Sum.inl.inj hp; rw [this]⟩, fun ln j hj => absurd hj (by simp)⟩
      rw [e1, m]
      rcases ht with rfl | rfl <;> simp (disch := first | assumption | exact bI_or _ | exact zOK_O hz (by decide) (by decide) rfl | exact zOK_T hz (by decide) (by decide) rfl | (refine ix (zOK_l hz (by decide) (by decide) rfl) ?_; omega) | decide | omega) only [eX8_readLine_33, eX8_readLine_34, eX8_readLine_35, eX8_readLine_38, eX8_readLine_39, eX8_readLine_40, eX8_readLine_41, eX8_readLine_42, eX8_readLine_44, eX8_readLine_47, eX8_readLine_49, eX8_readLine_51, eX8_readLine_52, eX8_readLine_55, eX8_readLine_56, eX8_readLine_57, eX8_readLine_58, eX8_readLine_59, eX8_readLine_61, eX8_readLine_64, eX8_readLine_66, eX8_readLine_68, eX8_readLine_69, eX8_readLine_72, eX8_readLine_73, eX8_readLine_74, eX8_readLine_75, eX8_readLine_77, eX8_readLine_79, eX8_readLine_82, eX8_readLine_85, eX8_readLine_86, eX8_readLine_89, eX8_readLine_90, Nat.reduceLT, Nat.reduceLeDiff, Nat.reduceEqDiff, Nat.reduceAdd, Nat.reduceMul, Int.reduceLE, Int.reduceLT, Int.reduceEq, not_false_iff, nlr, Nat.zero_add, Nat.add_zero, e10f, e01f, eq_self, true_and, and_true, false_and, and_false, and_self, decide_true, decide_false, mm_bd_i, mm_bd_v, if_true, if_false, not_true_eq_false, not_false_eq_true, nI_1, Bool.true_eq_false, Bool.false_eq_true, bI_0, n_le0, n_0lt, n_lt0, n_0le, n_eq0, n_eqm, n_eq1, n_le1, n_1lt, n_1le, n_lt1, nn_le, nI_ltI, nI_eq, nI_clamp, nI_add, pk_mul, i_eq0, i_eqm, i_0le, i_le0, i_0lt, i_lt0, i_mle, i_ltm, ii_le, iI_lt, iI_eq, ni_le, ni_lt, ni_eq, in_le, in_lt, in_eq, ni_add, in_add, ni_sub, in_sub, ni_mul, in_mul, iI_add, iI_sub, iI_mul, i_p1, iI_neg, n_neg, wdI, bI_f]
    | some mr =>
      have mn : ¬ wdI (some mr) = -1 := by
        apply wdI_n
        unfold rdM at m
        by_cases e : kd = 2
        · rw [if_pos e] at m; have := nmV_lt k tx m; omega
        · rw [if_neg e] at m; have := Option.some.inj m; omega
      -- x
      have nu := cT_num d z F1 I L k tx hz ok hA1 _ l1 p1 0 7 (by decide) (by decide)
      obtain ⟨hB, b2, b3⟩ := cTx_tkF k tx hA1 (rdM k tx kd (nx k tx i)).2
      have rB := rdF_trans r1 (rdF_tk t k tx F1 I (rdM k tx kd (nx k tx i)).2)
      have lB := (nx_b k tx l1).2
      rw [nI_0] at nu
      dsimp only
      cases xv : nmV k tx (rdM k tx kd (nx k tx i)).2 0 7 with
      | none =>
        rw [xv] at nu
        refine ⟨_, I, false, ?_, rB, fun p hp => ⟨rfl, by rw [b2]; have := Sum.inl.inj hp; rw [this]⟩, fun ln j hj => absurd hj (by simp)⟩
        rw [e1, m]
        simp only [wdI] at nu mn ⊢
        rcases ht with rfl | rfl <;> simp (disch := first | assumption | exact bI_or _ | exact zOK_O hz (by decide) (by decide) rfl | exact zOK_T hz (by decide) (by decide) rfl | (refine ix (zOK_l hz (by decide) (by decide) rfl) ?_; omega) | decide | omega) only [eX8_readLine_33, eX8_readLine_34, eX8_readLine_35, eX8_readLine_38, eX8_readLine_39, eX8_readLine_40, eX8_readLine_41, eX8_readLine_42, eX8_readLine_44, eX8_readLine_47, eX8_readLine_49, eX8_readLine_51, eX8_readLine_52, eX8_readLine_55, eX8_readLine_56, eX8_readLine_57, eX8_readLine_58, eX8_readLine_59, eX8_readLine_61, eX8_readLine_64, eX8_readLine_66, eX8_readLine_68, eX8_readLine_69, eX8_readLine_72, eX8_readLine_73, eX8_readLine_74, eX8_readLine_75, eX8_readLine_77, eX8_readLine_79, eX8_readLine_82, eX8_readLine_85, eX8_readLine_86, eX8_readLine_89, eX8_readLine_90, Nat.reduceLT, Nat.reduceLeDiff, Nat.reduceEqDiff, Nat.reduceAdd, Nat.reduceMul, Int.reduceLE, Int.reduceLT, Int.reduceEq, not_false_iff, nlr, Nat.zero_add, Nat.add_zero, e10f, e01f, eq_self, true_and, and_true, false_and, and_false, and_self, decide_true, decide_false, mm_bd_i, mm_bd_v, if_true, if_false, not_true_eq_false, not_false_eq_true, nI_1, Bool.true_eq_false, Bool.false_eq_true, bI_0, n_le0, n_0lt, n_lt0, n_0le, n_eq0, n_eqm, n_eq1, n_le1, n_1lt, n_1le, n_lt1, nn_le, nI_ltI, nI_eq, nI_clamp, nI_add, pk_mul, i_eq0, i_eqm, i_0le, i_le0, i_0lt, i_lt0, i_mle, i_ltm, ii_le, iI_lt, iI_eq, ni_le, ni_lt, ni_eq, in_le, in_lt, in_eq, ni_add, in_add, ni_sub, in_sub, ni_mul, in_mul, iI_add, iI_sub, iI_mul, i_p1, iI_neg, n_neg, nu, mn, bI_f]
      | some x =>
        have xl := nmV_lt k tx xv
        rw [xv] at nu
        have nv := cT_num d z _ I L k tx hz ok hB _ lB b3 0 7 (by decide) (by decide)
        obtain ⟨hC, c2, c3⟩ := cTx_tkF k tx hB (nx k tx (rdM k tx kd (nx k tx i)).2)
        have rC := rdF_trans rB (rdF_tk t k tx _ I (nx k tx (rdM k tx kd (nx k tx i)).2))
        rw [nI_0] at nv
        dsimp only
        cases yv : nmV k tx (nx k tx (rdM k tx kd (nx k tx i)).2) 0 7 with
        | none =>
          rw [yv] at nv
          refine ⟨_, I, false, ?_, rC, fun p hp => ⟨rfl, by rw [c2]; have := Sum.inl.inj hp; rw [this]⟩, fun ln j hj => absurd hj (by simp)⟩
          rw [e1, m]
          simp only [wdI] at nu nv mn ⊢
          rcases ht with rfl | rfl <;> simp (disch := first | assumption | exact bI_or _ | exact zOK_O hz (by decide) (by decide) rfl | exact zOK_T hz (by decide) (by decide) rfl | (refine ix (zOK_l hz (by decide) (by decide) rfl) ?_; omega) | decide | omega) only [eX8_readLine_33, eX8_readLine_34, eX8_readLine_35, eX8_readLine_38, eX8_readLine_39, eX8_readLine_40, eX8_readLine_41, eX8_readLine_42, eX8_readLine_44, eX8_readLine_47, eX8_readLine_49, eX8_readLine_51, eX8_readLine_52, eX8_readLine_55, eX8_readLine_56, eX8_readLine_57, eX8_readLine_58, eX8_readLine_59, eX8_readLine_61, eX8_readLine_64, eX8_readLine_66, eX8_readLine_68, eX8_readLine_69, eX8_readLine_72, eX8_readLine_73, eX8_readLine_74, eX8_readLine_75, eX8_readLine_77, eX8_readLine_79, eX8_readLine_82, eX8_readLine_85, eX8_readLine_86, eX8_readLine_89, eX8_readLine_90, Nat.reduceLT, Nat.reduceLeDiff, Nat.reduceEqDiff, Nat.reduceAdd, Nat.reduceMul, Int.reduceLE, Int.reduceLT, Int.reduceEq, not_false_iff, nlr, Nat.zero_add, Nat.add_zero, e10f, e01f, eq_self, true_and, and_true, false_and, and_false, and_self, decide_true, decide_false, mm_bd_i, mm_bd_v, if_true, if_false, not_true_eq_false, not_false_eq_true, nI_1, Bool.true_eq_false, Bool.false_eq_true, bI_0, n_le0, n_0lt, n_lt0, n_0le, n_eq0, n_eqm, n_eq1, n_le1, n_1lt, n_1le, n_lt1, nn_le, nI_ltI, nI_eq, nI_clamp, nI_add, pk_mul, i_eq0, i_eqm, i_0le, i_le0, i_0lt, i_lt0, i_mle, i_ltm, ii_le, iI_lt, iI_eq, ni_le, ni_lt, ni_eq, in_le, in_lt, in_eq, ni_add, in_add, ni_sub, in_sub, ni_mul, in_mul, iI_add, iI_sub, iI_mul, i_p1, iI_neg, n_neg, nu, nv, mn, bI_f]
        | some y =>
          have yl := nmV_lt k tx yv
          rw [yv] at nv
          have tC := thR_tk ht k tx c th (thR_tk ht k tx c th t1 (rdM k tx kd (nx k tx i)).2) (nx k tx (rdM k tx kd (nx k tx i)).2)
          have ad := cTh_add (d + 3) z _ I L t ht c th hz (thZ_rdF ht hZ rC) tC hc (kd, mr, x, y)
          refine ⟨mm_up2 (tkF k tx (tkF k tx F1 (rdM k tx kd (nx k tx i)).2) (nx k tx (rdM k tx kd (nx k tx i)).2)) t 5 (.int (nI (c + 1))), thW t c (kd, mr, x, y) I, true, ?_, rdF_trans rC ⟨?_, ?_⟩, fun p hp => absurd hp (by simp), fun ln j hj => ?_⟩
          rotate_left
          · intro r j _ hb
            unfold mm_up2
            rw [if_neg hb]
          · intro r hr
            exact thW_n t c (kd, mr, x, y) I hr
          · have q := Sum.inr.inj hj
            have q1 := congrArg Prod.fst q
            have q2 := congrArg Prod.snd q
            simp only at q1 q2
            subst q1; subst q2
            refine ⟨rfl, (nx_b k tx lB).2, ?_, thR_add t c th tC (kd, mr, x, y)⟩
            rw [up_r _ _ _ _ (by omega)]
            exact c3
          rw [e1, m]
          simp only [wdI] at nu nv mn ⊢
          rcases ht with rfl | rfl <;> simp (disch := first | assumption | exact bI_or _ | exact zOK_O hz (by decide) (by decide) rfl | exact zOK_T hz (by decide) (by decide) rfl | (refine ix (zOK_l hz (by decide) (by decide) rfl) ?_; omega) | decide | omega) only [eX8_readLine_33, eX8_readLine_34, eX8_readLine_35, eX8_readLine_38, eX8_readLine_39, eX8_readLine_40, eX8_readLine_41, eX8_readLine_42, eX8_readLine_44, eX8_readLine_47, eX8_readLine_49, eX8_readLine_51, eX8_readLine_52, eX8_readLine_55, eX8_readLine_56, eX8_readLine_57, eX8_readLine_58, eX8_readLine_59, eX8_readLine_61, eX8_readLine_64, eX8_readLine_66, eX8_readLine_68, eX8_readLine_69, eX8_readLine_72, eX8_readLine_73, eX8_readLine_74, eX8_readLine_75, eX8_readLine_77, eX8_readLine_79, eX8_readLine_82, eX8_readLine_85, eX8_readLine_86, eX8_readLine_89, eX8_readLine_90, Nat.reduceLT, Nat.reduceLeDiff, Nat.reduceEqDiff, Nat.reduceAdd, Nat.reduceMul, Int.reduceLE, Int.reduceLT, Int.reduceEq, not_false_iff, nlr, Nat.zero_add, Nat.add_zero, e10f, e01f, eq_self, true_and, and_true, false_and, and_false, and_self, decide_true, decide_false, mm_bd_i, mm_bd_v, if_true, if_false, not_true_eq_false, not_false_eq_true, nI_1, Bool.true_eq_false, Bool.false_eq_true, bI_0, n_le0, n_0lt, n_lt0, n_0le, n_eq0, n_eqm, n_eq1, n_le1, n_1lt, n_1le, n_lt1, nn_le, nI_ltI, nI_eq, nI_clamp, nI_add, pk_mul, i_eq0, i_eqm, i_0le, i_le0, i_0lt, i_lt0, i_mle, i_ltm, ii_le, iI_lt, iI_eq, ni_le, ni_lt, ni_eq, in_le, in_lt, in_eq, ni_add, in_add, ni_sub, in_sub, ni_mul, in_mul, iI_add, iI_sub, iI_mul, i_p1, iI_neg, n_neg, nu, nv, mn, ad, bI_t]
