/-! the text: k bytes tx; tokens; the class's reading of tokens -/
def whF (p : Nat → Bool) : Nat → Nat → Nat
  | 0, i => i
  | f + 1, i => if p i = true then whF p f (i + 1) else i
def whl (p : Nat → Bool) (k i : Nat) : Nat := whF p (k - i) i
theorem whl_s {p : Nat → Bool} {k i : Nat} (h : i < k) (hp : p i = true) : whl p k i = whl p k (i + 1) := by
  unfold whl
  obtain ⟨f, hf⟩ : ∃ f, k - i = f + 1 := ⟨k - i - 1, by omega⟩
  rw [hf, whF, if_pos hp, show k - (i + 1) = f by omega]
theorem whl_n {p : Nat → Bool} {k i : Nat} (hp : p i = false) : whl p k i = i := by
  unfold whl
  cases k - i with
  | zero => rfl
  | succ f => rw [whF, if_neg (by rw [hp]; simp)]
theorem whl_e {p : Nat → Bool} {k i : Nat} (h : k ≤ i) : whl p k i = i := by
  unfold whl
  rw [show k - i = 0 by omega, whF]
theorem whl_b (p : Nat → Bool) (k : Nat) : ∀ i, i ≤ k → i ≤ whl p k i ∧ whl p k i ≤ k := by
  apply lp
  · rw [whl_e (Nat.le_refl k)]; omega
  · intro i hi ih
    cases hp : p i with
    | true => rw [whl_s hi hp]; omega
    | false => rw [whl_n hp]; omega
theorem whl_a (p : Nat → Bool) (k : Nat) : ∀ i, i ≤ k → ∀ j, i ≤ j → j < whl p k i → p j = true := by
  apply lp
  · intro j h1 h2; rw [whl_e (Nat.le_refl k)] at h2; omega
  · intro i hi ih j h1 h2
    cases hp : p i with
    | true =>
      by_cases e : j = i
      · rw [e]; exact hp
      · rw [whl_s hi hp] at h2; exact ih j (by omega) h2
    | false => rw [whl_n hp] at h2; omega
theorem whl_stop (p : Nat → Bool) (k : Nat) : ∀ i, i ≤ k → whl p k i < k → p (whl p k i) = false := by
  apply lp
  · intro h; rw [whl_e (Nat.le_refl k)] at h; omega
  · intro i hi ih h
    cases hp : p i with
    | true => rw [whl_s hi hp] at h ⊢; exact ih h
    | false => rw [whl_n hp]; exact hp
def isL (c : Nat) : Bool := decide (97 ≤ c ∧ c ≤ 122)
def isD (c : Nat) : Bool := decide (48 ≤ c ∧ c ≤ 57)
/-- where the token behind i begins, and where one that begins at b ends -/
def tkB (k : Nat) (tx : Nat → Nat) (i : Nat) : Nat := whl (fun j => decide (tx j = 32)) k i
def tkE (k : Nat) (tx : Nat → Nat) (b : Nat) : Nat := if b < k then (if isL (tx b) = true then whl (fun j => isL (tx j)) k b else if isD (tx b) = true then whl (fun j => isD (tx j)) k b else b + 1) else b
theorem tkB_b (k : Nat) (tx : Nat → Nat) {i : Nat} (h : i ≤ k) : i ≤ tkB k tx i ∧ tkB k tx i ≤ k := whl_b _ k i h
theorem tkE_b (k : Nat) (tx : Nat → Nat) {b : Nat} (h : b ≤ k) : b ≤ tkE k tx b ∧ tkE k tx b ≤ k := by
  unfold tkE
  split
  · split
    · exact whl_b _ k b h
    · split
      · exact whl_b _ k b h
      · omega
  · omega
theorem tkE_gt (k : Nat) (tx : Nat → Nat) {b : Nat} (h : b < k) : b < tkE k tx b := by
  unfold tkE
  rw [if_pos h]
  split
  · rename_i e
    rw [whl_s (p := fun j => isL (tx j)) h e]
    exact (whl_b _ k (b + 1) (by omega)).1
  · split
    · rename_i e
      rw [whl_s (p := fun j => isD (tx j)) h e]
      exact (whl_b _ k (b + 1) (by omega)).1
    · omega
def okT (k : Nat) (tx : Nat → Nat) : Prop := k ≤ 160 ∧ ∀ i, i < k → tx i < 256
def cTx (k : Nat) (tx : Nat → Nat) (F : Nat → Nat → Value) (I : Nat → Nat → Int32) : Prop := F 58 0 = .ref 59 ∧ F 58 1 = .int (nI k) ∧ ∀ i, i < k → I 59 i = nI (tx i)
theorem cT_letter (d : Nat) (z : mm_Z) (F : Nat → Nat → Value) (I : Nat → Nat → Int32) (L : Nat → Nat → Int64) (c : Nat) (hc : c < 256) : mm_E d mX8_isLetter 0 [.int (nI c)] [] (z, F, I, L) = some (some (.int (bI (isL c))), (z, F, I, L)) := by
  unfold isL
  by_cases h1 : c < 97
  · rw [decide_eq_false (by omega)]
    simp (disch := first | assumption | exact bI_or _ | exact zOK_O hz (by decide) (by decide) rfl | exact zOK_T hz (by decide) (by decide) rfl | (refine ix (zOK_l hz (by decide) (by decide) rfl) ?_; omega) | decide | omega) only [eX8_isLetter_0, eX8_isLetter_1, eX8_isLetter_3, eX8_isLetter_6, eX8_isLetter_7, eX8_isLetter_9, eX8_isLetter_12, eX8_isLetter_13, eX8_isLetter_16, eX8_isLetter_17, Nat.reduceLT, Nat.reduceLeDiff, Nat.reduceEqDiff, Nat.reduceAdd, Nat.reduceMul, Int.reduceLE, Int.reduceLT, Int.reduceEq, not_false_iff, nlr, Nat.zero_add, Nat.add_zero, e10f, e01f, eq_self, true_and, and_true, false_and, and_false, and_self, decide_true, decide_false, mm_bd_i, mm_bd_v, if_true, if_false, not_true_eq_false, not_false_eq_true, nI_1, Bool.true_eq_false, Bool.false_eq_true, bI_0, n_le0, n_0lt, n_lt0, n_0le, n_eq0, n_eqm, n_eq1, n_le1, n_1lt, n_1le, n_lt1, nn_le, nI_ltI, nI_eq, nI_clamp, nI_add, pk_mul, i_eq0, i_eqm, i_0le, i_le0, i_0lt, i_lt0, i_mle, i_ltm, ii_le, iI_lt, iI_eq, ni_le, ni_lt, ni_eq, in_le, in_lt, in_eq, ni_add, in_add, ni_sub, in_sub, ni_mul, in_mul, iI_add, iI_sub, iI_mul, i_p1, iI_neg, n_neg, h1, bI_f]
  · by_cases h2 : 122 < c
    · rw [decide_eq_false (by omega)]
      simp (disch := first | assumption | exact bI_or _ | exact zOK_O hz (by decide) (by decide) rfl | exact zOK_T hz (by decide) (by decide) rfl | (refine ix (zOK_l hz (by decide) (by decide) rfl) ?_; omega) | decide | omega) only [eX8_isLetter_0, eX8_isLetter_1, eX8_isLetter_3, eX8_isLetter_6, eX8_isLetter_7, eX8_isLetter_9, eX8_isLetter_12, eX8_isLetter_13, eX8_isLetter_16, eX8_isLetter_17, Nat.reduceLT, Nat.reduceLeDiff, Nat.reduceEqDiff, Nat.reduceAdd, Nat.reduceMul, Int.reduceLE, Int.reduceLT, Int.reduceEq, not_false_iff, nlr, Nat.zero_add, Nat.add_zero, e10f, e01f, eq_self, true_and, and_true, false_and, and_false, and_self, decide_true, decide_false, mm_bd_i, mm_bd_v, if_true, if_false, not_true_eq_false, not_false_eq_true, nI_1, Bool.true_eq_false, Bool.false_eq_true, bI_0, n_le0, n_0lt, n_lt0, n_0le, n_eq0, n_eqm, n_eq1, n_le1, n_1lt, n_1le, n_lt1, nn_le, nI_ltI, nI_eq, nI_clamp, nI_add, pk_mul, i_eq0, i_eqm, i_0le, i_le0, i_0lt, i_lt0, i_mle, i_ltm, ii_le, iI_lt, iI_eq, ni_le, ni_lt, ni_eq, in_le, in_lt, in_eq, ni_add, in_add, ni_sub, in_sub, ni_mul, in_mul, iI_add, iI_sub, iI_mul, i_p1, iI_neg, n_neg, h1, h2, bI_f]
    · rw [decide_eq_true (by omega)]
      simp (disch := first | assumption | exact bI_or _ | exact zOK_O hz (by decide) (by decide) rfl | exact zOK_T hz (by decide) (by decide) rfl | (refine ix (zOK_l hz (by decide) (by decide) rfl) ?_; omega) | decide | omega) only [eX8_isLetter_0, eX8_isLetter_1, eX8_isLetter_3, eX8_isLetter_6, eX8_isLetter_7, eX8_isLetter_9, eX8_isLetter_12, eX8_isLetter_13, eX8_isLetter_16, eX8_isLetter_17, Nat.reduceLT, Nat.reduceLeDiff, Nat.reduceEqDiff, Nat.reduceAdd, Nat.reduceMul, Int.reduceLE, Int.reduceLT, Int.reduceEq, not_false_iff, nlr, Nat.zero_add, Nat.add_zero, e10f, e01f, eq_self, true_and, and_true, false_and, and_false, and_self, decide_true, decide_false, mm_bd_i, mm_bd_v, if_true, if_false, not_true_eq_false, not_false_eq_true, nI_1, Bool.true_eq_false, Bool.false_eq_true, bI_0, n_le0, n_0lt, n_lt0, n_0le, n_eq0, n_eqm, n_eq1, n_le1, n_1lt, n_1le, n_lt1, nn_le, nI_ltI, nI_eq, nI_clamp, nI_add, pk_mul, i_eq0, i_eqm, i_0le, i_le0, i_0lt, i_lt0, i_mle, i_ltm, ii_le, iI_lt, iI_eq, ni_le, ni_lt, ni_eq, in_le, in_lt, in_eq, ni_add, in_add, ni_sub, in_sub, ni_mul, in_mul, iI_add, iI_sub, iI_mul, i_p1, iI_neg, n_neg, h1, h2, bI_t]
theorem cT_digit (d : Nat) (z : mm_Z) (F : Nat → Nat → Value) (I : Nat → Nat → Int32) (L : Nat → Nat → Int64) (c : Nat) (hc : c < 256) : mm_E d mX8_isDigit 0 [.int (nI c)] [] (z, F, I, L) = some (some (.int (bI (isD c))), (z, F, I, L)) := by
  unfold isD
  by_cases h1 : c < 48
  · rw [decide_eq_false (by omega)]
    simp (disch := first | assumption | exact bI_or _ | exact zOK_O hz (by decide) (by decide) rfl | exact zOK_T hz (by decide) (by decide) rfl | (refine ix (zOK_l hz (by decide) (by decide) rfl) ?_; omega) | decide | omega) only [eX8_isDigit_0, eX8_isDigit_1, eX8_isDigit_3, eX8_isDigit_6, eX8_isDigit_7, eX8_isDigit_9, eX8_isDigit_12, eX8_isDigit_13, eX8_isDigit_16, eX8_isDigit_17, Nat.reduceLT, Nat.reduceLeDiff, Nat.reduceEqDiff, Nat.reduceAdd, Nat.reduceMul, Int.reduceLE, Int.reduceLT, Int.reduceEq, not_false_iff, nlr, Nat.zero_add, Nat.add_zero, e10f, e01f, eq_self, true_and, and_true, false_and, and_false, and_self, decide_true, decide_false, mm_bd_i, mm_bd_v, if_true, if_false, not_true_eq_false, not_false_eq_true, nI_1, Bool.true_eq_false, Bool.false_eq_true, bI_0, n_le0, n_0lt, n_lt0, n_0le, n_eq0, n_eqm, n_eq1, n_le1, n_1lt, n_1le, n_lt1, nn_le, nI_ltI, nI_eq, nI_clamp, nI_add, pk_mul, i_eq0, i_eqm, i_0le, i_le0, i_0lt, i_lt0, i_mle, i_ltm, ii_le, iI_lt, iI_eq, ni_le, ni_lt, ni_eq, in_le, in_lt, in_eq, ni_add, in_add, ni_sub, in_sub, ni_mul, in_mul, iI_add, iI_sub, iI_mul, i_p1, iI_neg, n_neg, h1, bI_f]
  · by_cases h2 : 57 < c
    · rw [decide_eq_false (by omega)]
      simp (disch := first | assumption | exact bI_or _ | exact zOK_O hz (by decide) (by decide) rfl | exact zOK_T hz (by decide) (by decide) rfl | (refine ix (zOK_l hz (by decide) (by decide) rfl) ?_; omega) | decide | omega) only [eX8_isDigit_0, eX8_isDigit_1, eX8_isDigit_3, eX8_isDigit_6, eX8_isDigit_7, eX8_isDigit_9, eX8_isDigit_12, eX8_isDigit_13, eX8_isDigit_16, eX8_isDigit_17, Nat.reduceLT, Nat.reduceLeDiff, Nat.reduceEqDiff, Nat.reduceAdd, Nat.reduceMul, Int.reduceLE, Int.reduceLT, Int.reduceEq, not_false_iff, nlr, Nat.zero_add, Nat.add_zero, e10f, e01f, eq_self, true_and, and_true, false_and, and_false, and_self, decide_true, decide_false, mm_bd_i, mm_bd_v, if_true, if_false, not_true_eq_false, not_false_eq_true, nI_1, Bool.true_eq_false, Bool.false_eq_true, bI_0, n_le0, n_0lt, n_lt0, n_0le, n_eq0, n_eqm, n_eq1, n_le1, n_1lt, n_1le, n_lt1, nn_le, nI_ltI, nI_eq, nI_clamp, nI_add, pk_mul, i_eq0, i_eqm, i_0le, i_le0, i_0lt, i_lt0, i_mle, i_ltm, ii_le, iI_lt, iI_eq, ni_le, ni_lt, ni_eq, in_le, in_lt, in_eq, ni_add, in_add, ni_sub, in_sub, ni_mul, in_mul, iI_add, iI_sub, iI_mul, i_p1, iI_neg, n_neg, h1, h2, bI_f]
    · rw [decide_eq_true (by omega)]
      simp (disch := first | assumption | exact bI_or _ | exact zOK_O hz (by decide) (by decide) rfl | exact zOK_T hz (by decide) (by decide) rfl | (refine ix (zOK_l hz (by decide) (by decide) rfl) ?_; omega) | decide | omega) only [eX8_isDigit_0, eX8_isDigit_1, eX8_isDigit_3, eX8_isDigit_6, eX8_isDigit_7, eX8_isDigit_9, eX8_isDigit_12, eX8_isDigit_13, eX8_isDigit_16, eX8_isDigit_17, Nat.reduceLT, Nat.reduceLeDiff, Nat.reduceEqDiff, Nat.reduceAdd, Nat.reduceMul, Int.reduceLE, Int.reduceLT, Int.reduceEq, not_false_iff, nlr, Nat.zero_add, Nat.add_zero, e10f, e01f, eq_self, true_and, and_true, false_and, and_false, and_self, decide_true, decide_false, mm_bd_i, mm_bd_v, if_true, if_false, not_true_eq_false, not_false_eq_true, nI_1, Bool.true_eq_false, Bool.false_eq_true, bI_0, n_le0, n_0lt, n_lt0, n_0le, n_eq0, n_eqm, n_eq1, n_le1, n_1lt, n_1le, n_lt1, nn_le, nI_ltI, nI_eq, nI_clamp, nI_add, pk_mul, i_eq0, i_eqm, i_0le, i_le0, i_0lt, i_lt0, i_mle, i_ltm, ii_le, iI_lt, iI_eq, ni_le, ni_lt, ni_eq, in_le, in_lt, in_eq, ni_add, in_add, ni_sub, in_sub, ni_mul, in_mul, iI_add, iI_sub, iI_mul, i_p1, iI_neg, n_neg, h1, h2, bI_t]
theorem cT_end (d : Nat) (z : mm_Z) (F : Nat → Nat → Value) (I : Nat → Nat → Int32) (L : Nat → Nat → Int64) (k : Nat) (tx : Nat → Nat) (hz : zOK z) (ok : okT k tx) (h : cTx k tx F I) (b : Nat) (hb : b < k) (hk : isL (tx b) = true ∨ isD (tx b) = true) : mm_E (d + 1) mX8_endOfRow 0 [.ref 58, .int (nI b), uu, uu] [] (z, F, I, L) = some (some (.int (nI (tkE k tx b))), (z, F, I, L)) := by
  obtain ⟨h0, h1, h2⟩ := h
  have ok1 := ok.1
  have tb := ok.2 b hb
  have le := fun d' => cT_letter d' z F I L (tx b) tb
  cases e : isL (tx b) with
  | true =>
    have l : ∀ i, i ≤ k → mm_E (d + 1) mX8_endOfRow 12 [.ref 58, .int (nI b), .int (bI true), .int (nI i)] [] (z, F, I, L) = some (some (.int (nI (whl (fun j => isL (tx j)) k i))), (z, F, I, L)) := by
      apply lp
      · rw [eX8_endOfRow_12, whl_e (Nat.le_refl k)]
        simp (disch := first | assumption | exact bI_or _ | exact zOK_O hz (by decide) (by decide) rfl | exact zOK_T hz (by decide) (by decide) rfl | (refine ix (zOK_l hz (by decide) (by decide) rfl) ?_; omega) | decide | omega) only [eX8_endOfRow_13, eX8_endOfRow_14, eX8_endOfRow_17, eX8_endOfRow_20, eX8_endOfRow_21, eX8_endOfRow_24, eX8_endOfRow_25, eX8_endOfRow_28, eX8_endOfRow_29, eX8_endOfRow_30, eX8_endOfRow_33, eX8_endOfRow_36, eX8_endOfRow_39, eX8_endOfRow_40, eX8_endOfRow_43, eX8_endOfRow_44, eX8_endOfRow_45, eX8_endOfRow_48, eX8_endOfRow_51, eX8_endOfRow_54, eX8_endOfRow_57, eX8_endOfRow_58, Nat.reduceLT, Nat.reduceLeDiff, Nat.reduceEqDiff, Nat.reduceAdd, Nat.reduceMul, Int.reduceLE, Int.reduceLT, Int.reduceEq, not_false_iff, nlr, Nat.zero_add, Nat.add_zero, e10f, e01f, eq_self, true_and, and_true, false_and, and_false, and_self, decide_true, decide_false, mm_bd_i, mm_bd_v, if_true, if_false, not_true_eq_false, not_false_eq_true, nI_1, Bool.true_eq_false, Bool.false_eq_true, bI_0, n_le0, n_0lt, n_lt0, n_0le, n_eq0, n_eqm, n_eq1, n_le1, n_1lt, n_1le, n_lt1, nn_le, nI_ltI, nI_eq, nI_clamp, nI_add, pk_mul, i_eq0, i_eqm, i_0le, i_le0, i_0lt, i_lt0, i_mle, i_ltm, ii_le, iI_lt, iI_eq, ni_le, ni_lt, ni_eq, in_le, in_lt, in_eq, ni_add, in_add, ni_sub, in_sub, ni_mul, in_mul, iI_add, iI_sub, iI_mul, i_p1, iI_neg, n_neg, h1]
      · intro i hi ih
        have g := h2 i hi
        have lt := fun d' => cT_letter d' z F I L (tx i) (ok.2 i hi)
        rw [eX8_endOfRow_12]
        cases e2 : isL (tx i) with
        | true =>
          rw [whl_s (p := fun j => isL (tx j)) hi e2, ← ih]
          simp (disch := first | assumption | exact bI_or _ | exact zOK_O hz (by decide) (by decide) rfl | exact zOK_T hz (by decide) (by decide) rfl | (refine ix (zOK_l hz (by decide) (by decide) rfl) ?_; omega) | decide | omega) only [eX8_endOfRow_13, eX8_endOfRow_14, eX8_endOfRow_17, eX8_endOfRow_20, eX8_endOfRow_21, eX8_endOfRow_24, eX8_endOfRow_25, eX8_endOfRow_28, eX8_endOfRow_29, eX8_endOfRow_30, eX8_endOfRow_33, eX8_endOfRow_36, eX8_endOfRow_39, eX8_endOfRow_40, eX8_endOfRow_43, eX8_endOfRow_44, eX8_endOfRow_45, eX8_endOfRow_48, eX8_endOfRow_51, eX8_endOfRow_54, eX8_endOfRow_57, eX8_endOfRow_58, Nat.reduceLT, Nat.reduceLeDiff, Nat.reduceEqDiff, Nat.reduceAdd, Nat.reduceMul, Int.reduceLE, Int.reduceLT, Int.reduceEq, not_false_iff, nlr, Nat.zero_add, Nat.add_zero, e10f, e01f, eq_self, true_and, and_true, false_and, and_false, and_self, decide_true, decide_false, mm_bd_i, mm_bd_v, if_true, if_false, not_true_eq_false, not_false_eq_true, nI_1, Bool.true_eq_false, Bool.false_eq_true, bI_0, n_le0, n_0lt, n_lt0, n_0le, n_eq0, n_eqm, n_eq1, n_le1, n_1lt, n_1le, n_lt1, nn_le, nI_ltI, nI_eq, nI_clamp, nI_add, pk_mul, i_eq0, i_eqm, i_0le, i_le0, i_0lt, i_lt0, i_mle, i_ltm, ii_le, iI_lt, iI_eq, ni_le, ni_lt, ni_eq, in_le, in_lt, in_eq, ni_add, in_add, ni_sub, in_sub, ni_mul, in_mul, iI_add, iI_sub, iI_mul, i_p1, iI_neg, n_neg, h0, h1, hi, g, lt, e2]
        | false =>
          rw [whl_n (p := fun j => isL (tx j)) e2]
          simp (disch := first | assumption | exact bI_or _ | exact zOK_O hz (by decide) (by decide) rfl | exact zOK_T hz (by decide) (by decide) rfl | (refine ix (zOK_l hz (by decide) (by decide) rfl) ?_; omega) | decide | omega) only [eX8_endOfRow_13, eX8_endOfRow_14, eX8_endOfRow_17, eX8_endOfRow_20, eX8_endOfRow_21, eX8_endOfRow_24, eX8_endOfRow_25, eX8_endOfRow_28, eX8_endOfRow_29, eX8_endOfRow_30, eX8_endOfRow_33, eX8_endOfRow_36, eX8_endOfRow_39, eX8_endOfRow_40, eX8_endOfRow_43, eX8_endOfRow_44, eX8_endOfRow_45, eX8_endOfRow_48, eX8_endOfRow_51, eX8_endOfRow_54, eX8_endOfRow_57, eX8_endOfRow_58, Nat.reduceLT, Nat.reduceLeDiff, Nat.reduceEqDiff, Nat.reduceAdd, Nat.reduceMul, Int.reduceLE, Int.reduceLT, Int.reduceEq, not_false_iff, nlr, Nat.zero_add, Nat.add_zero, e10f, e01f, eq_self, true_and, and_true, false_and, and_false, and_self, decide_true, decide_false, mm_bd_i, mm_bd_v, if_true, if_false, not_true_eq_false, not_false_eq_true, nI_1, Bool.true_eq_false, Bool.false_eq_true, bI_0, n_le0, n_0lt, n_lt0, n_0le, n_eq0, n_eqm, n_eq1, n_le1, n_1lt, n_1le, n_lt1, nn_le, nI_ltI, nI_eq, nI_clamp, nI_add, pk_mul, i_eq0, i_eqm, i_0le, i_le0, i_0lt, i_lt0, i_mle, i_ltm, ii_le, iI_lt, iI_eq, ni_le, ni_lt, ni_eq, in_le, in_lt, in_eq, ni_add, in_add, ni_sub, in_sub, ni_mul, in_mul, iI_add, iI_sub, iI_mul, i_p1, iI_neg, n_neg, h0, h1, hi, g, lt, e2]
    have t : tkE k tx b = whl (fun j => isL (tx j)) k b := by unfold tkE; rw [if_pos hb, if_pos e]
    rw [t, ← l b (by omega)]
    simp (disch := first | assumption | exact bI_or _ | exact zOK_O hz (by decide) (by decide) rfl | exact zOK_T hz (by decide) (by decide) rfl | (refine ix (zOK_l hz (by decide) (by decide) rfl) ?_; omega) | decide | omega) only [eX8_endOfRow_0, eX8_endOfRow_1, eX8_endOfRow_4, eX8_endOfRow_5, eX8_endOfRow_6, eX8_endOfRow_9, eX8_endOfRow_10, eX8_endOfRow_11, Nat.reduceLT, Nat.reduceLeDiff, Nat.reduceEqDiff, Nat.reduceAdd, Nat.reduceMul, Int.reduceLE, Int.reduceLT, Int.reduceEq, not_false_iff, nlr, Nat.zero_add, Nat.add_zero, e10f, e01f, eq_self, true_and, and_true, false_and, and_false, and_self, decide_true, decide_false, mm_bd_i, mm_bd_v, if_true, if_false, not_true_eq_false, not_false_eq_true, nI_1, Bool.true_eq_false, Bool.false_eq_true, bI_0, n_le0, n_0lt, n_lt0, n_0le, n_eq0, n_eqm, n_eq1, n_le1, n_1lt, n_1le, n_lt1, nn_le, nI_ltI, nI_eq, nI_clamp, nI_add, pk_mul, i_eq0, i_eqm, i_0le, i_le0, i_0lt, i_lt0, i_mle, i_ltm, ii_le, iI_lt, iI_eq, ni_le, ni_lt, ni_eq, in_le, in_lt, in_eq, ni_add, in_add, ni_sub, in_sub, ni_mul, in_mul, iI_add, iI_sub, iI_mul, i_p1, iI_neg, n_neg, h0, h2 b hb, le, e]
  | false =>
    have e' := hk.resolve_left (by rw [e]; simp)
    have l : ∀ i, i ≤ k → mm_E (d + 1) mX8_endOfRow 12 [.ref 58, .int (nI b), .int (bI false), .int (nI i)] [] (z, F, I, L) = some (some (.int (nI (whl (fun j => isD (tx j)) k i))), (z, F, I, L)) := by
      apply lp
      · rw [eX8_endOfRow_12, whl_e (Nat.le_refl k)]
        simp (disch := first | assumption | exact bI_or _ | exact zOK_O hz (by decide) (by decide) rfl | exact zOK_T hz (by decide) (by decide) rfl | (refine ix (zOK_l hz (by decide) (by decide) rfl) ?_; omega) | decide | omega) only [eX8_endOfRow_13, eX8_endOfRow_14, eX8_endOfRow_17, eX8_endOfRow_20, eX8_endOfRow_21, eX8_endOfRow_24, eX8_endOfRow_25, eX8_endOfRow_28, eX8_endOfRow_29, eX8_endOfRow_30, eX8_endOfRow_33, eX8_endOfRow_36, eX8_endOfRow_39, eX8_endOfRow_40, eX8_endOfRow_43, eX8_endOfRow_44, eX8_endOfRow_45, eX8_endOfRow_48, eX8_endOfRow_51, eX8_endOfRow_54, eX8_endOfRow_57, eX8_endOfRow_58, Nat.reduceLT, Nat.reduceLeDiff, Nat.reduceEqDiff, Nat.reduceAdd, Nat.reduceMul, Int.reduceLE, Int.reduceLT, Int.reduceEq, not_false_iff, nlr, Nat.zero_add, Nat.add_zero, e10f, e01f, eq_self, true_and, and_true, false_and, and_false, and_self, decide_true, decide_false, mm_bd_i, mm_bd_v, if_true, if_false, not_true_eq_false, not_false_eq_true, nI_1, Bool.true_eq_false, Bool.false_eq_true, bI_0, n_le0, n_0lt, n_lt0, n_0le, n_eq0, n_eqm, n_eq1, n_le1, n_1lt, n_1le, n_lt1, nn_le, nI_ltI, nI_eq, nI_clamp, nI_add, pk_mul, i_eq0, i_eqm, i_0le, i_le0, i_0lt, i_lt0, i_mle, i_ltm, ii_le, iI_lt, iI_eq, ni_le, ni_lt, ni_eq, in_le, in_lt, in_eq, ni_add, in_add, ni_sub, in_sub, ni_mul, in_mul, iI_add, iI_sub, iI_mul, i_p1, iI_neg, n_neg, h1]
      · intro i hi ih
        have g := h2 i hi
        have lt := fun d' => cT_digit d' z F I L (tx i) (ok.2 i hi)
        rw [eX8_endOfRow_12]
        cases e2 : isD (tx i) with
        | true =>
          rw [whl_s (p := fun j => isD (tx j)) hi e2, ← ih]
          simp (disch := first | assumption | exact bI_or _ | exact zOK_O hz (by decide) (by decide) rfl | exact zOK_T hz (by decide) (by decide) rfl | (refine ix (zOK_l hz (by decide) (by decide) rfl) ?_; omega) | decide | omega) only [eX8_endOfRow_13, eX8_endOfRow_14, eX8_endOfRow_17, eX8_endOfRow_20, eX8_endOfRow_21, eX8_endOfRow_24, eX8_endOfRow_25, eX8_endOfRow_28, eX8_endOfRow_29, eX8_endOfRow_30, eX8_endOfRow_33, eX8_endOfRow_36, eX8_endOfRow_39, eX8_endOfRow_40, eX8_endOfRow_43, eX8_endOfRow_44, eX8_endOfRow_45, eX8_endOfRow_48, eX8_endOfRow_51, eX8_endOfRow_54, eX8_endOfRow_57, eX8_endOfRow_58, Nat.reduceLT, Nat.reduceLeDiff, Nat.reduceEqDiff, Nat.reduceAdd, Nat.reduceMul, Int.reduceLE, Int.reduceLT, Int.reduceEq, not_false_iff, nlr, Nat.zero_add, Nat.add_zero, e10f, e01f, eq_self, true_and, and_true, false_and, and_false, and_self, decide_true, decide_false, mm_bd_i, mm_bd_v, if_true, if_false, not_true_eq_false, not_false_eq_true, nI_1, Bool.true_eq_false, Bool.false_eq_true, bI_0, n_le0, n_0lt, n_lt0, n_0le, n_eq0, n_eqm, n_eq1, n_le1, n_1lt, n_1le, n_lt1, nn_le, nI_ltI, nI_eq, nI_clamp, nI_add, pk_mul, i_eq0, i_eqm, i_0le, i_le0, i_0lt, i_lt0, i_mle, i_ltm, ii_le, iI_lt, iI_eq, ni_le, ni_lt, ni_eq, in_le, in_lt, in_eq, ni_add, in_add, ni_sub, in_sub, ni_mul, in_mul, iI_add, iI_sub, iI_mul, i_p1, iI_neg, n_neg, h0, h1, hi, g, lt, e2]
        | false =>
          rw [whl_n (p := fun j => isD (tx j)) e2]
          simp (disch := first | assumption | exact bI_or _ | exact zOK_O hz (by decide) (by decide) rfl | exact zOK_T hz (by decide) (by decide) rfl | (refine ix (zOK_l hz (by decide) (by decide) rfl) ?_; omega) | decide | omega) only [eX8_endOfRow_13, eX8_endOfRow_14, eX8_endOfRow_17, eX8_endOfRow_20, eX8_endOfRow_21, eX8_endOfRow_24, eX8_endOfRow_25, eX8_endOfRow_28, eX8_endOfRow_29, eX8_endOfRow_30, eX8_endOfRow_33, eX8_endOfRow_36, eX8_endOfRow_39, eX8_endOfRow_40, eX8_endOfRow_43, eX8_endOfRow_44, eX8_endOfRow_45, eX8_endOfRow_48, eX8_endOfRow_51, eX8_endOfRow_54, eX8_endOfRow_57, eX8_endOfRow_58, Nat.reduceLT, Nat.reduceLeDiff, Nat.reduceEqDiff, Nat.reduceAdd, Nat.reduceMul, Int.reduceLE, Int.reduceLT, Int.reduceEq, not_false_iff, nlr, Nat.zero_add, Nat.add_zero, e10f, e01f, eq_self, true_and, and_true, false_and, and_false, and_self, decide_true, decide_false, mm_bd_i, mm_bd_v, if_true, if_false, not_true_eq_false, not_false_eq_true, nI_1, Bool.true_eq_false, Bool.false_eq_true, bI_0, n_le0, n_0lt, n_lt0, n_0le, n_eq0, n_eqm, n_eq1, n_le1, n_1lt, n_1le, n_lt1, nn_le, nI_ltI, nI_eq, nI_clamp, nI_add, pk_mul, i_eq0, i_eqm, i_0le, i_le0, i_0lt, i_lt0, i_mle, i_ltm, ii_le, iI_lt, iI_eq, ni_le, ni_lt, ni_eq, in_le, in_lt, in_eq, ni_add, in_add, ni_sub, in_sub, ni_mul, in_mul, iI_add, iI_sub, iI_mul, i_p1, iI_neg, n_neg, h0, h1, hi, g, lt, e2]
    have t : tkE k tx b = whl (fun j => isD (tx j)) k b := by unfold tkE; rw [if_pos hb, if_neg (by rw [e]; simp), if_pos e']
    rw [t, ← l b (by omega)]
    simp (disch := first | assumption | exact bI_or _ | exact zOK_O hz (by decide) (by decide) rfl | exact zOK_T hz (by decide) (by decide) rfl | (refine ix (zOK_l hz (by decide) (by decide) rfl) ?_; omega) | decide | omega) only [eX8_endOfRow_0, eX8_endOfRow_1, eX8_endOfRow_4, eX8_endOfRow_5, eX8_endOfRow_6, eX8_endOfRow_9, eX8_endOfRow_10, eX8_endOfRow_11, Nat.reduceLT, Nat.reduceLeDiff, Nat.reduceEqDiff, Nat.reduceAdd, Nat.reduceMul, Int.reduceLE, Int.reduceLT, Int.reduceEq, not_false_iff, nlr, Nat.zero_add, Nat.add_zero, e10f, e01f, eq_self, true_and, and_true, false_and, and_false, and_self, decide_true, decide_false, mm_bd_i, mm_bd_v, if_true, if_false, not_true_eq_false, not_false_eq_true, nI_1, Bool.true_eq_false, Bool.false_eq_true, bI_0, n_le0, n_0lt, n_lt0, n_0le, n_eq0, n_eqm, n_eq1, n_le1, n_1lt, n_1le, n_lt1, nn_le, nI_ltI, nI_eq, nI_clamp, nI_add, pk_mul, i_eq0, i_eqm, i_0le, i_le0, i_0lt, i_lt0, i_mle, i_ltm, ii_le, iI_lt, iI_eq, ni_le, ni_lt, ni_eq, in_le, in_lt, in_eq, ni_add, in_add, ni_sub, in_sub, ni_mul, in_mul, iI_add, iI_sub, iI_mul, i_p1, iI_neg, n_neg, h0, h2 b hb, le, e]
def tkF (k : Nat) (tx : Nat → Nat) (F : Nat → Nat → Value) (i : Nat) : Nat → Nat → Value := mm_up2 (mm_up2 F 58 2 (.int (nI (tkB k tx i)))) 58 3 (.int (nI (tkE k tx (tkB k tx i))))
theorem cT_next (d : Nat) (z : mm_Z) (F : Nat → Nat → Value) (I : Nat → Nat → Int32) (L : Nat → Nat → Int64) (k : Nat) (tx : Nat → Nat) (hz : zOK z) (ok : okT k tx) (h : cTx k tx F I) (i : Nat) (hi : i ≤ k) (h3 : F 58 3 = .int (nI i)) : mm_E (d + 2) mX8_nextToken 0 [.ref 58, uu] [] (z, F, I, L) = some (none, (z, tkF k tx F i, I, L)) := by
  have h' := h
  obtain ⟨h0, h1, h2⟩ := h
  have ok1 := ok.1
  have l : ∀ i, i ≤ k → mm_E (d + 2) mX8_nextToken 5 [.ref 58, .int (nI i)] [] (z, F, I, L) = mm_E (d + 2) mX8_nextToken 30 [.ref 58, .int (nI (tkB k tx i))] [] (z, F, I, L) := by
    apply lp
    · rw [eX8_nextToken_5, tkB, whl_e (Nat.le_refl k)]
      simp (disch := first | assumption | exact bI_or _ | exact zOK_O hz (by decide) (by decide) rfl | exact zOK_T hz (by decide) (by decide) rfl | (refine ix (zOK_l hz (by decide) (by decide) rfl) ?_; omega) | decide | omega) only [eX8_nextToken_6, eX8_nextToken_7, eX8_nextToken_10, eX8_nextToken_13, eX8_nextToken_14, eX8_nextToken_17, eX8_nextToken_18, eX8_nextToken_19, eX8_nextToken_21, eX8_nextToken_24, eX8_nextToken_27, Nat.reduceLT, Nat.reduceLeDiff, Nat.reduceEqDiff, Nat.reduceAdd, Nat.reduceMul, Int.reduceLE, Int.reduceLT, Int.reduceEq, not_false_iff, nlr, Nat.zero_add, Nat.add_zero, e10f, e01f, eq_self, true_and, and_true, false_and, and_false, and_self, decide_true, decide_false, mm_bd_i, mm_bd_v, if_true, if_false, not_true_eq_false, not_false_eq_true, nI_1, Bool.true_eq_false, Bool.false_eq_true, bI_0, n_le0, n_0lt, n_lt0, n_0le, n_eq0, n_eqm, n_eq1, n_le1, n_1lt, n_1le, n_lt1, nn_le, nI_ltI, nI_eq, nI_clamp, nI_add, pk_mul, i_eq0, i_eqm, i_0le, i_le0, i_0lt, i_lt0, i_mle, i_ltm, ii_le, iI_lt, iI_eq, ni_le, ni_lt, ni_eq, in_le, in_lt, in_eq, ni_add, in_add, ni_sub, in_sub, ni_mul, in_mul, iI_add, iI_sub, iI_mul, i_p1, iI_neg, n_neg, h1]
    · intro i hi ih
      have g := h2 i hi
      have g6 := ok.2 i hi
      rw [eX8_nextToken_5]
      by_cases e : tx i = 32
      · rw [tkB, whl_s (p := fun j => decide (tx j = 32)) hi (decide_eq_true e)]
        rw [tkB] at ih
        rw [← ih]
        simp (disch := first | assumption | exact bI_or _ | exact zOK_O hz (by decide) (by decide) rfl | exact zOK_T hz (by decide) (by decide) rfl | (refine ix (zOK_l hz (by decide) (by decide) rfl) ?_; omega) | decide | omega) only [eX8_nextToken_6, eX8_nextToken_7, eX8_nextToken_10, eX8_nextToken_13, eX8_nextToken_14, eX8_nextToken_17, eX8_nextToken_18, eX8_nextToken_19, eX8_nextToken_21, eX8_nextToken_24, eX8_nextToken_27, Nat.reduceLT, Nat.reduceLeDiff, Nat.reduceEqDiff, Nat.reduceAdd, Nat.reduceMul, Int.reduceLE, Int.reduceLT, Int.reduceEq, not_false_iff, nlr, Nat.zero_add, Nat.add_zero, e10f, e01f, eq_self, true_and, and_true, false_and, and_false, and_self, decide_true, decide_false, mm_bd_i, mm_bd_v, if_true, if_false, not_true_eq_false, not_false_eq_true, nI_1, Bool.true_eq_false, Bool.false_eq_true, bI_0, n_le0, n_0lt, n_lt0, n_0le, n_eq0, n_eqm, n_eq1, n_le1, n_1lt, n_1le, n_lt1, nn_le, nI_ltI, nI_eq, nI_clamp, nI_add, pk_mul, i_eq0, i_eqm, i_0le, i_le0, i_0lt, i_lt0, i_mle, i_ltm, ii_le, iI_lt, iI_eq, ni_le, ni_lt, ni_eq, in_le, in_lt, in_eq, ni_add, in_add, ni_sub, in_sub, ni_mul, in_mul, iI_add, iI_sub, iI_mul, i_p1, iI_neg, n_neg, h0, h1, hi, g, e]
      · rw [tkB, whl_n (p := fun j => decide (tx j = 32)) (decide_eq_false e)]
        simp (disch := first | assumption | exact bI_or _ | exact zOK_O hz (by decide) (by decide) rfl | exact zOK_T hz (by decide) (by decide) rfl | (refine ix (zOK_l hz (by decide) (by decide) rfl) ?_; omega) | decide | omega) only [eX8_nextToken_6, eX8_nextToken_7, eX8_nextToken_10, eX8_nextToken_13, eX8_nextToken_14, eX8_nextToken_17, eX8_nextToken_18, eX8_nextToken_19, eX8_nextToken_21, eX8_nextToken_24, eX8_nextToken_27, Nat.reduceLT, Nat.reduceLeDiff, Nat.reduceEqDiff, Nat.reduceAdd, Nat.reduceMul, Int.reduceLE, Int.reduceLT, Int.reduceEq, not_false_iff, nlr, Nat.zero_add, Nat.add_zero, e10f, e01f, eq_self, true_and, and_true, false_and, and_false, and_self, decide_true, decide_false, mm_bd_i, mm_bd_v, if_true, if_false, not_true_eq_false, not_false_eq_true, nI_1, Bool.true_eq_false, Bool.false_eq_true, bI_0, n_le0, n_0lt, n_lt0, n_0le, n_eq0, n_eqm, n_eq1, n_le1, n_1lt, n_1le, n_lt1, nn_le, nI_ltI, nI_eq, nI_clamp, nI_add, pk_mul, i_eq0, i_eqm, i_0le, i_le0, i_0lt, i_lt0, i_mle, i_ltm, ii_le, iI_lt, iI_eq, ni_le, ni_lt, ni_eq, in_le, in_lt, in_eq, ni_add, in_add, ni_sub, in_sub, ni_mul, in_mul, iI_add, iI_sub, iI_mul, i_p1, iI_neg, n_neg, h0, h1, hi, g, e]
  have st : mm_E (d + 2) mX8_nextToken 0 [.ref 58, uu] [] (z, F, I, L) = mm_E (d + 2) mX8_nextToken 30 [.ref 58, .int (nI (tkB k tx i))] [] (z, F, I, L) := by
    rw [← l i hi]
    simp (disch := first | assumption | exact bI_or _ | exact zOK_O hz (by decide) (by decide) rfl | exact zOK_T hz (by decide) (by decide) rfl | (refine ix (zOK_l hz (by decide) (by decide) rfl) ?_; omega) | decide | omega) only [eX8_nextToken_0, eX8_nextToken_1, eX8_nextToken_4, Nat.reduceLT, Nat.reduceLeDiff, Nat.reduceEqDiff, Nat.reduceAdd, Nat.reduceMul, Int.reduceLE, Int.reduceLT, Int.reduceEq, not_false_iff, nlr, Nat.zero_add, Nat.add_zero, e10f, e01f, eq_self, true_and, and_true, false_and, and_false, and_self, decide_true, decide_false, mm_bd_i, mm_bd_v, if_true, if_false, not_true_eq_false, not_false_eq_true, nI_1, Bool.true_eq_false, Bool.false_eq_true, bI_0, n_le0, n_0lt, n_lt0, n_0le, n_eq0, n_eqm, n_eq1, n_le1, n_1lt, n_1le, n_lt1, nn_le, nI_ltI, nI_eq, nI_clamp, nI_add, pk_mul, i_eq0, i_eqm, i_0le, i_le0, i_0lt, i_lt0, i_mle, i_ltm, ii_le, iI_lt, iI_eq, ni_le, ni_lt, ni_eq, in_le, in_lt, in_eq, ni_add, in_add, ni_sub, in_sub, ni_mul, in_mul, iI_add, iI_sub, iI_mul, i_p1, iI_neg, n_neg, h3]
  have bb := tkB_b k tx hi
  rw [st]
  unfold tkF
  let F2 := mm_up2 F 58 2 (.int (nI (tkB k tx i)))
  have h2' : cTx k tx F2 I := by
    refine ⟨?_, ?_, h2⟩
    · show mm_up2 _ _ _ _ _ _ = _; rw [up_k _ _ _ _ (by decide)]; exact h0
    · show mm_up2 _ _ _ _ _ _ = _; rw [up_k _ _ _ _ (by decide)]; exact h1
  by_cases c : tkB k tx i < k
  · have g := h2 _ c
    have g6 := ok.2 _ c
    have le := fun d' => cT_letter d' z F2 I L (tx (tkB k tx i)) g6
    have di := fun d' => cT_digit d' z F2 I L (tx (tkB k tx i)) g6
    have en := fun d' hk => cT_end d' z F2 I L k tx hz ok h2' (tkB k tx i) c hk
    cases e : isL (tx (tkB k tx i)) with
    | true =>
      have en' := fun d' => en d' (Or.inl e)
      simp only [F2] at le di en'
      simp (disch := first | assumption | exact bI_or _ | exact zOK_O hz (by decide) (by decide) rfl | exact zOK_T hz (by decide) (by decide) rfl | (refine ix (zOK_l hz (by decide) (by decide) rfl) ?_; omega) | decide | omega) only [eX8_nextToken_30, eX8_nextToken_31, eX8_nextToken_32, eX8_nextToken_35, eX8_nextToken_36, eX8_nextToken_37, eX8_nextToken_40, eX8_nextToken_43, eX8_nextToken_44, eX8_nextToken_47, eX8_nextToken_48, eX8_nextToken_49, eX8_nextToken_52, eX8_nextToken_55, eX8_nextToken_56, eX8_nextToken_59, eX8_nextToken_60, eX8_nextToken_61, eX8_nextToken_64, eX8_nextToken_67, eX8_nextToken_68, eX8_nextToken_69, eX8_nextToken_72, eX8_nextToken_75, eX8_nextToken_76, eX8_nextToken_77, eX8_nextToken_78, eX8_nextToken_79, eX8_nextToken_80, eX8_nextToken_81, eX8_nextToken_84, Nat.reduceLT, Nat.reduceLeDiff, Nat.reduceEqDiff, Nat.reduceAdd, Nat.reduceMul, Int.reduceLE, Int.reduceLT, Int.reduceEq, not_false_iff, nlr, Nat.zero_add, Nat.add_zero, e10f, e01f, eq_self, true_and, and_true, false_and, and_false, and_self, decide_true, decide_false, mm_bd_i, mm_bd_v, if_true, if_false, not_true_eq_false, not_false_eq_true, nI_1, Bool.true_eq_false, Bool.false_eq_true, bI_0, n_le0, n_0lt, n_lt0, n_0le, n_eq0, n_eqm, n_eq1, n_le1, n_1lt, n_1le, n_lt1, nn_le, nI_ltI, nI_eq, nI_clamp, nI_add, pk_mul, i_eq0, i_eqm, i_0le, i_le0, i_0lt, i_lt0, i_mle, i_ltm, ii_le, iI_lt, iI_eq, ni_le, ni_lt, ni_eq, in_le, in_lt, in_eq, ni_add, in_add, ni_sub, in_sub, ni_mul, in_mul, iI_add, iI_sub, iI_mul, i_p1, iI_neg, n_neg, h0, h1, up_k, c, g, le, e, en']
    | false =>
      cases e2 : isD (tx (tkB k tx i)) with
      | true =>
        have en' := fun d' => en d' (Or.inr e2)
        simp only [F2] at le di en'
        simp (disch := first | assumption | exact bI_or _ | exact zOK_O hz (by decide) (by decide) rfl | exact zOK_T hz (by decide) (by decide) rfl | (refine ix (zOK_l hz (by decide) (by decide) rfl) ?_; omega) | decide | omega) only [eX8_nextToken_30, eX8_nextToken_31, eX8_nextToken_32, eX8_nextToken_35, eX8_nextToken_36, eX8_nextToken_37, eX8_nextToken_40, eX8_nextToken_43, eX8_nextToken_44, eX8_nextToken_47, eX8_nextToken_48, eX8_nextToken_49, eX8_nextToken_52, eX8_nextToken_55, eX8_nextToken_56, eX8_nextToken_59, eX8_nextToken_60, eX8_nextToken_61, eX8_nextToken_64, eX8_nextToken_67, eX8_nextToken_68, eX8_nextToken_69, eX8_nextToken_72, eX8_nextToken_75, eX8_nextToken_76, eX8_nextToken_77, eX8_nextToken_78, eX8_nextToken_79, eX8_nextToken_80, eX8_nextToken_81, eX8_nextToken_84, Nat.reduceLT, Nat.reduceLeDiff, Nat.reduceEqDiff, Nat.reduceAdd, Nat.reduceMul, Int.reduceLE, Int.reduceLT, Int.reduceEq, not_false_iff, nlr, Nat.zero_add, Nat.add_zero, e10f, e01f, eq_self, true_and, and_true, false_and, and_false, and_self, decide_true, decide_false, mm_bd_i, mm_bd_v, if_true, if_false, not_true_eq_false, not_false_eq_true, nI_1, Bool.true_eq_false, Bool.false_eq_true, bI_0, n_le0, n_0lt, n_lt0, n_0le, n_eq0, n_eqm, n_eq1, n_le1, n_1lt, n_1le, n_lt1, nn_le, nI_ltI, nI_eq, nI_clamp, nI_add, pk_mul, i_eq0, i_eqm, i_0le, i_le0, i_0lt, i_lt0, i_mle, i_ltm, ii_le, iI_lt, iI_eq, ni_le, ni_lt, ni_eq, in_le, in_lt, in_eq, ni_add, in_add, ni_sub, in_sub, ni_mul, in_mul, iI_add, iI_sub, iI_mul, i_p1, iI_neg, n_neg, h0, h1, up_k, c, g, le, di, e, e2, en']
      | false =>
        have t : tkE k tx (tkB k tx i) = tkB k tx i + 1 := by unfold tkE; rw [if_pos c, if_neg (by rw [e]; simp), if_neg (by rw [e2]; simp)]
        simp only [F2] at le di
        simp (disch := first | assumption | exact bI_or _ | exact zOK_O hz (by decide) (by decide) rfl | exact zOK_T hz (by decide) (by decide) rfl | (refine ix (zOK_l hz (by decide) (by decide) rfl) ?_; omega) | decide | omega) only [eX8_nextToken_30, eX8_nextToken_31, eX8_nextToken_32, eX8_nextToken_35, eX8_nextToken_36, eX8_nextToken_37, eX8_nextToken_40, eX8_nextToken_43, eX8_nextToken_44, eX8_nextToken_47, eX8_nextToken_48, eX8_nextToken_49, eX8_nextToken_52, eX8_nextToken_55, eX8_nextToken_56, eX8_nextToken_59, eX8_nextToken_60, eX8_nextToken_61, eX8_nextToken_64, eX8_nextToken_67, eX8_nextToken_68, eX8_nextToken_69, eX8_nextToken_72, eX8_nextToken_75, eX8_nextToken_76, eX8_nextToken_77, eX8_nextToken_78, eX8_nextToken_79, eX8_nextToken_80, eX8_nextToken_81, eX8_nextToken_84, Nat.reduceLT, Nat.reduceLeDiff, Nat.reduceEqDiff, Nat.reduceAdd, Nat.reduceMul, Int.reduceLE, Int.reduceLT, Int.reduceEq, not_false_iff, nlr, Nat.zero_add, Nat.add_zero, e10f, e01f, eq_self, true_and, and_true, false_and, and_false, and_self, decide_true, decide_false, mm_bd_i, mm_bd_v, if_true, if_false, not_true_eq_false, not_false_eq_true, nI_1, Bool.true_eq_false, Bool.false_eq_true, bI_0, n_le0, n_0lt, n_lt0, n_0le, n_eq0, n_eqm, n_eq1, n_le1, n_1lt, n_1le, n_lt1, nn_le, nI_ltI, nI_eq, nI_clamp, nI_add, pk_mul, i_eq0, i_eqm, i_0le, i_le0, i_0lt, i_lt0, i_mle, i_ltm, ii_le, iI_lt, iI_eq, ni_le, ni_lt, ni_eq, in_le, in_lt, in_eq, ni_add, in_add, ni_sub, in_sub, ni_mul, in_mul, iI_add, iI_sub, iI_mul, i_p1, iI_neg, n_neg, h0, h1, up_k, c, g, le, di, e, e2, t]
  · have t : tkE k tx (tkB k tx i) = tkB k tx i := by unfold tkE; rw [if_neg c]
    simp (disch := first | assumption | exact bI_or _ | exact zOK_O hz (by decide) (by decide) rfl | exact zOK_T hz (by decide) (by decide) rfl | (refine ix (zOK_l hz (by decide) (by decide) rfl) ?_; omega) | decide | omega) only [eX8_nextToken_30, eX8_nextToken_31, eX8_nextToken_32, eX8_nextToken_35, eX8_nextToken_36, eX8_nextToken_37, eX8_nextToken_40, eX8_nextToken_43, eX8_nextToken_44, eX8_nextToken_47, eX8_nextToken_48, eX8_nextToken_49, eX8_nextToken_52, eX8_nextToken_55, eX8_nextToken_56, eX8_nextToken_59, eX8_nextToken_60, eX8_nextToken_61, eX8_nextToken_64, eX8_nextToken_67, eX8_nextToken_68, eX8_nextToken_69, eX8_nextToken_72, eX8_nextToken_75, eX8_nextToken_76, eX8_nextToken_77, eX8_nextToken_78, eX8_nextToken_79, eX8_nextToken_80, eX8_nextToken_81, eX8_nextToken_84, Nat.reduceLT, Nat.reduceLeDiff, Nat.reduceEqDiff, Nat.reduceAdd, Nat.reduceMul, Int.reduceLE, Int.reduceLT, Int.reduceEq, not_false_iff, nlr, Nat.zero_add, Nat.add_zero, e10f, e01f, eq_self, true_and, and_true, false_and, and_false, and_self, decide_true, decide_false, mm_bd_i, mm_bd_v, if_true, if_false, not_true_eq_false, not_false_eq_true, nI_1, Bool.true_eq_false, Bool.false_eq_true, bI_0, n_le0, n_0lt, n_lt0, n_0le, n_eq0, n_eqm, n_eq1, n_le1, n_1lt, n_1le, n_lt1, nn_le, nI_ltI, nI_eq, nI_clamp, nI_add, pk_mul, i_eq0, i_eqm, i_0le, i_le0, i_0lt, i_lt0, i_mle, i_ltm, ii_le, iI_lt, iI_eq, ni_le, ni_lt, ni_eq, in_le, in_lt, in_eq, ni_add, in_add, ni_sub, in_sub, ni_mul, in_mul, iI_add, iI_sub, iI_mul, i_p1, iI_neg, n_neg, h0, h1, up_k, c, t]
