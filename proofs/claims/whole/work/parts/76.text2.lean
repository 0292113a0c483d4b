/-! the text: the class's reading of lines -/
def nx (k : Nat) (tx : Nat → Nat) (i : Nat) : Nat := tkE k tx (tkB k tx i)
theorem nx_b (k : Nat) (tx : Nat → Nat) {i : Nat} (h : i ≤ k) : tkB k tx i ≤ nx k tx i ∧ nx k tx i ≤ k := tkE_b k tx (tkB_b k tx h).2
def nmV (k : Nat) (tx : Nat → Nat) (i lo hi : Nat) : Option Nat := if nx k tx i = tkB k tx i + 1 ∧ lo + 48 ≤ tx (tkB k tx i) ∧ tx (tkB k tx i) ≤ hi + 48 then some (tx (tkB k tx i) - 48) else none
def wdN (tx : Nat → Nat) (b n : Nat) : Option Nat := if n = 3 ∧ tx b = 104 ∧ tx (b + 1) = 105 ∧ tx (b + 2) = 116 then some 0 else if n = 5 ∧ tx b = 101 ∧ tx (b + 1) = 109 ∧ tx (b + 2) = 112 ∧ tx (b + 3) = 116 ∧ tx (b + 4) = 121 then some 1 else if n = 4 ∧ tx b = 109 ∧ tx (b + 1) = 97 ∧ tx (b + 2) = 114 ∧ tx (b + 3) = 107 then some 2 else none
def wdI (o : Option Nat) : Int32 := match o with
  | some v => nI v
  | none => -1
theorem wdN_lt {tx : Nat → Nat} {b n v : Nat} (h : wdN tx b n = some v) : v < 3 := by
  unfold wdN at h
  split at h
  · have := Option.some.inj h; omega
  · split at h
    · have := Option.some.inj h; omega
    · split at h
      · have := Option.some.inj h; omega
      · exact absurd h (by simp)
theorem wd_eq (f : Nat → Int32) (tx : Nat → Nat) (b n : Nat) (h : ∀ j, j < n → f (b + j) = nI (tx (b + j)) ∧ tx (b + j) < 256) : mm_wd f b n = wdI (wdN tx b n) := by
  have key : ∀ j c, j < n → c < 256 → (f (b + j) = nI c ↔ tx (b + j) = c) := by
    intro j c hj hc
    have := h j hj
    rw [this.1, nI_eq (by omega) (by omega)]
  have k0 : ∀ c, 0 < n → c < 256 → (f b = nI c ↔ tx b = c) := fun c hn hc => key 0 c hn hc
  have c1 : (n = 3 ∧ f b = 104 ∧ f (b + 1) = 105 ∧ f (b + 2) = 116) ↔ (n = 3 ∧ tx b = 104 ∧ tx (b + 1) = 105 ∧ tx (b + 2) = 116) := by
    constructor
    · intro ⟨e, a1, a2, a3⟩
      exact ⟨e, (k0 104 (by omega) (by omega)).mp a1, (key 1 105 (by omega) (by omega)).mp a2, (key 2 116 (by omega) (by omega)).mp a3⟩
    · intro ⟨e, a1, a2, a3⟩
      exact ⟨e, (k0 104 (by omega) (by omega)).mpr a1, (key 1 105 (by omega) (by omega)).mpr a2, (key 2 116 (by omega) (by omega)).mpr a3⟩
  have c2 : (n = 5 ∧ f b = 101 ∧ f (b + 1) = 109 ∧ f (b + 2) = 112 ∧ f (b + 3) = 116 ∧ f (b + 4) = 121) ↔ (n = 5 ∧ tx b = 101 ∧ tx (b + 1) = 109 ∧ tx (b + 2) = 112 ∧ tx (b + 3) = 116 ∧ tx (b + 4) = 121) := by
    constructor
    · intro ⟨e, a1, a2, a3, a4, a5⟩
      exact ⟨e, (k0 101 (by omega) (by omega)).mp a1, (key 1 109 (by omega) (by omega)).mp a2, (key 2 112 (by omega) (by omega)).mp a3, (key 3 116 (by omega) (by omega)).mp a4, (key 4 121 (by omega) (by omega)).mp a5⟩
    · intro ⟨e, a1, a2, a3, a4, a5⟩
      exact ⟨e, (k0 101 (by omega) (by omega)).mpr a1, (key 1 109 (by omega) (by omega)).mpr a2, (key 2 112 (by omega) (by omega)).mpr a3, (key 3 116 (by omega) (by omega)).mpr a4, (key 4 121 (by omega) (by omega)).mpr a5⟩
  have c3 : (n = 4 ∧ f b = 109 ∧ f (b + 1) = 97 ∧ f (b + 2) = 114 ∧ f (b + 3) = 107) ↔ (n = 4 ∧ tx b = 109 ∧ tx (b + 1) = 97 ∧ tx (b + 2) = 114 ∧ tx (b + 3) = 107) := by
    constructor
    · intro ⟨e, a1, a2, a3, a4⟩
      exact ⟨e, (k0 109 (by omega) (by omega)).mp a1, (key 1 97 (by omega) (by omega)).mp a2, (key 2 114 (by omega) (by omega)).mp a3, (key 3 107 (by omega) (by omega)).mp a4⟩
    · intro ⟨e, a1, a2, a3, a4⟩
      exact ⟨e, (k0 109 (by omega) (by omega)).mpr a1, (key 1 97 (by omega) (by omega)).mpr a2, (key 2 114 (by omega) (by omega)).mpr a3, (key 3 107 (by omega) (by omega)).mpr a4⟩
  unfold mm_wd wdN
  by_cases e1 : n = 3 ∧ tx b = 104 ∧ tx (b + 1) = 105 ∧ tx (b + 2) = 116
  · rw [if_pos (c1.mpr e1), if_pos e1]; rfl
  · rw [if_neg (fun q => e1 (c1.mp q)), if_neg e1]
    by_cases e2 : n = 5 ∧ tx b = 101 ∧ tx (b + 1) = 109 ∧ tx (b + 2) = 112 ∧ tx (b + 3) = 116 ∧ tx (b + 4) = 121
    · rw [if_pos (c2.mpr e2), if_pos e2]; rfl
    · rw [if_neg (fun q => e2 (c2.mp q)), if_neg e2]
      by_cases e3 : n = 4 ∧ tx b = 109 ∧ tx (b + 1) = 97 ∧ tx (b + 2) = 114 ∧ tx (b + 3) = 107
      · rw [if_pos (c3.mpr e3), if_pos e3]; rfl
      · rw [if_neg (fun q => e3 (c3.mp q)), if_neg e3]; rfl
theorem cT_word (z : mm_Z) (F : Nat → Nat → Value) (I : Nat → Nat → Int32) (L : Nat → Nat → Int64) (k : Nat) (tx : Nat → Nat) (hz : zOK z) (ok : okT k tx) (h : cTx k tx F I) (b e : Nat) (hb : b ≤ e) (he : e ≤ k) (h2 : F 58 2 = .int (nI b)) (h3 : F 58 3 = .int (nI e)) : mm_wk [.ref 58] (z, F, I, L) = some (some (.int (wdI (wdN tx b (e - b)))), (z, F, I, L)) := by
  have ok1 := ok.1
  have z59 := hz.2 59 (by decide) (by decide)
  have z58 := hz.2 58 (by decide) (by decide)
  have z59' : z.2.2 59 = .inr (0, 160) := z59
  have z58' : z.2.2 58 = .inl 8 := z58
  unfold mm_wk
  simp only [h.1, h2, h3, z59', z58', nI_clamp (show b < 2 ^ 31 by omega), nI_clamp (show e < 2 ^ 31 by omega)]
  rw [if_pos ⟨⟨nI_pos' (by omega), nI_le hb (by omega), by omega⟩, ⟨by rw [hz.1]; decide, by decide⟩, ⟨trivial, by rw [hz.1]; decide, by decide⟩⟩]
  rw [wd_eq (I 59) tx b (e - b) (fun j hj => ⟨h.2.2 _ (by omega), ok.2 _ (by omega)⟩)]
theorem cTx_tkF (k : Nat) (tx : Nat → Nat) {F : Nat → Nat → Value} {I : Nat → Nat → Int32} (h : cTx k tx F I) (i : Nat) : cTx k tx (tkF k tx F i) I ∧ tkF k tx F i 58 2 = .int (nI (tkB k tx i)) ∧ tkF k tx F i 58 3 = .int (nI (nx k tx i)) := by
  unfold tkF
  refine ⟨⟨?_, ?_, h.2.2⟩, ?_, up_s _ _ _ _⟩
  · rw [up_k _ _ _ _ (by decide), up_k _ _ _ _ (by decide)]; exact h.1
  · rw [up_k _ _ _ _ (by decide), up_k _ _ _ _ (by decide)]; exact h.2.1
  · rw [up_k _ _ _ _ (by decide), up_s]
theorem tkF_n (k : Nat) (tx : Nat → Nat) (F : Nat → Nat → Value) (i : Nat) {r j : Nat} (hn : ¬ (r = 58 ∧ (j = 2 ∨ j = 3))) : tkF k tx F i r j = F r j := by
  unfold tkF mm_up2
  rw [if_neg (by omega), if_neg (by omega)]
theorem cT_num (d : Nat) (z : mm_Z) (F : Nat → Nat → Value) (I : Nat → Nat → Int32) (L : Nat → Nat → Int64) (k : Nat) (tx : Nat → Nat) (hz : zOK z) (ok : okT k tx) (h : cTx k tx F I) (i : Nat) (hi : i ≤ k) (h3 : F 58 3 = .int (nI i)) (lo hi' : Nat) (hl : lo < 100) (hh : hi' < 100) : mm_E (d + 3) mX8_readNumber 0 [.ref 58, .int (nI lo), .int (nI hi'), uu] [] (z, F, I, L) = some (some (.int (wdI (nmV k tx i lo hi'))), (z, tkF k tx F i, I, L)) := by
  have ne := fun d' => cT_next d' z F I L k tx hz ok h i hi h3
  have bb := tkB_b k tx hi
  have nb := nx_b k tx hi
  have ok1 := ok.1
  obtain ⟨⟨g0, g1, g2⟩, g4, g5⟩ := cTx_tkF k tx h i
  unfold nmV
  have sb : nI (nx k tx i) - nI (tkB k tx i) = nI (nx k tx i - tkB k tx i) := pk_sub nb.1
  by_cases e : nx k tx i = tkB k tx i + 1
  · have e' : nx k tx i - tkB k tx i = 1 := by omega
    have q := g2 (tkB k tx i) (by omega)
    have q6 := ok.2 (tkB k tx i) (by omega)
    by_cases c : lo + 48 ≤ tx (tkB k tx i) ∧ tx (tkB k tx i) ≤ hi' + 48
    · rw [if_pos ⟨e, c⟩]
      have s2 : nI (tx (tkB k tx i)) - nI 48 = nI (tx (tkB k tx i) - 48) := pk_sub (by omega)
      have c' : (lo : Int) ≤ ((tx (tkB k tx i) - 48 : Nat) : Int) ∧ ((tx (tkB k tx i) - 48 : Nat) : Int) ≤ hi' := by omega
      simp (disch := first | assumption | exact bI_or _ | exact zOK_O hz (by decide) (by decide) rfl | exact zOK_T hz (by decide) (by decide) rfl | (refine ix (zOK_l hz (by decide) (by decide) rfl) ?_; omega) | decide | omega) only [eX8_readNumber_0, eX8_readNumber_1, eX8_readNumber_4, eX8_readNumber_5, eX8_readNumber_8, eX8_readNumber_9, eX8_readNumber_12, eX8_readNumber_13, eX8_readNumber_14, eX8_readNumber_17, eX8_readNumber_18, eX8_readNumber_19, eX8_readNumber_20, eX8_readNumber_23, eX8_readNumber_24, eX8_readNumber_27, eX8_readNumber_28, eX8_readNumber_30, eX8_readNumber_31, eX8_readNumber_32, eX8_readNumber_33, eX8_readNumber_34, eX8_readNumber_35, eX8_readNumber_38, eX8_readNumber_41, eX8_readNumber_42, eX8_readNumber_45, eX8_readNumber_46, Nat.reduceLT, Nat.reduceLeDiff, Nat.reduceEqDiff, Nat.reduceAdd, Nat.reduceMul, Int.reduceLE, Int.reduceLT, Int.reduceEq, not_false_iff, nlr, Nat.zero_add, Nat.add_zero, e10f, e01f, eq_self, true_and, and_true, false_and, and_false, and_self, decide_true, decide_false, mm_bd_i, mm_bd_v, if_true, if_false, not_true_eq_false, not_false_eq_true, nI_1, Bool.true_eq_false, Bool.false_eq_true, bI_0, n_le0, n_0lt, n_lt0, n_0le, n_eq0, n_eqm, n_eq1, n_le1, n_1lt, n_1le, n_lt1, nn_le, nI_ltI, nI_eq, nI_clamp, nI_add, pk_mul, i_eq0, i_eqm, i_0le, i_le0, i_0lt, i_lt0, i_mle, i_ltm, ii_le, iI_lt, iI_eq, ni_le, ni_lt, ni_eq, in_le, in_lt, in_eq, ni_add, in_add, ni_sub, in_sub, ni_mul, in_mul, iI_add, iI_sub, iI_mul, i_p1, iI_neg, n_neg, ne, g4, g5, sb, e', g0, q, s2, cX_within, tI0, tI1, tIm1, tIm7, nI_toInt, iI_toInt, Int.cast_ofNat_Int, c']
      rfl
    · rw [if_neg (fun q => c q.2)]
      have c' : ¬ ((lo : Int) ≤ (tx (tkB k tx i) : Int) - 48 ∧ (tx (tkB k tx i) : Int) - 48 ≤ hi') := by omega
      have s2 : nI (tx (tkB k tx i)) - nI 48 = iI ((tx (tkB k tx i) : Int) - 48) := nn_sub _ _
      simp (disch := first | assumption | exact bI_or _ | exact zOK_O hz (by decide) (by decide) rfl | exact zOK_T hz (by decide) (by decide) rfl | (refine ix (zOK_l hz (by decide) (by decide) rfl) ?_; omega) | decide | omega) only [eX8_readNumber_0, eX8_readNumber_1, eX8_readNumber_4, eX8_readNumber_5, eX8_readNumber_8, eX8_readNumber_9, eX8_readNumber_12, eX8_readNumber_13, eX8_readNumber_14, eX8_readNumber_17, eX8_readNumber_18, eX8_readNumber_19, eX8_readNumber_20, eX8_readNumber_23, eX8_readNumber_24, eX8_readNumber_27, eX8_readNumber_28, eX8_readNumber_30, eX8_readNumber_31, eX8_readNumber_32, eX8_readNumber_33, eX8_readNumber_34, eX8_readNumber_35, eX8_readNumber_38, eX8_readNumber_41, eX8_readNumber_42, eX8_readNumber_45, eX8_readNumber_46, Nat.reduceLT, Nat.reduceLeDiff, Nat.reduceEqDiff, Nat.reduceAdd, Nat.reduceMul, Int.reduceLE, Int.reduceLT, Int.reduceEq, not_false_iff, nlr, Nat.zero_add, Nat.add_zero, e10f, e01f, eq_self, true_and, and_true, false_and, and_false, and_self, decide_true, decide_false, mm_bd_i, mm_bd_v, if_true, if_false, not_true_eq_false, not_false_eq_true, nI_1, Bool.true_eq_false, Bool.false_eq_true, bI_0, n_le0, n_0lt, n_lt0, n_0le, n_eq0, n_eqm, n_eq1, n_le1, n_1lt, n_1le, n_lt1, nn_le, nI_ltI, nI_eq, nI_clamp, nI_add, pk_mul, i_eq0, i_eqm, i_0le, i_le0, i_0lt, i_lt0, i_mle, i_ltm, ii_le, iI_lt, iI_eq, ni_le, ni_lt, ni_eq, in_le, in_lt, in_eq, ni_add, in_add, ni_sub, in_sub, ni_mul, in_mul, iI_add, iI_sub, iI_mul, i_p1, iI_neg, n_neg, ne, g4, g5, sb, e', g0, q, s2, cX_within, tI0, tI1, tIm1, tIm7, nI_toInt, iI_toInt, Int.cast_ofNat_Int, c']
      rfl
  · have e' : ¬ nx k tx i - tkB k tx i = 1 := by omega
    rw [if_neg (fun q => e q.1)]
    simp (disch := first | assumption | exact bI_or _ | exact zOK_O hz (by decide) (by decide) rfl | exact zOK_T hz (by decide) (by decide) rfl | (refine ix (zOK_l hz (by decide) (by decide) rfl) ?_; omega) | decide | omega) only [eX8_readNumber_0, eX8_readNumber_1, eX8_readNumber_4, eX8_readNumber_5, eX8_readNumber_8, eX8_readNumber_9, eX8_readNumber_12, eX8_readNumber_13, eX8_readNumber_14, eX8_readNumber_17, eX8_readNumber_18, eX8_readNumber_19, eX8_readNumber_20, eX8_readNumber_23, eX8_readNumber_24, eX8_readNumber_27, eX8_readNumber_28, eX8_readNumber_30, eX8_readNumber_31, eX8_readNumber_32, eX8_readNumber_33, eX8_readNumber_34, eX8_readNumber_35, eX8_readNumber_38, eX8_readNumber_41, eX8_readNumber_42, eX8_readNumber_45, eX8_readNumber_46, Nat.reduceLT, Nat.reduceLeDiff, Nat.reduceEqDiff, Nat.reduceAdd, Nat.reduceMul, Int.reduceLE, Int.reduceLT, Int.reduceEq, not_false_iff, nlr, Nat.zero_add, Nat.add_zero, e10f, e01f, eq_self, true_and, and_true, false_and, and_false, and_self, decide_true, decide_false, mm_bd_i, mm_bd_v, if_true, if_false, not_true_eq_false, not_false_eq_true, nI_1, Bool.true_eq_false, Bool.false_eq_true, bI_0, n_le0, n_0lt, n_lt0, n_0le, n_eq0, n_eqm, n_eq1, n_le1, n_1lt, n_1le, n_lt1, nn_le, nI_ltI, nI_eq, nI_clamp, nI_add, pk_mul, i_eq0, i_eqm, i_0le, i_le0, i_0lt, i_lt0, i_mle, i_ltm, ii_le, iI_lt, iI_eq, ni_le, ni_lt, ni_eq, in_le, in_lt, in_eq, ni_add, in_add, ni_sub, in_sub, ni_mul, in_mul, iI_add, iI_sub, iI_mul, i_p1, iI_neg, n_neg, ne, g4, g5, sb, e']
    rfl
