/-! the class: quarrels of two prints -/
theorem sumT_swap (f : Nat → Nat → Nat) (n : Nat) : ∀ k, sumT (fun m => sumT (fun a => f m a) n) k = sumT (fun a => sumT (fun m => f m a) k) n := by
  intro k
  induction k with
  | zero =>
    symm
    exact sumT_zero n (fun _ _ => rfl)
  | succ k ih =>
    rw [sumT, ih, ← sumT_add]
    exact sumT_congr n (fun j _ => by rw [sumT])
theorem sumT_one (j v : Nat) : ∀ k, sumT (fun m => if m = j then v else 0) k = if j < k then v else 0 := by
  intro k
  induction k with
  | zero => rw [sumT, if_neg (by omega)]
  | succ k ih =>
    rw [sumT, ih]
    by_cases e : k = j
    · subst e; rw [if_neg (by omega), if_pos rfl, if_pos (by omega)]; omega
    · rw [if_neg e]
      by_cases c : j < k
      · rw [if_pos c, if_pos (by omega), Nat.add_zero]
      · rw [if_neg c, if_neg (by omega)]
/-- a print as it is seen: p (0, or the mark and 1) and beams u -/
def pVw (r rm : Nat) (p : Nat → Nat) (u : Nat → Bool) (F : Nat → Nat → Value) (L : Nat → Nat → Int64) : Prop := F r 0 = .ref rm ∧ (∃ dh db sh, F r 1 = .long dh ∧ F r 2 = .long db ∧ F r 7 = .int (nI sh) ∧ (∀ a, a < 64 → lb (dh <<< ((nI sh).toInt64 &&& 63)) a = decide (0 < p a)) ∧ (∀ a, a < 64 → lb (db <<< ((nI sh).toInt64 &&& 63)) a = u a) ∧ ∀ m, m < 10 → ∀ a, a < 64 → lb (L rm m <<< ((nI sh).toInt64 &&& 63)) a = decide (p a = m + 1)) ∧ ∀ a, a < 64 → p a ≤ 10
theorem lH_10 {l : List (Int × Int × Nat)} (ok : okH l) (c t a : Nat) : ∀ k, k ≤ l.length → lH l c t k a ≤ 10 := by
  intro k
  induction k with
  | zero => intro _; unfold lH; omega
  | succ k ih =>
    intro hk
    have := (ok.2 k (by omega)).2.2.1
    rw [lH]
    split
    · omega
    · exact ih (by omega)
theorem pVw_of {r rm c t : Nat} {l : List (Int × Int × Nat)} {F : Nat → Nat → Value} {L : Nat → Nat → Int64} (ok : okH l) (h0 : F r 0 = .ref rm) (h : pLd r rm l c t F L) : pVw r rm (lH l c t l.length) (lB l c t l.length) F L := ⟨h0, h, fun a _ => lH_10 ok c t a l.length (Nat.le_refl _)⟩
theorem lb_not (x : Int64) {i : Nat} (hi : i < 64) : lb (x ^^^ (-1)) i = !lb x i := by rw [lb_xor, lb_m1 i hi]; simp
def alk (p q : Nat → Nat) (k : Nat) : Nat := sumT (fun m => if m = 0 then 0 else cnt (fun a => decide (p a = m + 1) && decide (q a = m + 1))) k
def bth (p q : Nat → Nat) : Nat := cnt (fun a => decide (1 < p a) && decide (1 < q a))
theorem alk_10 {p q : Nat → Nat} (hp : ∀ a, a < 64 → p a ≤ 10) : alk p q 10 = sumT (fun a => if 1 < p a ∧ p a = q a then 1 else 0) 64 := by
  unfold alk
  have e1 : ∀ m, m < 10 → (if m = 0 then 0 else cnt (fun a => decide (p a = m + 1) && decide (q a = m + 1))) = sumT (fun a => if m = p a - 1 then (if 1 < p a ∧ p a = q a then 1 else 0) else 0) 64 := by
    intro m hm
    by_cases c : m = 0
    · subst c
      rw [if_pos rfl]
      symm
      apply sumT_zero
      intro j _
      by_cases q1 : 0 = p j - 1
      · rw [if_pos q1, if_neg (by omega)]
      · rw [if_neg q1]
    · rw [if_neg c]
      unfold cnt
      apply sumT_congr
      intro a ha
      have := hp a ha
      simp only [Bool.and_eq_true, decide_eq_true_eq]
      (repeat' split) <;> omega
  rw [sumT_congr 10 e1, sumT_swap]
  apply sumT_congr
  intro a ha
  have := hp a ha
  rw [sumT_one]
  by_cases c : 1 < p a ∧ p a = q a
  · rw [if_pos (by omega)]
  · rw [if_neg c]; split <;> rfl
theorem bth_q3 {p q : Nat → Nat} (hp : ∀ a, a < 64 → p a ≤ 10) : bth p q = alk p q 10 + sumT (fun a => q3 (p a) (q a)) 64 := by
  rw [alk_10 hp, ← sumT_add]
  unfold bth cnt
  apply sumT_congr
  intro a _
  unfold q3
  simp only [Bool.and_eq_true, decide_eq_true_eq]
  (repeat' split) <;> omega
theorem lb_zero_iff (x : Int64) : x = 0 ↔ cnt (lb x) = 0 := by
  constructor
  · intro h; rw [h]; exact sumT_zero 64 (fun j _ => by rw [lb_0]; rfl)
  · intro h
    apply lb_ext
    intro i hi
    rw [lb_0]
    cases e : lb x i with
    | false => rfl
    | true =>
      exfalso
      have hm := sumT_mono (f := fun m => if m = i then 1 else 0) (g := fun a => if lb x a = true then 1 else 0) 64 (fun j _ => by
        by_cases q : j = i
        · subst q; rw [if_pos rfl, if_pos e]; exact Nat.le_refl _
        · rw [if_neg q]; exact Nat.zero_le _)
      rw [sumT_one, if_pos hi] at hm
      unfold cnt at h
      omega
theorem cP_marks (d : Nat) (z : mm_Z) (F : Nat → Nat → Value) (I : Nat → Nat → Int32) (L : Nat → Nat → Int64) (r rm r' rm' : Nat) (p q : Nat → Nat) (u v : Nat → Bool) (hz : zOK z) (zr : mm_zO z r 5) (zr' : mm_zO z r' 5) (zm : mm_zT z rm 1) (zm' : mm_zT z rm' 1) (zlm : mm_zl z rm = 10) (zlm' : mm_zl z rm' = 10) (h : pVw r rm p u F L) (h' : pVw r' rm' q v F L) : mm_E (d + 2) mX5_markQuarrelsWith 0 [.ref r, .ref r', uu, uu, uu, uu] [] (z, F, I, L) = some (some (.int (nI (sumT (fun a => q3 (p a) (q a)) 64))), (z, F, I, L)) := by
  obtain ⟨h0, ⟨dh, db, sh, h1, h2, h7, hh, hb, hm⟩, hp⟩ := h
  obtain ⟨g0, ⟨eh, eb, tt, g1, g2, g7, gh, gb, gm⟩, hq⟩ := h'
  have v0 : vp_in (0 : Int32) (mm_zl z rm) := vi zlm (i := 0) (by decide) (by decide)
  have v0' : vp_in (0 : Int32) (mm_zl z rm') := vi zlm' (i := 0) (by decide) (by decide)
  have k0 : (0 : Int32).toNatClampNeg = 0 := rfl
  have cb : cnt (lb (dh <<< ((nI sh).toInt64 &&& 63) &&& (L rm 0 <<< ((nI sh).toInt64 &&& 63) ^^^ -1) &&& eh <<< ((nI tt).toInt64 &&& 63) &&& (L rm' 0 <<< ((nI tt).toInt64 &&& 63) ^^^ -1))) = bth p q := by
    apply cnt_congr
    intro a ha
    rw [lb_and, lb_and, lb_and, lb_not _ ha, lb_not _ ha, hh a ha, gh a ha, hm 0 (by decide) a ha, gm 0 (by decide) a ha]
    rw [Bool.eq_iff_iff]
    simp only [Bool.and_eq_true, Bool.not_eq_true', decide_eq_true_eq, decide_eq_false_iff_not]
    omega
  generalize hB : dh <<< ((nI sh).toInt64 &&& 63) &&& (L rm 0 <<< ((nI sh).toInt64 &&& 63) ^^^ -1) &&& eh <<< ((nI tt).toInt64 &&& 63) &&& (L rm' 0 <<< ((nI tt).toInt64 &&& 63) ^^^ -1) = B at *
  have bq := bth_q3 (q := q) hp
  have bl : bth p q ≤ 64 := cnt_le _
  have st : mm_E (d + 2) mX5_markQuarrelsWith 0 [.ref r, .ref r', uu, uu, uu, uu] [] (z, F, I, L) = mm_E (d + 2) mX5_markQuarrelsWith 30 [.ref r, .ref r', .long B, uu, uu, uu] [] (z, F, I, L) := by
    rw [← hB]
    simp (disch := first | assumption | exact bI_or _ | exact zOK_O hz (by decide) (by decide) rfl | exact zOK_T hz (by decide) (by decide) rfl | (refine ix (zOK_l hz (by decide) (by decide) rfl) ?_; omega) | decide | omega) only [eX5_markQuarrelsWith_0, eX5_markQuarrelsWith_1, eX5_markQuarrelsWith_4, eX5_markQuarrelsWith_5, eX5_markQuarrelsWith_6, eX5_markQuarrelsWith_9, eX5_markQuarrelsWith_12, eX5_markQuarrelsWith_13, eX5_markQuarrelsWith_14, eX5_markQuarrelsWith_15, eX5_markQuarrelsWith_18, eX5_markQuarrelsWith_19, eX5_markQuarrelsWith_20, eX5_markQuarrelsWith_21, eX5_markQuarrelsWith_24, eX5_markQuarrelsWith_27, eX5_markQuarrelsWith_28, eX5_markQuarrelsWith_29, eX5_hitCells_0, eX5_hitCells_1, eX5_hitCells_4, eX5_hitCells_5, eX5_hitCells_8, eX5_hitCells_9, eX5_cellsOfMark_0, eX5_cellsOfMark_1, eX5_cellsOfMark_4, eX5_cellsOfMark_5, eX5_cellsOfMark_6, eX5_cellsOfMark_7, eX5_cellsOfMark_10, eX5_cellsOfMark_11, Int.cast_ofNat_Int, Nat.reduceLT, Nat.reduceLeDiff, Nat.reduceEqDiff, Nat.reduceAdd, Nat.reduceMul, Int.reduceLE, Int.reduceLT, Int.reduceEq, not_false_iff, nlr, Nat.zero_add, Nat.add_zero, e10f, e01f, eq_self, true_and, and_true, false_and, and_false, and_self, decide_true, decide_false, mm_bd_i, mm_bd_v, if_true, if_false, not_true_eq_false, not_false_eq_true, nI_1, Bool.true_eq_false, Bool.false_eq_true, bI_0, n_le0, n_0lt, n_lt0, n_0le, n_eq0, n_eqm, n_eq1, n_le1, n_1lt, n_1le, n_lt1, nn_le, nI_ltI, nI_eq, nI_clamp, nI_add, pk_mul, i_eq0, i_eqm, i_0le, i_le0, i_0lt, i_lt0, i_mle, i_ltm, ii_le, iI_lt, iI_eq, ni_le, ni_lt, ni_eq, in_le, in_lt, in_eq, ni_add, in_add, ni_sub, in_sub, ni_mul, in_mul, iI_add, iI_sub, iI_mul, i_p1, iI_neg, n_neg, h0, h1, h7, g0, g1, g7, k0]
  rw [st]
  by_cases c : B = 0
  · have e : sumT (fun a => q3 (p a) (q a)) 64 = 0 := by
      have := (lb_zero_iff B).mp c
      omega
    rw [e]
    simp (disch := first | assumption | exact bI_or _ | exact zOK_O hz (by decide) (by decide) rfl | exact zOK_T hz (by decide) (by decide) rfl | (refine ix (zOK_l hz (by decide) (by decide) rfl) ?_; omega) | decide | omega) only [eX5_markQuarrelsWith_30, eX5_markQuarrelsWith_31, eX5_markQuarrelsWith_32, eX5_markQuarrelsWith_33, eX5_markQuarrelsWith_36, eX5_markQuarrelsWith_37, eX5_markQuarrelsWith_38, eX5_markQuarrelsWith_39, eX5_markQuarrelsWith_41, eX5_markQuarrelsWith_42, eX5_markQuarrelsWith_46, eX5_markQuarrelsWith_48, eX5_markQuarrelsWith_51, eX5_markQuarrelsWith_53, eX5_markQuarrelsWith_54, eX5_markQuarrelsWith_56, eX5_markQuarrelsWith_59, eX5_markQuarrelsWith_60, eX5_markQuarrelsWith_62, eX5_markQuarrelsWith_65, eX5_markQuarrelsWith_66, eX5_markQuarrelsWith_69, eX5_markQuarrelsWith_70, eX5_markQuarrelsWith_72, eX5_markQuarrelsWith_75, eX5_markQuarrelsWith_78, eX5_markQuarrelsWith_79, eX5_markQuarrelsWith_82, eX5_markQuarrelsWith_84, eX5_markQuarrelsWith_85, Int.cast_ofNat_Int, Nat.reduceLT, Nat.reduceLeDiff, Nat.reduceEqDiff, Nat.reduceAdd, Nat.reduceMul, Int.reduceLE, Int.reduceLT, Int.reduceEq, not_false_iff, nlr, Nat.zero_add, Nat.add_zero, e10f, e01f, eq_self, true_and, and_true, false_and, and_false, and_self, decide_true, decide_false, mm_bd_i, mm_bd_v, if_true, if_false, not_true_eq_false, not_false_eq_true, nI_1, Bool.true_eq_false, Bool.false_eq_true, bI_0, n_le0, n_0lt, n_lt0, n_0le, n_eq0, n_eqm, n_eq1, n_le1, n_1lt, n_1le, n_lt1, nn_le, nI_ltI, nI_eq, nI_clamp, nI_add, pk_mul, i_eq0, i_eqm, i_0le, i_le0, i_0lt, i_lt0, i_mle, i_ltm, ii_le, iI_lt, iI_eq, ni_le, ni_lt, ni_eq, in_le, in_lt, in_eq, ni_add, in_add, ni_sub, in_sub, ni_mul, in_mul, iI_add, iI_sub, iI_mul, i_p1, iI_neg, n_neg, lg_cmp_eq, c]
    rfl
  · have al : ∀ i, alk p q i ≤ 64 * i := by
      intro i
      have := sumT_le (fun m => if m = 0 then 0 else cnt (fun a => decide (p a = m + 1) && decide (q a = m + 1))) 64 (fun j => by
        split
        · omega
        · exact cnt_le _) i
      exact this
    have l : ∀ i, i ≤ 10 → 1 ≤ i → mm_E (d + 2) mX5_markQuarrelsWith 44 [.ref r, .ref r', .long B, uu, .int (nI (alk p q i)), .int (nI i)] [] (z, F, I, L) = some (some (.int (nI (sumT (fun a => q3 (p a) (q a)) 64))), (z, F, I, L)) := by
      apply lp
      · intro _
        have bc := fun d' => cJ_bits d' z F I L B
        rw [cb] at bc
        have sb : nI (bth p q) - nI (alk p q 10) = nI (sumT (fun a => q3 (p a) (q a)) 64) := by rw [pk_sub (by omega)]; congr 1; omega
        rw [eX5_markQuarrelsWith_44]
        simp (disch := first | assumption | exact bI_or _ | exact zOK_O hz (by decide) (by decide) rfl | exact zOK_T hz (by decide) (by decide) rfl | (refine ix (zOK_l hz (by decide) (by decide) rfl) ?_; omega) | decide | omega) only [eX5_markQuarrelsWith_46, eX5_markQuarrelsWith_48, eX5_markQuarrelsWith_51, eX5_markQuarrelsWith_53, eX5_markQuarrelsWith_54, eX5_markQuarrelsWith_56, eX5_markQuarrelsWith_59, eX5_markQuarrelsWith_60, eX5_markQuarrelsWith_62, eX5_markQuarrelsWith_65, eX5_markQuarrelsWith_66, eX5_markQuarrelsWith_69, eX5_markQuarrelsWith_70, eX5_markQuarrelsWith_72, eX5_markQuarrelsWith_75, eX5_markQuarrelsWith_78, eX5_markQuarrelsWith_79, eX5_markQuarrelsWith_82, eX5_markQuarrelsWith_84, eX5_markQuarrelsWith_85, Int.cast_ofNat_Int, Nat.reduceLT, Nat.reduceLeDiff, Nat.reduceEqDiff, Nat.reduceAdd, Nat.reduceMul, Int.reduceLE, Int.reduceLT, Int.reduceEq, not_false_iff, nlr, Nat.zero_add, Nat.add_zero, e10f, e01f, eq_self, true_and, and_true, false_and, and_false, and_self, decide_true, decide_false, mm_bd_i, mm_bd_v, if_true, if_false, not_true_eq_false, not_false_eq_true, nI_1, Bool.true_eq_false, Bool.false_eq_true, bI_0, n_le0, n_0lt, n_lt0, n_0le, n_eq0, n_eqm, n_eq1, n_le1, n_1lt, n_1le, n_lt1, nn_le, nI_ltI, nI_eq, nI_clamp, nI_add, pk_mul, i_eq0, i_eqm, i_0le, i_le0, i_0lt, i_lt0, i_mle, i_ltm, ii_le, iI_lt, iI_eq, ni_le, ni_lt, ni_eq, in_le, in_lt, in_eq, ni_add, in_add, ni_sub, in_sub, ni_mul, in_mul, iI_add, iI_sub, iI_mul, i_p1, iI_neg, n_neg, bc, sb]
      · intro i hi ih h1i
        have bc := fun d' => cJ_bits d' z F I L (L rm i <<< ((nI sh).toInt64 &&& 63) &&& L rm' i <<< ((nI tt).toInt64 &&& 63))
        have cc : cnt (lb (L rm i <<< ((nI sh).toInt64 &&& 63) &&& L rm' i <<< ((nI tt).toInt64 &&& 63))) = cnt (fun a => decide (p a = i + 1) && decide (q a = i + 1)) := by
          apply cnt_congr
          intro a ha
          rw [lb_and, hm i hi a ha, gm i hi a ha]
        rw [cc] at bc
        have e9 : ¬ 9 < i := by omega
        have as : alk p q (i + 1) = alk p q i + cnt (fun a => decide (p a = i + 1) && decide (q a = i + 1)) := by
          unfold alk
          rw [sumT]
          have i0 : ¬ i = 0 := by omega
          simp only [i0, if_false]
        have := al i
        have v1 : vp_in (nI i) (mm_zl z rm) := ix zlm (by omega)
        have v2 : vp_in (nI i) (mm_zl z rm') := ix zlm' (by omega)
        rw [← ih (by omega), as, eX5_markQuarrelsWith_44]
        simp (disch := first | assumption | exact bI_or _ | exact zOK_O hz (by decide) (by decide) rfl | exact zOK_T hz (by decide) (by decide) rfl | (refine ix (zOK_l hz (by decide) (by decide) rfl) ?_; omega) | decide | omega) only [eX5_markQuarrelsWith_46, eX5_markQuarrelsWith_48, eX5_markQuarrelsWith_51, eX5_markQuarrelsWith_53, eX5_markQuarrelsWith_54, eX5_markQuarrelsWith_56, eX5_markQuarrelsWith_59, eX5_markQuarrelsWith_60, eX5_markQuarrelsWith_62, eX5_markQuarrelsWith_65, eX5_markQuarrelsWith_66, eX5_markQuarrelsWith_69, eX5_markQuarrelsWith_70, eX5_markQuarrelsWith_72, eX5_markQuarrelsWith_75, eX5_markQuarrelsWith_78, eX5_markQuarrelsWith_79, eX5_markQuarrelsWith_82, eX5_markQuarrelsWith_84, eX5_markQuarrelsWith_85, eX5_cellsOfMark_0, eX5_cellsOfMark_1, eX5_cellsOfMark_4, eX5_cellsOfMark_5, eX5_cellsOfMark_6, eX5_cellsOfMark_7, eX5_cellsOfMark_10, eX5_cellsOfMark_11, Int.cast_ofNat_Int, Nat.reduceLT, Nat.reduceLeDiff, Nat.reduceEqDiff, Nat.reduceAdd, Nat.reduceMul, Int.reduceLE, Int.reduceLT, Int.reduceEq, not_false_iff, nlr, Nat.zero_add, Nat.add_zero, e10f, e01f, eq_self, true_and, and_true, false_and, and_false, and_self, decide_true, decide_false, mm_bd_i, mm_bd_v, if_true, if_false, not_true_eq_false, not_false_eq_true, nI_1, Bool.true_eq_false, Bool.false_eq_true, bI_0, n_le0, n_0lt, n_lt0, n_0le, n_eq0, n_eqm, n_eq1, n_le1, n_1lt, n_1le, n_lt1, nn_le, nI_ltI, nI_eq, nI_clamp, nI_add, pk_mul, i_eq0, i_eqm, i_0le, i_le0, i_0lt, i_lt0, i_mle, i_ltm, ii_le, iI_lt, iI_eq, ni_le, ni_lt, ni_eq, in_le, in_lt, in_eq, ni_add, in_add, ni_sub, in_sub, ni_mul, in_mul, iI_add, iI_sub, iI_mul, i_p1, iI_neg, n_neg, e9, h0, h7, g0, g7, bc]
    rw [← l 1 (by omega) (by omega)]
    have a1 : alk p q 1 = 0 := rfl
    rw [a1]
    simp (disch := first | assumption | exact bI_or _ | exact zOK_O hz (by decide) (by decide) rfl | exact zOK_T hz (by decide) (by decide) rfl | (refine ix (zOK_l hz (by decide) (by decide) rfl) ?_; omega) | decide | omega) only [eX5_markQuarrelsWith_30, eX5_markQuarrelsWith_31, eX5_markQuarrelsWith_32, eX5_markQuarrelsWith_33, eX5_markQuarrelsWith_36, eX5_markQuarrelsWith_37, eX5_markQuarrelsWith_38, eX5_markQuarrelsWith_39, eX5_markQuarrelsWith_41, eX5_markQuarrelsWith_42, Int.cast_ofNat_Int, Nat.reduceLT, Nat.reduceLeDiff, Nat.reduceEqDiff, Nat.reduceAdd, Nat.reduceMul, Int.reduceLE, Int.reduceLT, Int.reduceEq, not_false_iff, nlr, Nat.zero_add, Nat.add_zero, e10f, e01f, eq_self, true_and, and_true, false_and, and_false, and_self, decide_true, decide_false, mm_bd_i, mm_bd_v, if_true, if_false, not_true_eq_false, not_false_eq_true, nI_1, Bool.true_eq_false, Bool.false_eq_true, bI_0, n_le0, n_0lt, n_lt0, n_0le, n_eq0, n_eqm, n_eq1, n_le1, n_1lt, n_1le, n_lt1, nn_le, nI_ltI, nI_eq, nI_clamp, nI_add, pk_mul, i_eq0, i_eqm, i_0le, i_le0, i_0lt, i_lt0, i_mle, i_ltm, ii_le, iI_lt, iI_eq, ni_le, ni_lt, ni_eq, in_le, in_lt, in_eq, ni_add, in_add, ni_sub, in_sub, ni_mul, in_mul, iI_add, iI_sub, iI_mul, i_p1, iI_neg, n_neg, lg_cmp_eq, c]
    rfl
theorem cP_quarrels (d : Nat) (z : mm_Z) (F : Nat → Nat → Value) (I : Nat → Nat → Int32) (L : Nat → Nat → Int64) (r rm r' rm' : Nat) (p q : Nat → Nat) (u v : Nat → Bool) (hz : zOK z) (zr : mm_zO z r 5) (zr' : mm_zO z r' 5) (zm : mm_zT z rm 1) (zm' : mm_zT z rm' 1) (zlm : mm_zl z rm = 10) (zlm' : mm_zl z rm' = 10) (h : pVw r rm p u F L) (h' : pVw r' rm' q v F L) : mm_E (d + 3) mX5_quarrelsWith 0 [.ref r, .ref r'] [] (z, F, I, L) = some (some (.int (nI (sumT (qAt p u q v) 64))), (z, F, I, L)) := by
  have mq := fun d' => cP_marks d' z F I L r rm r' rm' p q u v hz zr zr' zm zm' zlm zlm' h h'
  obtain ⟨h0, ⟨dh, db, sh, h1, h2, h7, hh, hb, hm⟩, hp⟩ := h
  obtain ⟨g0, ⟨eh, eb, tt, g1, g2, g7, gh, gb, gm⟩, hq⟩ := h'
  have b1 := fun d' => cJ_bits d' z F I L (dh <<< ((nI sh).toInt64 &&& 63) &&& eb <<< ((nI tt).toInt64 &&& 63))
  have b2 := fun d' => cJ_bits d' z F I L (db <<< ((nI sh).toInt64 &&& 63) &&& eh <<< ((nI tt).toInt64 &&& 63))
  have c1 : cnt (lb (dh <<< ((nI sh).toInt64 &&& 63) &&& eb <<< ((nI tt).toInt64 &&& 63))) = sumT (fun a => q1 (p a) (v a)) 64 := by
    apply sumT_congr
    intro a ha
    rw [lb_and, hh a ha, gb a ha]
    unfold q1
    by_cases e : 0 < p a ∧ v a = true
    · rw [if_pos e, decide_eq_true e.1, e.2]; rfl
    · rw [if_neg e]
      have : (decide (0 < p a) && v a) = false := by
        rw [Bool.and_eq_false_iff, decide_eq_false_iff_not]
        by_cases e1 : 0 < p a
        · right; cases ev : v a with
          | false => rfl
          | true => exact absurd ⟨e1, ev⟩ e
        · exact Or.inl e1
      rw [this, if_neg (by simp)]
  have c2 : cnt (lb (db <<< ((nI sh).toInt64 &&& 63) &&& eh <<< ((nI tt).toInt64 &&& 63))) = sumT (fun a => q1 (q a) (u a)) 64 := by
    apply sumT_congr
    intro a ha
    rw [lb_and, hb a ha, gh a ha]
    unfold q1
    by_cases e : 0 < q a ∧ u a = true
    · rw [if_pos e, decide_eq_true e.1, e.2]; rfl
    · rw [if_neg e]
      have : (u a && decide (0 < q a)) = false := by
        rw [Bool.and_eq_false_iff, decide_eq_false_iff_not]
        by_cases e1 : 0 < q a
        · left; cases ev : u a with
          | false => rfl
          | true => exact absurd ⟨e1, ev⟩ e
        · exact Or.inr e1
      rw [this, if_neg (by simp)]
  rw [c1] at b1
  rw [c2] at b2
  have e : sumT (qAt p u q v) 64 = sumT (fun a => q1 (p a) (v a)) 64 + sumT (fun a => q1 (q a) (u a)) 64 + sumT (fun a => q3 (p a) (q a)) 64 := by
    rw [← sumT_add, ← sumT_add]
    rfl
  rw [e]
  simp (disch := first | assumption | exact bI_or _ | exact zOK_O hz (by decide) (by decide) rfl | exact zOK_T hz (by decide) (by decide) rfl | (refine ix (zOK_l hz (by decide) (by decide) rfl) ?_; omega) | decide | omega) only [eX5_quarrelsWith_0, eX5_quarrelsWith_1, eX5_quarrelsWith_4, eX5_quarrelsWith_5, eX5_quarrelsWith_8, eX5_quarrelsWith_9, eX5_quarrelsWith_12, eX5_quarrelsWith_13, eX5_quarrelsWith_16, eX5_quarrelsWith_17, eX5_quarrelsWith_20, eX5_quarrelsWith_21, eX5_quarrelsWith_24, eX5_quarrelsWith_25, eX5_quarrelsWith_26, eX5_quarrelsWith_27, eX5_quarrelsWith_30, eX5_quarrelsWith_31, eX5_hitCells_0, eX5_hitCells_1, eX5_hitCells_4, eX5_hitCells_5, eX5_hitCells_8, eX5_hitCells_9, eX5_beamCells_0, eX5_beamCells_1, eX5_beamCells_4, eX5_beamCells_5, eX5_beamCells_8, eX5_beamCells_9, Int.cast_ofNat_Int, Nat.reduceLT, Nat.reduceLeDiff, Nat.reduceEqDiff, Nat.reduceAdd, Nat.reduceMul, Int.reduceLE, Int.reduceLT, Int.reduceEq, not_false_iff, nlr, Nat.zero_add, Nat.add_zero, e10f, e01f, eq_self, true_and, and_true, false_and, and_false, and_self, decide_true, decide_false, mm_bd_i, mm_bd_v, if_true, if_false, not_true_eq_false, not_false_eq_true, nI_1, Bool.true_eq_false, Bool.false_eq_true, bI_0, n_le0, n_0lt, n_lt0, n_0le, n_eq0, n_eqm, n_eq1, n_le1, n_1lt, n_1le, n_lt1, nn_le, nI_ltI, nI_eq, nI_clamp, nI_add, pk_mul, i_eq0, i_eqm, i_0le, i_le0, i_0lt, i_lt0, i_mle, i_ltm, ii_le, iI_lt, iI_eq, ni_le, ni_lt, ni_eq, in_le, in_lt, in_eq, ni_add, in_add, ni_sub, in_sub, ni_mul, in_mul, iI_add, iI_sub, iI_mul, i_p1, iI_neg, n_neg, h1, h2, h7, g1, g2, g7, b1, b2, mq]
theorem cP_hasMark (d : Nat) (z : mm_Z) (F : Nat → Nat → Value) (I : Nat → Nat → Int32) (L : Nat → Nat → Int64) (r rm : Nat) (p : Nat → Nat) (u : Nat → Bool) (hz : zOK z) (zr : mm_zO z r 5) (zm : mm_zT z rm 1) (zlm : mm_zl z rm = 10) (h : pVw r rm p u F L) (m a : Nat) (hm : m ≤ 9) (ha : a < 64) : mm_E (d + 1) mX5_hasMarkAt 0 [.ref r, .int (nI m), .int (nI a)] [] (z, F, I, L) = some (some (.int (bI (decide (p a = m + 1)))), (z, F, I, L)) := by
  obtain ⟨h0, ⟨dh, db, sh, h1, h2, h7, hh, hb, hm'⟩, hp⟩ := h
  have v1 : vp_in (nI m) (mm_zl z rm) := ix zlm (by omega)
  have w : 0 ≤ (m : Int) ∧ (m : Int) ≤ 9 := by omega
  have hs := fun d' w' => cX_has d' z F I L (L rm m <<< ((nI sh).toInt64 &&& 63)) w' a ha
  rw [hm' m (by omega) a ha] at hs
  by_cases e : p a = m + 1
  · rw [decide_eq_true e] at hs ⊢
    simp (disch := first | assumption | exact bI_or _ | exact zOK_O hz (by decide) (by decide) rfl | exact zOK_T hz (by decide) (by decide) rfl | (refine ix (zOK_l hz (by decide) (by decide) rfl) ?_; omega) | decide | omega) only [eX5_hasMarkAt_0, eX5_hasMarkAt_1, eX5_hasMarkAt_2, eX5_hasMarkAt_4, eX5_hasMarkAt_7, eX5_hasMarkAt_10, eX5_hasMarkAt_11, eX5_hasMarkAt_12, eX5_hasMarkAt_15, eX5_hasMarkAt_16, eX5_hasMarkAt_19, eX5_hasMarkAt_22, eX5_hasMarkAt_23, eX5_hasMarkAt_26, eX5_hasMarkAt_27, eX5_cellsOfMark_0, eX5_cellsOfMark_1, eX5_cellsOfMark_4, eX5_cellsOfMark_5, eX5_cellsOfMark_6, eX5_cellsOfMark_7, eX5_cellsOfMark_10, eX5_cellsOfMark_11, Int.cast_ofNat_Int, Nat.reduceLT, Nat.reduceLeDiff, Nat.reduceEqDiff, Nat.reduceAdd, Nat.reduceMul, Int.reduceLE, Int.reduceLT, Int.reduceEq, not_false_iff, nlr, Nat.zero_add, Nat.add_zero, e10f, e01f, eq_self, true_and, and_true, false_and, and_false, and_self, decide_true, decide_false, mm_bd_i, mm_bd_v, if_true, if_false, not_true_eq_false, not_false_eq_true, nI_1, Bool.true_eq_false, Bool.false_eq_true, bI_0, n_le0, n_0lt, n_lt0, n_0le, n_eq0, n_eqm, n_eq1, n_le1, n_1lt, n_1le, n_lt1, nn_le, nI_ltI, nI_eq, nI_clamp, nI_add, pk_mul, i_eq0, i_eqm, i_0le, i_le0, i_0lt, i_lt0, i_mle, i_ltm, ii_le, iI_lt, iI_eq, ni_le, ni_lt, ni_eq, in_le, in_lt, in_eq, ni_add, in_add, ni_sub, in_sub, ni_mul, in_mul, iI_add, iI_sub, iI_mul, i_p1, iI_neg, n_neg, cX_within, tI0, tI1, tIm1, tIm7, nI_toInt, iI_toInt, Int.cast_ofNat_Int, w, h0, h7, hs, bI_t]
  · rw [decide_eq_false e] at hs ⊢
    simp (disch := first | assumption | exact bI_or _ | exact zOK_O hz (by decide) (by decide) rfl | exact zOK_T hz (by decide) (by decide) rfl | (refine ix (zOK_l hz (by decide) (by decide) rfl) ?_; omega) | decide | omega) only [eX5_hasMarkAt_0, eX5_hasMarkAt_1, eX5_hasMarkAt_2, eX5_hasMarkAt_4, eX5_hasMarkAt_7, eX5_hasMarkAt_10, eX5_hasMarkAt_11, eX5_hasMarkAt_12, eX5_hasMarkAt_15, eX5_hasMarkAt_16, eX5_hasMarkAt_19, eX5_hasMarkAt_22, eX5_hasMarkAt_23, eX5_hasMarkAt_26, eX5_hasMarkAt_27, eX5_cellsOfMark_0, eX5_cellsOfMark_1, eX5_cellsOfMark_4, eX5_cellsOfMark_5, eX5_cellsOfMark_6, eX5_cellsOfMark_7, eX5_cellsOfMark_10, eX5_cellsOfMark_11, Int.cast_ofNat_Int, Nat.reduceLT, Nat.reduceLeDiff, Nat.reduceEqDiff, Nat.reduceAdd, Nat.reduceMul, Int.reduceLE, Int.reduceLT, Int.reduceEq, not_false_iff, nlr, Nat.zero_add, Nat.add_zero, e10f, e01f, eq_self, true_and, and_true, false_and, and_false, and_self, decide_true, decide_false, mm_bd_i, mm_bd_v, if_true, if_false, not_true_eq_false, not_false_eq_true, nI_1, Bool.true_eq_false, Bool.false_eq_true, bI_0, n_le0, n_0lt, n_lt0, n_0le, n_eq0, n_eqm, n_eq1, n_le1, n_1lt, n_1le, n_lt1, nn_le, nI_ltI, nI_eq, nI_clamp, nI_add, pk_mul, i_eq0, i_eqm, i_0le, i_le0, i_0lt, i_lt0, i_mle, i_ltm, ii_le, iI_lt, iI_eq, ni_le, ni_lt, ni_eq, in_le, in_lt, in_eq, ni_add, in_add, ni_sub, in_sub, ni_mul, in_mul, iI_add, iI_sub, iI_mul, i_p1, iI_neg, n_neg, cX_within, tI0, tI1, tIm1, tIm7, nI_toInt, iI_toInt, Int.cast_ofNat_Int, w, h0, h7, hs, bI_f]
