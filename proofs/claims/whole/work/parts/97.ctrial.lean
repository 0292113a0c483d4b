/-! the class: trials -/
/-- only the trial's print has changed -/
def trF (F F' : Nat → Nat → Value) (L L' : Nat → Nat → Int64) : Prop := frP 5 1 7 F F' ∧ ∀ x, ¬ x = 6 → L' x = L x
theorem trF_rfl (F : Nat → Nat → Value) (L : Nat → Nat → Int64) : trF F F L L := ⟨fun _ _ _ => rfl, fun _ _ => rfl⟩
theorem trF_trans {F F' F'' : Nat → Nat → Value} {L L' L'' : Nat → Nat → Int64} (h : trF F F' L L') (h' : trF F' F'' L' L'') : trF F F'' L L'' := ⟨frP_trans h.1 h'.1, fun x q => (h'.2 x q).trans (h.2 x q)⟩
theorem trF_hFr {F F' : Nat → Nat → Value} {L L' : Nat → Nat → Int64} (h : trF F F' L L') : hFr F F' L L' := fun r hr => ⟨funext (fun j => h.1 r j (by omega)), h.2 r (by omega)⟩
theorem cHl_tr (n : Nat) (hs : Nat → List (Int × Int × Nat)) (st : Nat → Option (Nat × Nat)) {F F' : Nat → Nat → Value} {I : Nat → Nat → Int32} {L L' : Nat → Nat → Int64} (h : cHl n hs st F I L) (w8 : n ≤ 8) (hf : trF F F' L L') : cHl n hs st F' I L' := by
  obtain ⟨h0, hS, hP, hB, hN⟩ := h
  obtain ⟨d4, d5⟩ := hf
  refine ⟨cH0_fr h0 (fun x j q => d4 x j (by rcases q with q | q | ⟨o, q1, q2, q3⟩ | ⟨o, q1, q2, q3⟩ | q | q <;> omega)), ?_, ?_, ?_, ?_⟩
  · obtain ⟨a3, a4, hA, hB'⟩ := hS
    refine ⟨by rw [d4 _ _ (by omega)]; exact a3, by rw [d4 _ _ (by omega)]; exact a4, fun o ho' => ?_, fun o o1 o2 => ?_⟩
    · have g := hA o ho'
      refine ⟨swp_F g.1 (fun j _ _ _ => d4 _ _ (by omega)) rfl rfl rfl, by rw [d4 _ _ (by omega)]; exact g.2.1, fun c' t' q => ?_⟩
      rw [d4 _ _ (by omega), d4 _ _ (by omega)]; exact g.2.2 c' t' q
    · have g := hB' o o1 o2
      exact ⟨swp_F g.1 (fun j _ _ _ => d4 _ _ (by omega)) rfl rfl rfl, by rw [d4 _ _ (by omega)]; exact g.2⟩
  · intro o c' t' ho' q
    exact pLd_fr (hP o c' t' ho' q) (funext (fun j => d4 _ _ (by omega))) (d5 _ (by omega))
  · obtain ⟨vh, vb, g5, g6, gh, gb⟩ := hB
    exact ⟨vh, vb, by rw [d4 _ _ (by omega)]; exact g5, by rw [d4 _ _ (by omega)]; exact g6, gh, gb⟩
  · obtain ⟨⟨v, n1, n2⟩, n3, n4, n5⟩ := hN
    exact ⟨⟨v, by rw [d4 _ _ (by omega)]; exact n1, n2⟩, by rw [d4 _ _ (by omega)]; exact n3, by rw [d4 _ _ (by omega)]; exact n4, fun r hr => by rw [d5 _ (by omega)]; exact n5 r hr⟩
/-- the trial is drawn for l, turned by t -/
def drn (l : List (Int × Int × Nat)) (t : Nat) (F : Nat → Nat → Value) (L : Nat → Nat → Int64) : Prop := pBd 5 (mnI (tX l t) l.length) (mxI (tX l t) l.length) (mnI (tY l t) l.length) (mxI (tY l t) l.length) F ∧ (mxI (tX l t) l.length - mnI (tX l t) l.length < 8 → mxI (tY l t) l.length - mnI (tY l t) l.length < 8 → pDr 5 6 l t (mnI (tX l t) l.length) (mnI (tY l t) l.length) l.length F L)
theorem cT_draw (d : Nat) (z : mm_Z) (F : Nat → Nat → Value) (I : Nat → Nat → Int32) (L : Nat → Nat → Int64) (n : Nat) (hs : Nat → List (Int × Int × Nat)) (st : Nat → Option (Nat × Nat)) (hz : zOK z) (w : wOK n hs st) (h : cHl n hs st F I L) (s t : Nat) (hs' : s < n) (ht : t < 4) : ∃ F' L', mm_E (d + 4) mX5_draw 0 [.ref 5, .ref (9 + 6 * s), .int (nI t), uu, uu, uu, uu, uu] [] (z, F, I, L) = some (none, (z, F', I, L')) ∧ drn (hs s) t F' L' ∧ trF F F' L L' := by
  have w8 := w.1
  obtain ⟨F1, L1, d1, d2, d3, d4, d5⟩ := cP_draw d z F I L 5 6 s t (hs s) hz (zO_5 hz) (zT_6 hz) (zl_6 hz) (by omega) ht (by omega) (wOK_okH n hs st w hs') (h.2.1.2.2.1 s hs').1 h.1.1.2.2.2.1
  exact ⟨F1, L1, d1, ⟨d2, d3⟩, frP_mono d4 (by decide) (by decide), d5⟩
theorem cT_lay (d : Nat) (z : mm_Z) (F : Nat → Nat → Value) (I : Nat → Nat → Int32) (L : Nat → Nat → Int64) (l : List (Int × Int × Nat)) (hz : zOK z) (ok : okH l) (un : unq l) (t c : Nat) (hc : c < 64) (h0 : F 5 0 = .ref 6) (h : drn l t F L) : ∃ F', mm_E d mX5_lay 0 [.ref 5, .int (nI c), uu, uu] [] (z, F, I, L) = some (some (.int (bI (lOk l c t l.length))), (z, F', I, L)) ∧ drn l t F' L ∧ trF F F' L L ∧ (lOk l c t l.length = true → pVw 5 6 (lH l c t l.length) (lB l c t l.length) F' L) := by
  obtain ⟨d2, d3⟩ := h
  have bx := mnI_b (tX l t) l.length (fun j hj => (tXY_b ok t hj).1)
  have by' := mnI_b (tY l t) l.length (fun j hj => (tXY_b ok t hj).2)
  have cx := mxI_b (tX l t) l.length (fun j hj => (tXY_b ok t hj).1)
  have cy := mxI_b (tY l t) l.length (fun j hj => (tXY_b ok t hj).2)
  have la := cP_lay d z F I L 5 hz (zO_5 hz) _ _ _ _ d2 bx.1 cx.1 by'.1 cy.1 c hc (lOk l c t l.length) (lay_iff ok hc)
  refine ⟨_, la, ?_, ?_, ?_⟩
  · split
    · have fr := frP_up 5 7 7 7 F (.int (nI ((c : Int) + 8 * mnI (tY l t) l.length + mnI (tX l t) l.length).toNat)) (by decide) (by decide)
      refine ⟨?_, fun q1 q2 => ?_⟩
      · obtain ⟨p3, p4, p5, p6⟩ := d2
        exact ⟨by rw [fr _ _ (by omega)]; exact p3, by rw [fr _ _ (by omega)]; exact p4, by rw [fr _ _ (by omega)]; exact p5, by rw [fr _ _ (by omega)]; exact p6⟩
      · obtain ⟨dh, db, e1, e2, e3⟩ := d3 q1 q2
        exact ⟨dh, db, by rw [fr _ _ (by omega)]; exact e1, by rw [fr _ _ (by omega)]; exact e2, e3⟩
    · exact ⟨d2, d3⟩
  · split
    · exact ⟨frP_up 5 1 7 7 F _ (by decide) (by decide), fun _ _ => rfl⟩
    · exact trF_rfl F L
  · intro ho
    have li := (lay_iff ok hc).mp ho
    have pl := pDr_laid ok un hc (d3 (by omega) (by omega)) ho
    rw [if_pos ho]
    exact pVw_of ok (by rw [up_k _ _ _ _ (by decide)]; exact h0) pl
theorem exO_exA (st : Nat → Option (Nat × Nat)) (P : Nat → Nat → Nat) (s c : Nat) (h : st s = none) : ∀ k, exO st P s c k = exA st P c k := by
  intro k
  induction k with
  | zero => rfl
  | succ k ih =>
    rw [exO, exA, ih]
    congr 1
    apply decide_eq_decide.mpr
    constructor
    · intro q; exact ⟨q.2.1, q.2.2⟩
    · intro q; exact ⟨fun e => q.1 (by rw [e]; exact h), q.1, q.2⟩
theorem cT_catch (d : Nat) (z : mm_Z) (F : Nat → Nat → Value) (I : Nat → Nat → Int32) (L : Nat → Nat → Int64) (n : Nat) (hs : Nat → List (Int × Int × Nat)) (st : Nat → Option (Nat × Nat)) (hz : zOK z) (h : cHl n hs st F I L) (s c t : Nat) (e : st s = none) (v : pVw 5 6 (lH (hs s) c t (hs s).length) (lB (hs s) c t (hs s).length) F L) : mm_E (d + 1) mX1_catchesOfTrial 0 [.ref 3] [] (z, F, I, L) = some (some (.int (nI (catN n hs st s c t))), (z, F, I, L)) := by
  obtain ⟨h0, hS, hP, hB, hN⟩ := h
  obtain ⟨vh, vb, g5, g6, gh, gb⟩ := hB
  obtain ⟨v0, ⟨dh, db, sh, p1, p2, p7, ph, pb, pm⟩, p10⟩ := v
  have bc := fun d' => cJ_bits d' z F I L (dh <<< ((nI sh).toInt64 &&& 63) &&& vh)
  have cc : cnt (lb (dh <<< ((nI sh).toInt64 &&& 63) &&& vh)) = catN n hs st s c t := by
    apply sumT_congr
    intro a ha
    rw [lb_and, ph a ha, gh a ha]
    unfold ct1
    rw [exO_exA st (sH hs st) s a e n]
    simp only [Bool.and_eq_true, decide_eq_true_eq]
  rw [cc] at bc
  simp (disch := first | assumption | exact zSw hz (by omega) | exact zSp hz (by omega) | exact zSd hz (by omega) | exact bI_or _ | exact zOK_O hz (by decide) (by decide) rfl | exact zOK_T hz (by decide) (by decide) rfl | (refine ix (zOK_l hz (by decide) (by decide) rfl) ?_; omega) | decide | omega) only [eX1_catchesOfTrial_0, eX1_catchesOfTrial_1, eX1_catchesOfTrial_4, eX1_catchesOfTrial_7, eX1_catchesOfTrial_8, eX1_catchesOfTrial_11, eX1_catchesOfTrial_12, eX1_catchesOfTrial_15, eX5_hitCells_0, eX5_hitCells_1, eX5_hitCells_4, eX5_hitCells_5, eX5_hitCells_8, eX5_hitCells_9, Int.cast_ofNat_Int, Nat.reduceLT, Nat.reduceLeDiff, Nat.reduceEqDiff, Nat.reduceAdd, Nat.reduceMul, Int.reduceLE, Int.reduceLT, Int.reduceEq, not_false_iff, nlr, Nat.zero_add, Nat.add_zero, e10f, e01f, eq_self, true_and, and_true, false_and, and_false, and_self, decide_true, decide_false, mm_bd_i, mm_bd_v, if_true, if_false, not_true_eq_false, not_false_eq_true, nI_1, Bool.true_eq_false, Bool.false_eq_true, bI_0, n_le0, n_0lt, n_lt0, n_0le, n_eq0, n_eqm, n_eq1, n_le1, n_1lt, n_1le, n_lt1, nn_le, nI_ltI, nI_eq, nI_clamp, nI_add, pk_mul, i_eq0, i_eqm, i_0le, i_le0, i_0lt, i_lt0, i_mle, i_ltm, ii_le, iI_lt, iI_eq, ni_le, ni_lt, ni_eq, in_le, in_lt, in_eq, ni_add, in_add, ni_sub, in_sub, ni_mul, in_mul, iI_add, iI_sub, iI_mul, i_p1, iI_neg, n_neg, h0.1.2.1, p1, p7, g5, bc]
theorem cT_quar (d : Nat) (z : mm_Z) (F : Nat → Nat → Value) (I : Nat → Nat → Int32) (L : Nat → Nat → Int64) (n : Nat) (hs : Nat → List (Int × Int × Nat)) (st : Nat → Option (Nat × Nat)) (hz : zOK z) (w : wOK n hs st) (h : cHl n hs st F I L) (s c t : Nat) (hs' : s < n) (e : st s = none) (v : pVw 5 6 (lH (hs s) c t (hs s).length) (lB (hs s) c t (hs s).length) F L) : mm_E (d + 4) mX1_quarrelsOfTrial 0 [.ref 3, uu, uu] [] (z, F, I, L) = some (some (.int (nI (quaN n hs st s c t))), (z, F, I, L)) := by
  have w8 := w.1
  obtain ⟨h0, hS, hP, hB, hN⟩ := h
  obtain ⟨⟨r0, r1, r2, r3, r4⟩, rs⟩ := h0
  obtain ⟨a3, a4, hA, hB'⟩ := hS
  have l : ∀ i, i ≤ n → mm_E (d + 4) mX1_quarrelsOfTrial 4 [.ref 3, .int (nI (sumT (qo1 st (sH hs st) (sB hs st) (lH (hs s) c t (hs s).length) (lB (hs s) c t (hs s).length) s) i)), .int (nI i)] [] (z, F, I, L) = some (some (.int (nI (quaN n hs st s c t))), (z, F, I, L)) := by
    apply lp
    · rw [eX1_quarrelsOfTrial_4]
      simp (disch := first | assumption | exact zSw hz (by omega) | exact zSp hz (by omega) | exact zSd hz (by omega) | exact bI_or _ | exact zOK_O hz (by decide) (by decide) rfl | exact zOK_T hz (by decide) (by decide) rfl | (refine ix (zOK_l hz (by decide) (by decide) rfl) ?_; omega) | decide | omega) only [eX1_quarrelsOfTrial_0, eX1_quarrelsOfTrial_1, eX1_quarrelsOfTrial_2, eX1_quarrelsOfTrial_3, eX1_quarrelsOfTrial_5, eX1_quarrelsOfTrial_6, eX1_quarrelsOfTrial_9, eX1_quarrelsOfTrial_12, eX1_quarrelsOfTrial_13, eX1_quarrelsOfTrial_16, eX1_quarrelsOfTrial_17, eX1_quarrelsOfTrial_18, eX1_quarrelsOfTrial_21, eX1_quarrelsOfTrial_24, eX1_quarrelsOfTrial_25, eX1_quarrelsOfTrial_26, eX1_quarrelsOfTrial_29, eX1_quarrelsOfTrial_30, eX1_quarrelsOfTrial_33, eX1_quarrelsOfTrial_34, eX1_quarrelsOfTrial_35, eX1_quarrelsOfTrial_38, eX1_quarrelsOfTrial_41, eX1_quarrelsOfTrial_42, eX1_quarrelsOfTrial_43, eX1_quarrelsOfTrial_46, eX1_quarrelsOfTrial_49, eX1_quarrelsOfTrial_50, Int.cast_ofNat_Int, Nat.reduceLT, Nat.reduceLeDiff, Nat.reduceEqDiff, Nat.reduceAdd, Nat.reduceMul, Int.reduceLE, Int.reduceLT, Int.reduceEq, not_false_iff, nlr, Nat.zero_add, Nat.add_zero, e10f, e01f, eq_self, true_and, and_true, false_and, and_false, and_self, decide_true, decide_false, mm_bd_i, mm_bd_v, if_true, if_false, not_true_eq_false, not_false_eq_true, nI_1, Bool.true_eq_false, Bool.false_eq_true, bI_0, n_le0, n_0lt, n_lt0, n_0le, n_eq0, n_eqm, n_eq1, n_le1, n_1lt, n_1le, n_lt1, nn_le, nI_ltI, nI_eq, nI_clamp, nI_add, pk_mul, i_eq0, i_eqm, i_0le, i_le0, i_0lt, i_lt0, i_mle, i_ltm, ii_le, iI_lt, iI_eq, ni_le, ni_lt, ni_eq, in_le, in_lt, in_eq, ni_add, in_add, ni_sub, in_sub, ni_mul, in_mul, iI_add, iI_sub, iI_mul, i_p1, iI_neg, n_neg, a3]
      rfl
    · intro i hi ih
      have q4 := (rs i (by omega)).1
      have qv : mm_rv (F 4 (nI i).toNatClampNeg) = true := by rw [nI_clamp (by omega), q4]; rfl
      have q5 := (hA i hi).2.1
      have qp := (rs i (by omega)).2.1
      rw [← ih, eX1_quarrelsOfTrial_4, sumT]
      cases ei : st i with
      | none =>
        rw [ei] at q5
        have q5' : F (9 + 6 * i) 5 = .int (bI false) := by rw [q5]; rfl
        have t0 : qo1 st (sH hs st) (sB hs st) (lH (hs s) c t (hs s).length) (lB (hs s) c t (hs s).length) s i = 0 := by unfold qo1; rw [if_neg (fun q => q.2 ei)]
        simp (disch := first | assumption | exact zSw hz (by omega) | exact zSp hz (by omega) | exact zSd hz (by omega) | exact bI_or _ | exact zOK_O hz (by decide) (by decide) rfl | exact zOK_T hz (by decide) (by decide) rfl | (refine ix (zOK_l hz (by decide) (by decide) rfl) ?_; omega) | decide | omega) only [eX1_quarrelsOfTrial_0, eX1_quarrelsOfTrial_1, eX1_quarrelsOfTrial_2, eX1_quarrelsOfTrial_3, eX1_quarrelsOfTrial_5, eX1_quarrelsOfTrial_6, eX1_quarrelsOfTrial_9, eX1_quarrelsOfTrial_12, eX1_quarrelsOfTrial_13, eX1_quarrelsOfTrial_16, eX1_quarrelsOfTrial_17, eX1_quarrelsOfTrial_18, eX1_quarrelsOfTrial_21, eX1_quarrelsOfTrial_24, eX1_quarrelsOfTrial_25, eX1_quarrelsOfTrial_26, eX1_quarrelsOfTrial_29, eX1_quarrelsOfTrial_30, eX1_quarrelsOfTrial_33, eX1_quarrelsOfTrial_34, eX1_quarrelsOfTrial_35, eX1_quarrelsOfTrial_38, eX1_quarrelsOfTrial_41, eX1_quarrelsOfTrial_42, eX1_quarrelsOfTrial_43, eX1_quarrelsOfTrial_46, eX1_quarrelsOfTrial_49, eX1_quarrelsOfTrial_50, Int.cast_ofNat_Int, Nat.reduceLT, Nat.reduceLeDiff, Nat.reduceEqDiff, Nat.reduceAdd, Nat.reduceMul, Int.reduceLE, Int.reduceLT, Int.reduceEq, not_false_iff, nlr, Nat.zero_add, Nat.add_zero, e10f, e01f, eq_self, true_and, and_true, false_and, and_false, and_self, decide_true, decide_false, mm_bd_i, mm_bd_v, if_true, if_false, not_true_eq_false, not_false_eq_true, nI_1, Bool.true_eq_false, Bool.false_eq_true, bI_0, n_le0, n_0lt, n_lt0, n_0le, n_eq0, n_eqm, n_eq1, n_le1, n_1lt, n_1le, n_lt1, nn_le, nI_ltI, nI_eq, nI_clamp, nI_add, pk_mul, i_eq0, i_eqm, i_0le, i_le0, i_0lt, i_lt0, i_mle, i_ltm, ii_le, iI_lt, iI_eq, ni_le, ni_lt, ni_eq, in_le, in_lt, in_eq, ni_add, in_add, ni_sub, in_sub, ni_mul, in_mul, iI_add, iI_sub, iI_mul, i_p1, iI_neg, n_neg, a3, hi, r0, q4, q5', t0]
      | some p =>
        obtain ⟨c', t'⟩ := p
        rw [ei] at q5
        have q5' : F (9 + 6 * i) 5 = .int (bI true) := by rw [q5]; rfl
        have vw := cHp_vw n hs st w ⟨⟨r0, r1, r2, r3, r4⟩, rs⟩ hP hi ei
        have qq := fun d' => cP_quarrels d' z F I L 5 6 (13 + 6 * i) (14 + 6 * i) _ _ _ _ hz (zO_5 hz) (zSp hz (by omega)) (zT_6 hz) (zSd hz (by omega)) (zl_6 hz) (zSdl hz (by omega)) v vw
        have ne : ¬ i = s := fun g => by rw [g, e] at ei; exact absurd ei (by simp)
        have t0 : qo1 st (sH hs st) (sB hs st) (lH (hs s) c t (hs s).length) (lB (hs s) c t (hs s).length) s i = sumT (qAt (lH (hs s) c t (hs s).length) (lB (hs s) c t (hs s).length) (sH hs st i) (sB hs st i)) 64 := by unfold qo1; rw [if_pos ⟨ne, by rw [ei]; simp⟩]
        simp (disch := first | assumption | exact zSw hz (by omega) | exact zSp hz (by omega) | exact zSd hz (by omega) | exact bI_or _ | exact zOK_O hz (by decide) (by decide) rfl | exact zOK_T hz (by decide) (by decide) rfl | (refine ix (zOK_l hz (by decide) (by decide) rfl) ?_; omega) | decide | omega) only [eX1_quarrelsOfTrial_0, eX1_quarrelsOfTrial_1, eX1_quarrelsOfTrial_2, eX1_quarrelsOfTrial_3, eX1_quarrelsOfTrial_5, eX1_quarrelsOfTrial_6, eX1_quarrelsOfTrial_9, eX1_quarrelsOfTrial_12, eX1_quarrelsOfTrial_13, eX1_quarrelsOfTrial_16, eX1_quarrelsOfTrial_17, eX1_quarrelsOfTrial_18, eX1_quarrelsOfTrial_21, eX1_quarrelsOfTrial_24, eX1_quarrelsOfTrial_25, eX1_quarrelsOfTrial_26, eX1_quarrelsOfTrial_29, eX1_quarrelsOfTrial_30, eX1_quarrelsOfTrial_33, eX1_quarrelsOfTrial_34, eX1_quarrelsOfTrial_35, eX1_quarrelsOfTrial_38, eX1_quarrelsOfTrial_41, eX1_quarrelsOfTrial_42, eX1_quarrelsOfTrial_43, eX1_quarrelsOfTrial_46, eX1_quarrelsOfTrial_49, eX1_quarrelsOfTrial_50, Int.cast_ofNat_Int, Nat.reduceLT, Nat.reduceLeDiff, Nat.reduceEqDiff, Nat.reduceAdd, Nat.reduceMul, Int.reduceLE, Int.reduceLT, Int.reduceEq, not_false_iff, nlr, Nat.zero_add, Nat.add_zero, e10f, e01f, eq_self, true_and, and_true, false_and, and_false, and_self, decide_true, decide_false, mm_bd_i, mm_bd_v, if_true, if_false, not_true_eq_false, not_false_eq_true, nI_1, Bool.true_eq_false, Bool.false_eq_true, bI_0, n_le0, n_0lt, n_lt0, n_0le, n_eq0, n_eqm, n_eq1, n_le1, n_1lt, n_1le, n_lt1, nn_le, nI_ltI, nI_eq, nI_clamp, nI_add, pk_mul, i_eq0, i_eqm, i_0le, i_le0, i_0lt, i_lt0, i_mle, i_ltm, ii_le, iI_lt, iI_eq, ni_le, ni_lt, ni_eq, in_le, in_lt, in_eq, ni_add, in_add, ni_sub, in_sub, ni_mul, in_mul, iI_add, iI_sub, iI_mul, i_p1, iI_neg, n_neg, a3, hi, r0, r1, q4, q5', qp, qq, t0]
  rw [← l 0 (by omega)]
  simp (disch := first | assumption | exact zSw hz (by omega) | exact zSp hz (by omega) | exact zSd hz (by omega) | exact bI_or _ | exact zOK_O hz (by decide) (by decide) rfl | exact zOK_T hz (by decide) (by decide) rfl | (refine ix (zOK_l hz (by decide) (by decide) rfl) ?_; omega) | decide | omega) only [eX1_quarrelsOfTrial_0, eX1_quarrelsOfTrial_1, eX1_quarrelsOfTrial_2, eX1_quarrelsOfTrial_3, eX1_quarrelsOfTrial_5, eX1_quarrelsOfTrial_6, eX1_quarrelsOfTrial_9, eX1_quarrelsOfTrial_12, eX1_quarrelsOfTrial_13, eX1_quarrelsOfTrial_16, eX1_quarrelsOfTrial_17, eX1_quarrelsOfTrial_18, eX1_quarrelsOfTrial_21, eX1_quarrelsOfTrial_24, eX1_quarrelsOfTrial_25, eX1_quarrelsOfTrial_26, eX1_quarrelsOfTrial_29, eX1_quarrelsOfTrial_30, eX1_quarrelsOfTrial_33, eX1_quarrelsOfTrial_34, eX1_quarrelsOfTrial_35, eX1_quarrelsOfTrial_38, eX1_quarrelsOfTrial_41, eX1_quarrelsOfTrial_42, eX1_quarrelsOfTrial_43, eX1_quarrelsOfTrial_46, eX1_quarrelsOfTrial_49, eX1_quarrelsOfTrial_50, Int.cast_ofNat_Int, Nat.reduceLT, Nat.reduceLeDiff, Nat.reduceEqDiff, Nat.reduceAdd, Nat.reduceMul, Int.reduceLE, Int.reduceLT, Int.reduceEq, not_false_iff, nlr, Nat.zero_add, Nat.add_zero, e10f, e01f, eq_self, true_and, and_true, false_and, and_false, and_self, decide_true, decide_false, mm_bd_i, mm_bd_v, if_true, if_false, not_true_eq_false, not_false_eq_true, nI_1, Bool.true_eq_false, Bool.false_eq_true, bI_0, n_le0, n_0lt, n_lt0, n_0le, n_eq0, n_eqm, n_eq1, n_le1, n_1lt, n_1le, n_lt1, nn_le, nI_ltI, nI_eq, nI_clamp, nI_add, pk_mul, i_eq0, i_eqm, i_0le, i_le0, i_0lt, i_lt0, i_mle, i_ltm, ii_le, iI_lt, iI_eq, ni_le, ni_lt, ni_eq, in_le, in_lt, in_eq, ni_add, in_add, ni_sub, in_sub, ni_mul, in_mul, iI_add, iI_sub, iI_mul, i_p1, iI_neg, n_neg]
  rfl
theorem cT_bars (d : Nat) (z : mm_Z) (F : Nat → Nat → Value) (I : Nat → Nat → Int32) (L : Nat → Nat → Int64) (n : Nat) (hs : Nat → List (Int × Int × Nat)) (st : Nat → Option (Nat × Nat)) (hz : zOK z) (w : wOK n hs st) (h : cHl n hs st F I L) (s c t : Nat) (hs' : s < n) (e : st s = none) (v : pVw 5 6 (lH (hs s) c t (hs s).length) (lB (hs s) c t (hs s).length) F L) (lm : Nat → Nat) (l1 : lm 1 ≤ 16) : mm_E (d + 4) mX1_barsOfTrial 0 [.ref 3, .int (nI (lm 1)), uu, uu] [] (z, F, I, L) = some (some (.int (orT (barO hs st lm s c t) n)), (z, F, I, L)) := by
  have w8 := w.1
  obtain ⟨h0, hS, hP, hB, hN⟩ := h
  obtain ⟨⟨r0, r1, r2, r3, r4⟩, rs⟩ := h0
  obtain ⟨a3, a4, hA, hB'⟩ := hS
  have l : ∀ i, i ≤ n → mm_E (d + 4) mX1_barsOfTrial 4 [.ref 3, .int (nI (lm 1)), .int (orT (barO hs st lm s c t) i), .int (nI i)] [] (z, F, I, L) = some (some (.int (orT (barO hs st lm s c t) n)), (z, F, I, L)) := by
    apply lp
    · rw [eX1_barsOfTrial_4]
      simp (disch := first | assumption | exact zSw hz (by omega) | exact zSp hz (by omega) | exact zSd hz (by omega) | exact bI_or _ | exact zOK_O hz (by decide) (by decide) rfl | exact zOK_T hz (by decide) (by decide) rfl | (refine ix (zOK_l hz (by decide) (by decide) rfl) ?_; omega) | decide | omega) only [eX1_barsOfTrial_0, eX1_barsOfTrial_1, eX1_barsOfTrial_2, eX1_barsOfTrial_3, eX1_barsOfTrial_5, eX1_barsOfTrial_6, eX1_barsOfTrial_9, eX1_barsOfTrial_12, eX1_barsOfTrial_13, eX1_barsOfTrial_16, eX1_barsOfTrial_17, eX1_barsOfTrial_18, eX1_barsOfTrial_21, eX1_barsOfTrial_24, eX1_barsOfTrial_25, eX1_barsOfTrial_28, eX1_barsOfTrial_29, eX1_barsOfTrial_32, eX1_barsOfTrial_33, eX1_barsOfTrial_34, eX1_barsOfTrial_37, eX1_barsOfTrial_40, eX1_barsOfTrial_41, eX1_barsOfTrial_44, eX1_barsOfTrial_45, eX1_barsOfTrial_46, eX1_barsOfTrial_47, eX1_barsOfTrial_48, eX1_barsOfTrial_49, eX1_barsOfTrial_50, eX1_barsOfTrial_53, eX1_barsOfTrial_56, eX1_barsOfTrial_57, Int.cast_ofNat_Int, Nat.reduceLT, Nat.reduceLeDiff, Nat.reduceEqDiff, Nat.reduceAdd, Nat.reduceMul, Int.reduceLE, Int.reduceLT, Int.reduceEq, not_false_iff, nlr, Nat.zero_add, Nat.add_zero, e10f, e01f, eq_self, true_and, and_true, false_and, and_false, and_self, decide_true, decide_false, mm_bd_i, mm_bd_v, if_true, if_false, not_true_eq_false, not_false_eq_true, nI_1, Bool.true_eq_false, Bool.false_eq_true, bI_0, n_le0, n_0lt, n_lt0, n_0le, n_eq0, n_eqm, n_eq1, n_le1, n_1lt, n_1le, n_lt1, nn_le, nI_ltI, nI_eq, nI_clamp, nI_add, pk_mul, i_eq0, i_eqm, i_0le, i_le0, i_0lt, i_lt0, i_mle, i_ltm, ii_le, iI_lt, iI_eq, ni_le, ni_lt, ni_eq, in_le, in_lt, in_eq, ni_add, in_add, ni_sub, in_sub, ni_mul, in_mul, iI_add, iI_sub, iI_mul, i_p1, iI_neg, n_neg, a3]
    · intro i hi ih
      have q4 := (rs i (by omega)).1
      have qv : mm_rv (F 4 (nI i).toNatClampNeg) = true := by rw [nI_clamp (by omega), q4]; rfl
      have q5 := (hA i hi).2.1
      have qp := (rs i (by omega)).2.1
      rw [← ih, eX1_barsOfTrial_4, orT]
      cases ei : st i with
      | none =>
        rw [ei] at q5
        have q5' : F (9 + 6 * i) 5 = .int (bI false) := by rw [q5]; rfl
        have t0 : barO hs st lm s c t i = false := decide_eq_false (fun q => q.2.1 ei)
        have o0 : ∀ x : Int32, x ||| 0 = x := fun x => Int32.or_zero
        simp (disch := first | assumption | exact zSw hz (by omega) | exact zSp hz (by omega) | exact zSd hz (by omega) | exact bI_or _ | exact zOK_O hz (by decide) (by decide) rfl | exact zOK_T hz (by decide) (by decide) rfl | (refine ix (zOK_l hz (by decide) (by decide) rfl) ?_; omega) | decide | omega) only [eX1_barsOfTrial_0, eX1_barsOfTrial_1, eX1_barsOfTrial_2, eX1_barsOfTrial_3, eX1_barsOfTrial_5, eX1_barsOfTrial_6, eX1_barsOfTrial_9, eX1_barsOfTrial_12, eX1_barsOfTrial_13, eX1_barsOfTrial_16, eX1_barsOfTrial_17, eX1_barsOfTrial_18, eX1_barsOfTrial_21, eX1_barsOfTrial_24, eX1_barsOfTrial_25, eX1_barsOfTrial_28, eX1_barsOfTrial_29, eX1_barsOfTrial_32, eX1_barsOfTrial_33, eX1_barsOfTrial_34, eX1_barsOfTrial_37, eX1_barsOfTrial_40, eX1_barsOfTrial_41, eX1_barsOfTrial_44, eX1_barsOfTrial_45, eX1_barsOfTrial_46, eX1_barsOfTrial_47, eX1_barsOfTrial_48, eX1_barsOfTrial_49, eX1_barsOfTrial_50, eX1_barsOfTrial_53, eX1_barsOfTrial_56, eX1_barsOfTrial_57, Int.cast_ofNat_Int, Nat.reduceLT, Nat.reduceLeDiff, Nat.reduceEqDiff, Nat.reduceAdd, Nat.reduceMul, Int.reduceLE, Int.reduceLT, Int.reduceEq, not_false_iff, nlr, Nat.zero_add, Nat.add_zero, e10f, e01f, eq_self, true_and, and_true, false_and, and_false, and_self, decide_true, decide_false, mm_bd_i, mm_bd_v, if_true, if_false, not_true_eq_false, not_false_eq_true, nI_1, Bool.true_eq_false, Bool.false_eq_true, bI_0, n_le0, n_0lt, n_lt0, n_0le, n_eq0, n_eqm, n_eq1, n_le1, n_1lt, n_1le, n_lt1, nn_le, nI_ltI, nI_eq, nI_clamp, nI_add, pk_mul, i_eq0, i_eqm, i_0le, i_le0, i_0lt, i_lt0, i_mle, i_ltm, ii_le, iI_lt, iI_eq, ni_le, ni_lt, ni_eq, in_le, in_lt, in_eq, ni_add, in_add, ni_sub, in_sub, ni_mul, in_mul, iI_add, iI_sub, iI_mul, i_p1, iI_neg, n_neg, a3, hi, r0, q4, q5', t0, o0]
      | some p =>
        obtain ⟨c', t'⟩ := p
        rw [ei] at q5
        have q5' : F (9 + 6 * i) 5 = .int (bI true) := by rw [q5]; rfl
        have vw := cHp_vw n hs st w ⟨⟨r0, r1, r2, r3, r4⟩, rs⟩ hP hi ei
        have qq := fun d' => cP_quarrels d' z F I L 5 6 (13 + 6 * i) (14 + 6 * i) _ _ _ _ hz (zO_5 hz) (zSp hz (by omega)) (zT_6 hz) (zSd hz (by omega)) (zl_6 hz) (zSdl hz (by omega)) v vw
        have ne : ¬ i = s := fun g => by rw [g, e] at ei; exact absurd ei (by simp)
        have qb : sumT (qAt (lH (hs s) c t (hs s).length) (lB (hs s) c t (hs s).length) (sH hs st i) (sB hs st i)) 64 ≤ 3 * 64 := sumT_le _ 3 (fun j => by unfold qAt q1 q3; (repeat' split) <;> omega) 64
        by_cases g : lm 1 < sumT (qAt (lH (hs s) c t (hs s).length) (lB (hs s) c t (hs s).length) (sH hs st i) (sB hs st i)) 64
        · have t0 : barO hs st lm s c t i = true := decide_eq_true ⟨ne, by rw [ei]; simp, g⟩
          simp (disch := first | assumption | exact zSw hz (by omega) | exact zSp hz (by omega) | exact zSd hz (by omega) | exact bI_or _ | exact zOK_O hz (by decide) (by decide) rfl | exact zOK_T hz (by decide) (by decide) rfl | (refine ix (zOK_l hz (by decide) (by decide) rfl) ?_; omega) | decide | omega) only [eX1_barsOfTrial_0, eX1_barsOfTrial_1, eX1_barsOfTrial_2, eX1_barsOfTrial_3, eX1_barsOfTrial_5, eX1_barsOfTrial_6, eX1_barsOfTrial_9, eX1_barsOfTrial_12, eX1_barsOfTrial_13, eX1_barsOfTrial_16, eX1_barsOfTrial_17, eX1_barsOfTrial_18, eX1_barsOfTrial_21, eX1_barsOfTrial_24, eX1_barsOfTrial_25, eX1_barsOfTrial_28, eX1_barsOfTrial_29, eX1_barsOfTrial_32, eX1_barsOfTrial_33, eX1_barsOfTrial_34, eX1_barsOfTrial_37, eX1_barsOfTrial_40, eX1_barsOfTrial_41, eX1_barsOfTrial_44, eX1_barsOfTrial_45, eX1_barsOfTrial_46, eX1_barsOfTrial_47, eX1_barsOfTrial_48, eX1_barsOfTrial_49, eX1_barsOfTrial_50, eX1_barsOfTrial_53, eX1_barsOfTrial_56, eX1_barsOfTrial_57, Int.cast_ofNat_Int, Nat.reduceLT, Nat.reduceLeDiff, Nat.reduceEqDiff, Nat.reduceAdd, Nat.reduceMul, Int.reduceLE, Int.reduceLT, Int.reduceEq, not_false_iff, nlr, Nat.zero_add, Nat.add_zero, e10f, e01f, eq_self, true_and, and_true, false_and, and_false, and_self, decide_true, decide_false, mm_bd_i, mm_bd_v, if_true, if_false, not_true_eq_false, not_false_eq_true, nI_1, Bool.true_eq_false, Bool.false_eq_true, bI_0, n_le0, n_0lt, n_lt0, n_0le, n_eq0, n_eqm, n_eq1, n_le1, n_1lt, n_1le, n_lt1, nn_le, nI_ltI, nI_eq, nI_clamp, nI_add, pk_mul, i_eq0, i_eqm, i_0le, i_le0, i_0lt, i_lt0, i_mle, i_ltm, ii_le, iI_lt, iI_eq, ni_le, ni_lt, ni_eq, in_le, in_lt, in_eq, ni_add, in_add, ni_sub, in_sub, ni_mul, in_mul, iI_add, iI_sub, iI_mul, i_p1, iI_neg, n_neg, a3, hi, r0, r1, q4, q5', qp, qq, t0, g]
        · have t0 : barO hs st lm s c t i = false := decide_eq_false (fun q => g q.2.2)
          have o0 : ∀ x : Int32, x ||| 0 = x := fun x => Int32.or_zero
          simp (disch := first | assumption | exact zSw hz (by omega) | exact zSp hz (by omega) | exact zSd hz (by omega) | exact bI_or _ | exact zOK_O hz (by decide) (by decide) rfl | exact zOK_T hz (by decide) (by decide) rfl | (refine ix (zOK_l hz (by decide) (by decide) rfl) ?_; omega) | decide | omega) only [eX1_barsOfTrial_0, eX1_barsOfTrial_1, eX1_barsOfTrial_2, eX1_barsOfTrial_3, eX1_barsOfTrial_5, eX1_barsOfTrial_6, eX1_barsOfTrial_9, eX1_barsOfTrial_12, eX1_barsOfTrial_13, eX1_barsOfTrial_16, eX1_barsOfTrial_17, eX1_barsOfTrial_18, eX1_barsOfTrial_21, eX1_barsOfTrial_24, eX1_barsOfTrial_25, eX1_barsOfTrial_28, eX1_barsOfTrial_29, eX1_barsOfTrial_32, eX1_barsOfTrial_33, eX1_barsOfTrial_34, eX1_barsOfTrial_37, eX1_barsOfTrial_40, eX1_barsOfTrial_41, eX1_barsOfTrial_44, eX1_barsOfTrial_45, eX1_barsOfTrial_46, eX1_barsOfTrial_47, eX1_barsOfTrial_48, eX1_barsOfTrial_49, eX1_barsOfTrial_50, eX1_barsOfTrial_53, eX1_barsOfTrial_56, eX1_barsOfTrial_57, Int.cast_ofNat_Int, Nat.reduceLT, Nat.reduceLeDiff, Nat.reduceEqDiff, Nat.reduceAdd, Nat.reduceMul, Int.reduceLE, Int.reduceLT, Int.reduceEq, not_false_iff, nlr, Nat.zero_add, Nat.add_zero, e10f, e01f, eq_self, true_and, and_true, false_and, and_false, and_self, decide_true, decide_false, mm_bd_i, mm_bd_v, if_true, if_false, not_true_eq_false, not_false_eq_true, nI_1, Bool.true_eq_false, Bool.false_eq_true, bI_0, n_le0, n_0lt, n_lt0, n_0le, n_eq0, n_eqm, n_eq1, n_le1, n_1lt, n_1le, n_lt1, nn_le, nI_ltI, nI_eq, nI_clamp, nI_add, pk_mul, i_eq0, i_eqm, i_0le, i_le0, i_0lt, i_lt0, i_mle, i_ltm, ii_le, iI_lt, iI_eq, ni_le, ni_lt, ni_eq, in_le, in_lt, in_eq, ni_add, in_add, ni_sub, in_sub, ni_mul, in_mul, iI_add, iI_sub, iI_mul, i_p1, iI_neg, n_neg, a3, hi, r0, r1, q4, q5', qp, qq, t0, g, o0]
  rw [← l 0 (by omega)]
  simp (disch := first | assumption | exact zSw hz (by omega) | exact zSp hz (by omega) | exact zSd hz (by omega) | exact bI_or _ | exact zOK_O hz (by decide) (by decide) rfl | exact zOK_T hz (by decide) (by decide) rfl | (refine ix (zOK_l hz (by decide) (by decide) rfl) ?_; omega) | decide | omega) only [eX1_barsOfTrial_0, eX1_barsOfTrial_1, eX1_barsOfTrial_2, eX1_barsOfTrial_3, eX1_barsOfTrial_5, eX1_barsOfTrial_6, eX1_barsOfTrial_9, eX1_barsOfTrial_12, eX1_barsOfTrial_13, eX1_barsOfTrial_16, eX1_barsOfTrial_17, eX1_barsOfTrial_18, eX1_barsOfTrial_21, eX1_barsOfTrial_24, eX1_barsOfTrial_25, eX1_barsOfTrial_28, eX1_barsOfTrial_29, eX1_barsOfTrial_32, eX1_barsOfTrial_33, eX1_barsOfTrial_34, eX1_barsOfTrial_37, eX1_barsOfTrial_40, eX1_barsOfTrial_41, eX1_barsOfTrial_44, eX1_barsOfTrial_45, eX1_barsOfTrial_46, eX1_barsOfTrial_47, eX1_barsOfTrial_48, eX1_barsOfTrial_49, eX1_barsOfTrial_50, eX1_barsOfTrial_53, eX1_barsOfTrial_56, eX1_barsOfTrial_57, Int.cast_ofNat_Int, Nat.reduceLT, Nat.reduceLeDiff, Nat.reduceEqDiff, Nat.reduceAdd, Nat.reduceMul, Int.reduceLE, Int.reduceLT, Int.reduceEq, not_false_iff, nlr, Nat.zero_add, Nat.add_zero, e10f, e01f, eq_self, true_and, and_true, false_and, and_false, and_self, decide_true, decide_false, mm_bd_i, mm_bd_v, if_true, if_false, not_true_eq_false, not_false_eq_true, nI_1, Bool.true_eq_false, Bool.false_eq_true, bI_0, n_le0, n_0lt, n_lt0, n_0le, n_eq0, n_eqm, n_eq1, n_le1, n_1lt, n_1le, n_lt1, nn_le, nI_ltI, nI_eq, nI_clamp, nI_add, pk_mul, i_eq0, i_eqm, i_0le, i_le0, i_0lt, i_lt0, i_mle, i_ltm, ii_le, iI_lt, iI_eq, ni_le, ni_lt, ni_eq, in_le, in_lt, in_eq, ni_add, in_add, ni_sub, in_sub, ni_mul, in_mul, iI_add, iI_sub, iI_mul, i_p1, iI_neg, n_neg]
  rfl
