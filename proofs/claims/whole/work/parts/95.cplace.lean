/-! the class: place and remove; hit, stand, part -/
def cHl (n : Nat) (hs : Nat → List (Int × Int × Nat)) (st : Nat → Option (Nat × Nat)) (F : Nat → Nat → Value) (I : Nat → Nat → Int32) (L : Nat → Nat → Int64) : Prop := cH0 F ∧ cHs n hs st F I ∧ cHp n hs st F L ∧ cHb n hs st F ∧ cPn (kd n hs st) F L
/-- nothing outside of the hall has changed -/
def hFr (F F' : Nat → Nat → Value) (L L' : Nat → Nat → Int64) : Prop := ∀ r, (r < 3 ∨ 56 < r) → F' r = F r ∧ L' r = L r
theorem cst_in (st : Nat → Option (Nat × Nat)) (s : Nat) (v : Nat × Nat) (h : st s = none) : ∀ n, s < n → cst (udf st s (some v)) n = cst st n + 1 := by
  intro n
  induction n with
  | zero => intro q; omega
  | succ n ih =>
    intro q
    rw [cst, cst]
    by_cases e : n = s
    · subst e
      rw [udf_s, h, cst_udf st (some v) n n (Nat.le_refl _)]
      simp
    · rw [udf_n _ _ e, ih (by omega)]; omega
theorem cst_out (st : Nat → Option (Nat × Nat)) (s : Nat) (h : ¬ st s = none) : ∀ n, s < n → cst (udf st s none) n + 1 = cst st n := by
  intro n
  induction n with
  | zero => intro q; omega
  | succ n ih =>
    intro q
    rw [cst, cst]
    by_cases e : n = s
    · subst e
      rw [udf_s, if_pos rfl, if_neg h, cst_udf st none n n (Nat.le_refl _)]
    · rw [udf_n _ _ e]
      have := ih (by omega)
      omega
theorem cH0_fr {F F' : Nat → Nat → Value} (h : cH0 F) (hf : ∀ x j, (x = 3 ∧ j < 3) ∨ x = 4 ∨ (∃ s, s < 8 ∧ x = 9 + 6 * s ∧ j = 3) ∨ (∃ s, s < 8 ∧ x = 13 + 6 * s ∧ j = 0) ∨ (x = 5 ∧ j = 0) ∨ (x = 7 ∧ j = 0) → F' x j = F x j) : cH0 F' := by
  obtain ⟨⟨r0, r1, r2, r3, r4⟩, rs⟩ := h
  refine ⟨⟨by rw [hf _ _ (by omega)]; exact r0, by rw [hf _ _ (by omega)]; exact r1, by rw [hf _ _ (by omega)]; exact r2, by rw [hf _ _ (by omega)]; exact r3, by rw [hf _ _ (by omega)]; exact r4⟩, fun s hs => ?_⟩
  have g := rs s hs
  rw [hf 4 s (by omega), hf (9 + 6 * s) 3 (Or.inr (Or.inr (Or.inl ⟨s, hs, rfl, rfl⟩))), hf (13 + 6 * s) 0 (Or.inr (Or.inr (Or.inr (Or.inl ⟨s, hs, rfl, rfl⟩))))]
  exact g
theorem kd_apart (n : Nat) (hs : Nat → List (Int × Int × Nat)) (st : Nat → Option (Nat × Nat)) (s : Nat) (h : st s = none) (hs' : Nat → List (Int × Int × Nat)) (hh : ∀ o, ¬ o = s → hs' o = hs o) (a : Nat) : exA st (sH hs' st) a n = exA st (sH hs st) a n ∧ exU st (sB hs' st) a n = exU st (sB hs st) a n := by
  have key : ∀ k, exA st (sH hs' st) a k = exA st (sH hs st) a k ∧ exU st (sB hs' st) a k = exU st (sB hs st) a k := by
    intro k
    induction k with
    | zero => exact ⟨rfl, rfl⟩
    | succ k ih =>
      rw [exA, exA, exU, exU, ih.1, ih.2]
      by_cases e : k = s
      · subst e
        rw [decide_eq_false (fun q => q.1 h), decide_eq_false (fun q => q.1 h), decide_eq_false (fun q => q.1 h), decide_eq_false (fun q => q.1 h)]
        exact ⟨rfl, rfl⟩
      · have e1 : sH hs' st k a = sH hs st k a := by unfold sH; rw [hh k e]
        have e2 : sB hs' st k a = sB hs st k a := by unfold sB; rw [hh k e]
        rw [e1, e2]
        exact ⟨rfl, rfl⟩
  exact key n
theorem cH_place_bad (d : Nat) (z : mm_Z) (F : Nat → Nat → Value) (I : Nat → Nat → Int32) (L : Nat → Nat → Int64) (n : Nat) (hs : Nat → List (Int × Int × Nat)) (st : Nat → Option (Nat × Nat)) (hz : zOK z) (w : wOK n hs st) (h : cHl n hs st F I L) (s c t : Nat) (hs' : s < n) (hc : c < 64) (ht : t < 4) (e : st s = none) (ho : lOk (hs s) c t (hs s).length = false) : ∃ F' L', mm_E (d + 5) mX1_place 0 [.ref 3, .ref (9 + 6 * s), .int (nI c), .int (nI t)] [] (z, F, I, L) = some (some (.int (-4)), (z, F', I, L')) ∧ cHl n hs st F' I L' ∧ hFr F F' L L' := by
  have w8 := w.1
  have ok := wOK_okH n hs st w hs'
  obtain ⟨h0, hS, hP, hB, hN⟩ := h
  have f0 := h0.2 s (by omega)
  have sw := (hS.2.2.1 s hs').1
  have bx := mnI_b (tX (hs s) t) (hs s).length (fun j hj => (tXY_b ok t hj).1)
  have by' := mnI_b (tY (hs s) t) (hs s).length (fun j hj => (tXY_b ok t hj).2)
  have cx := mxI_b (tX (hs s) t) (hs s).length (fun j hj => (tXY_b ok t hj).1)
  have cy := mxI_b (tY (hs s) t) (hs s).length (fun j hj => (tXY_b ok t hj).2)
  obtain ⟨F1, L1, d1, d2, d3, d4, d5⟩ := cP_draw d z F I L (13 + 6 * s) (14 + 6 * s) s t (hs s) hz (zSp hz (by omega)) (zSd hz (by omega)) (zSdl hz (by omega)) (by omega) ht (by omega) ok sw f0.2.2
  have la := cP_lay (d + 4) z F1 I L1 (13 + 6 * s) hz (zSp hz (by omega)) _ _ _ _ d2 bx.1 cx.1 by'.1 cy.1 c hc false (by rw [← lay_iff ok hc, ho])
  have q3 : F1 (9 + 6 * s) 3 = .ref (13 + 6 * s) := by rw [d4 _ _ (by omega)]; exact f0.2.1
  refine ⟨F1, L1, ?_, ⟨?_, ?_, ?_, ?_, ?_⟩, fun r hr => ⟨funext (fun j => d4 r j (by omega)), d5 r (by omega)⟩⟩
  · simp (disch := first | assumption | exact zSw hz (by omega) | exact zSp hz (by omega) | exact zSd hz (by omega) | exact bI_or _ | exact zOK_O hz (by decide) (by decide) rfl | exact zOK_T hz (by decide) (by decide) rfl | (refine ix (zOK_l hz (by decide) (by decide) rfl) ?_; omega) | decide | omega) only [eX1_place_0, eX1_place_1, eX1_place_4, eX1_place_5, eX1_place_6, eX1_place_9, eX1_place_10, eX1_place_13, eX1_place_14, eX1_place_17, eX1_place_20, eX1_place_22, eX1_place_23, eX1_place_24, eX1_place_25, eX1_place_28, eX1_place_29, eX1_place_30, eX1_place_33, eX1_place_34, eX1_place_35, eX1_place_38, eX1_place_39, eX1_place_40, eX1_place_43, eX1_place_44, eX1_place_45, eX1_place_48, eX1_place_49, eX1_place_52, eX1_place_53, eX1_place_56, Int.cast_ofNat_Int, Nat.reduceLT, Nat.reduceLeDiff, Nat.reduceEqDiff, Nat.reduceAdd, Nat.reduceMul, Int.reduceLE, Int.reduceLT, Int.reduceEq, not_false_iff, nlr, Nat.zero_add, Nat.add_zero, e10f, e01f, eq_self, true_and, and_true, false_and, and_false, and_self, decide_true, decide_false, mm_bd_i, mm_bd_v, if_true, if_false, not_true_eq_false, not_false_eq_true, nI_1, Bool.true_eq_false, Bool.false_eq_true, bI_0, n_le0, n_0lt, n_lt0, n_0le, n_eq0, n_eqm, n_eq1, n_le1, n_1lt, n_1le, n_lt1, nn_le, nI_ltI, nI_eq, nI_clamp, nI_add, pk_mul, i_eq0, i_eqm, i_0le, i_le0, i_0lt, i_lt0, i_mle, i_ltm, ii_le, iI_lt, iI_eq, ni_le, ni_lt, ni_eq, in_le, in_lt, in_eq, ni_add, in_add, ni_sub, in_sub, ni_mul, in_mul, iI_add, iI_sub, iI_mul, i_p1, iI_neg, n_neg, f0.2.1, d1, q3, la]
  · exact cH0_fr h0 (fun x j q => d4 x j (by
      rcases q with q | q | ⟨o, q1, q2, q3⟩ | ⟨o, q1, q2, q3⟩ | q | q <;> omega))
  · obtain ⟨a3, a4, hA, hB'⟩ := hS
    refine ⟨by rw [d4 _ _ (by omega)]; exact a3, by rw [d4 _ _ (by omega)]; exact a4, fun o ho' => ?_, fun o o1 o2 => ?_⟩
    · have g := hA o ho'
      refine ⟨swp_F g.1 (fun j _ _ _ => d4 _ _ (by omega)) rfl rfl rfl, by rw [d4 _ _ (by omega)]; exact g.2.1, fun c' t' q => ?_⟩
      rw [d4 _ _ (by omega), d4 _ _ (by omega)]; exact g.2.2 c' t' q
    · have g := hB' o o1 o2
      exact ⟨swp_F g.1 (fun j _ _ _ => d4 _ _ (by omega)) rfl rfl rfl, by rw [d4 _ _ (by omega)]; exact g.2⟩
  · intro o c' t' ho' q
    have ne : ¬ o = s := fun g => by rw [g, e] at q; exact absurd q (by simp)
    exact pLd_fr (hP o c' t' ho' q) (funext (fun j => d4 _ _ (by omega))) (d5 _ (by omega))
  · obtain ⟨vh, vb, g5, g6, gh, gb⟩ := hB
    exact ⟨vh, vb, by rw [d4 _ _ (by omega)]; exact g5, by rw [d4 _ _ (by omega)]; exact g6, gh, gb⟩
  · obtain ⟨⟨v, n1, n2⟩, n3, n4, n5⟩ := hN
    exact ⟨⟨v, by rw [d4 _ _ (by omega)]; exact n1, n2⟩, by rw [d4 _ _ (by omega)]; exact n3, by rw [d4 _ _ (by omega)]; exact n4, fun r hr => by rw [d5 _ (by omega)]; exact n5 r hr⟩
theorem cH_place (d : Nat) (z : mm_Z) (F : Nat → Nat → Value) (I : Nat → Nat → Int32) (L : Nat → Nat → Int64) (n : Nat) (hs : Nat → List (Int × Int × Nat)) (st : Nat → Option (Nat × Nat)) (hz : zOK z) (w : wOK n hs st) (h : cHl n hs st F I L) (s c t : Nat) (hs' : s < n) (hc : c < 64) (ht : t < 4) (e : st s = none) (ho : lOk (hs s) c t (hs s).length = true) : ∃ F' L', mm_E (d + 5) mX1_place 0 [.ref 3, .ref (9 + 6 * s), .int (nI c), .int (nI t)] [] (z, F, I, L) = some (some (.int (nI (cst (udf st s (some (c, t))) n))), (z, F', I, L')) ∧ cHl n hs (udf st s (some (c, t))) F' I L' ∧ hFr F F' L L' := by
  have w8 := w.1
  have ok := wOK_okH n hs st w hs'
  have un := wOK_unq n hs st w hs'
  have w' := wOK_stand n hs st w s c t hc ht ho
  obtain ⟨h0, hS, hP, hB, hN⟩ := h
  have f0 := h0.2 s (by omega)
  have sw := (hS.2.2.1 s hs').1
  have bx := mnI_b (tX (hs s) t) (hs s).length (fun j hj => (tXY_b ok t hj).1)
  have by' := mnI_b (tY (hs s) t) (hs s).length (fun j hj => (tXY_b ok t hj).2)
  have cx := mxI_b (tX (hs s) t) (hs s).length (fun j hj => (tXY_b ok t hj).1)
  have cy := mxI_b (tY (hs s) t) (hs s).length (fun j hj => (tXY_b ok t hj).2)
  have li := (lay_iff ok hc).mp ho
  obtain ⟨F1, L1, d1, d2, d3, d4, d5⟩ := cP_draw d z F I L (13 + 6 * s) (14 + 6 * s) s t (hs s) hz (zSp hz (by omega)) (zSd hz (by omega)) (zSdl hz (by omega)) (by omega) ht (by omega) ok sw f0.2.2
  have la := cP_lay (d + 4) z F1 I L1 (13 + 6 * s) hz (zSp hz (by omega)) _ _ _ _ d2 bx.1 cx.1 by'.1 cy.1 c hc true (by rw [← lay_iff ok hc, ho])
  have q3 : F1 (9 + 6 * s) 3 = .ref (13 + 6 * s) := by rw [d4 _ _ (by omega)]; exact f0.2.1
  have pl := pDr_laid ok un hc (d3 (by omega) (by omega)) ho
  generalize hsh : ((c : Int) + 8 * mnI (tY (hs s) t) (hs s).length + mnI (tX (hs s) t) (hs s).length).toNat = sh at *
  simp only [if_true] at la
  have c1 := cst_in st s (c, t) e n hs'
  have cl := cst_le st n
  let F3 := mm_up2 (mm_up2 (mm_up2 (mm_up2 (mm_up2 F1 (13 + 6 * s) 7 (.int (nI sh))) (9 + 6 * s) 5 (.int 1)) (9 + 6 * s) 6 (.int (nI c))) (9 + 6 * s) 7 (.int (nI t))) 3 4 (.int (nI (cst st n + 1)))
  have f3 : ∀ x j, ¬ (x = 13 + 6 * s ∧ 1 ≤ j ∧ j ≤ 7) → ¬ (x = 9 + 6 * s ∧ 5 ≤ j ∧ j ≤ 7) → ¬ (x = 3 ∧ j = 4) → F3 x j = F x j := by
    intro x j a1 a2 a3
    show mm_up2 _ _ _ _ _ _ = _
    unfold mm_up2
    rw [if_neg (by omega), if_neg (by omega), if_neg (by omega), if_neg (by omega), if_neg (by omega)]
    exact d4 x j (by omega)
  have g0 : cH0 F3 := cH0_fr h0 (fun x j q => f3 x j (by rcases q with q | q | ⟨o, q1, q2, q3⟩ | ⟨o, q1, q2, q3⟩ | q | q <;> omega) (by rcases q with q | q | ⟨o, q1, q2, q3⟩ | ⟨o, q1, q2, q3⟩ | q | q <;> omega) (by rcases q with q | q | ⟨o, q1, q2, q3⟩ | ⟨o, q1, q2, q3⟩ | q | q <;> omega))
  obtain ⟨a3, a4, hA, hB'⟩ := hS
  have gS : cHs n hs (udf st s (some (c, t))) F3 I := by
    refine ⟨by rw [f3 _ _ (by omega) (by omega) (by omega)]; exact a3, by show mm_up2 _ _ _ _ _ _ = _; rw [up_s, c1], fun o ho' => ?_, fun o o1 o2 => ?_⟩
    · have g := hA o ho'
      by_cases q : o = s
      · subst q
        rw [udf_s]
        refine ⟨swp_F g.1 (fun j j5 j6 j7 => f3 _ _ (by omega) (by omega) (by omega)) rfl rfl rfl, ?_, fun c' t' q => ?_⟩
        · show mm_up2 _ _ _ _ _ _ = _
          rw [up_r _ _ _ _ (by omega), up_k _ _ _ _ (by decide), up_k _ _ _ _ (by decide), up_s]
          rfl
        · have q1 := Option.some.inj q
          have q2 := congrArg Prod.fst q1
          have q3 := congrArg Prod.snd q1
          simp only at q2 q3
          subst q2; subst q3
          constructor
          · show mm_up2 _ _ _ _ _ _ = _
            rw [up_r _ _ _ _ (by omega), up_k _ _ _ _ (by decide), up_s]
          · show mm_up2 _ _ _ _ _ _ = _
            rw [up_r _ _ _ _ (by omega), up_s]
      · rw [udf_n _ _ q]
        refine ⟨swp_F g.1 (fun j _ _ _ => f3 _ _ (by omega) (by omega) (by omega)) rfl rfl rfl, by rw [f3 _ _ (by omega) (by omega) (by omega)]; exact g.2.1, fun c' t' q => ?_⟩
        rw [f3 _ _ (by omega) (by omega) (by omega), f3 _ _ (by omega) (by omega) (by omega)]
        exact g.2.2 c' t' q
    · have g := hB' o o1 o2
      exact ⟨swp_F g.1 (fun j _ _ _ => f3 _ _ (by omega) (by omega) (by omega)) rfl rfl rfl, by rw [f3 _ _ (by omega) (by omega) (by omega)]; exact g.2⟩
  have gP : cHp n hs (udf st s (some (c, t))) F3 L1 := by
    intro o c' t' ho' q
    by_cases g : o = s
    · subst g
      rw [udf_s] at q
      have q1 := Option.some.inj q
      have q2 := congrArg Prod.fst q1
      have q3 := congrArg Prod.snd q1
      simp only at q2 q3
      subst q2; subst q3
      exact pLd_fr pl (funext (fun j => by show mm_up2 _ _ _ _ _ _ = _; rw [up_r _ _ _ _ (by omega), up_r _ _ _ _ (by omega), up_r _ _ _ _ (by omega), up_r _ _ _ _ (by omega)])) rfl
    · rw [udf_n _ _ g] at q
      exact pLd_fr (hP o c' t' ho' q) (funext (fun j => f3 _ _ (by omega) (by omega) (by omega))) (d5 _ (by omega))
  obtain ⟨F', L', k1, k2, k3, k4, k5⟩ := cH_look d z F3 I L1 n hs (udf st s (some (c, t))) hz w' g0 gS gP
  refine ⟨F', L', ?_, ⟨?_, ?_, ?_, k2, k3⟩, fun r hr => ⟨funext (fun j => by rw [k4 r j (by omega) (by omega), f3 r j (by omega) (by omega) (by omega)]), by rw [k5 r (by omega), d5 r (by omega)]⟩⟩
  · have q34 : F' 3 4 = .int (nI (cst (udf st s (some (c, t))) n)) := by rw [k4 _ _ (by omega) (by omega)]; exact gS.2.1
    have q4 : F1 3 4 = .int (nI (cst st n)) := by rw [d4 _ _ (by omega)]; exact a4
    have k1' : mm_E (d + 4) mX1_lookAgain 0 [.ref 3, uu] [] (z, mm_up2 (mm_up2 (mm_up2 (mm_up2 (mm_up2 F1 (13 + 6 * s) 7 (.int (nI sh))) (9 + 6 * s) 5 (.int 1)) (9 + 6 * s) 6 (.int (nI c))) (9 + 6 * s) 7 (.int (nI t))) 3 4 (.int (nI (cst st n + 1))), I, L1) = some (none, (z, F', I, L')) := k1
    simp (disch := first | assumption | exact zSw hz (by omega) | exact zSp hz (by omega) | exact zSd hz (by omega) | exact bI_or _ | exact zOK_O hz (by decide) (by decide) rfl | exact zOK_T hz (by decide) (by decide) rfl | (refine ix (zOK_l hz (by decide) (by decide) rfl) ?_; omega) | decide | omega) only [eX1_place_0, eX1_place_1, eX1_place_4, eX1_place_5, eX1_place_6, eX1_place_9, eX1_place_10, eX1_place_13, eX1_place_14, eX1_place_17, eX1_place_20, eX1_place_22, eX1_place_23, eX1_place_24, eX1_place_25, eX1_place_28, eX1_place_29, eX1_place_30, eX1_place_33, eX1_place_34, eX1_place_35, eX1_place_38, eX1_place_39, eX1_place_40, eX1_place_43, eX1_place_44, eX1_place_45, eX1_place_48, eX1_place_49, eX1_place_52, eX1_place_53, eX1_place_56, Int.cast_ofNat_Int, Nat.reduceLT, Nat.reduceLeDiff, Nat.reduceEqDiff, Nat.reduceAdd, Nat.reduceMul, Int.reduceLE, Int.reduceLT, Int.reduceEq, not_false_iff, nlr, Nat.zero_add, Nat.add_zero, e10f, e01f, eq_self, true_and, and_true, false_and, and_false, and_self, decide_true, decide_false, mm_bd_i, mm_bd_v, if_true, if_false, not_true_eq_false, not_false_eq_true, nI_1, Bool.true_eq_false, Bool.false_eq_true, bI_0, n_le0, n_0lt, n_lt0, n_0le, n_eq0, n_eqm, n_eq1, n_le1, n_1lt, n_1le, n_lt1, nn_le, nI_ltI, nI_eq, nI_clamp, nI_add, pk_mul, i_eq0, i_eqm, i_0le, i_le0, i_0lt, i_lt0, i_mle, i_ltm, ii_le, iI_lt, iI_eq, ni_le, ni_lt, ni_eq, in_le, in_lt, in_eq, ni_add, in_add, ni_sub, in_sub, ni_mul, in_mul, iI_add, iI_sub, iI_mul, i_p1, iI_neg, n_neg, f0.2.1, d1, q3, la, up_r, q4, k1', q34]
  · exact cH0_fr g0 (fun x j q => k4 x j (by rcases q with q | q | ⟨o, q1, q2, q3⟩ | ⟨o, q1, q2, q3⟩ | q | q <;> omega) (by rcases q with q | q | ⟨o, q1, q2, q3⟩ | ⟨o, q1, q2, q3⟩ | q | q <;> omega))
  · obtain ⟨b3, b4, gA, gB⟩ := gS
    refine ⟨by rw [k4 _ _ (by omega) (by omega)]; exact b3, by rw [k4 _ _ (by omega) (by omega)]; exact b4, fun o ho' => ?_, fun o o1 o2 => ?_⟩
    · have g := gA o ho'
      refine ⟨swp_F g.1 (fun j _ _ _ => k4 _ _ (by omega) (by omega)) rfl rfl rfl, by rw [k4 _ _ (by omega) (by omega)]; exact g.2.1, fun c' t' q => ?_⟩
      rw [k4 _ _ (by omega) (by omega), k4 _ _ (by omega) (by omega)]; exact g.2.2 c' t' q
    · have g := gB o o1 o2
      exact ⟨swp_F g.1 (fun j _ _ _ => k4 _ _ (by omega) (by omega)) rfl rfl rfl, by rw [k4 _ _ (by omega) (by omega)]; exact g.2⟩
  · intro o c' t' ho' q
    exact pLd_fr (gP o c' t' ho' q) (funext (fun j => k4 _ _ (by omega) (by omega))) (k5 _ (by omega))
theorem cH_remove (d : Nat) (z : mm_Z) (F : Nat → Nat → Value) (I : Nat → Nat → Int32) (L : Nat → Nat → Int64) (n : Nat) (hs : Nat → List (Int × Int × Nat)) (st : Nat → Option (Nat × Nat)) (hz : zOK z) (w : wOK n hs st) (h : cHl n hs st F I L) (s c t : Nat) (hs' : s < n) (e : st s = some (c, t)) : ∃ F' L', mm_E (d + 5) mX1_remove 0 [.ref 3, .ref (9 + 6 * s)] [] (z, F, I, L) = some (some (.int (nI (4 * c + t))), (z, F', I, L')) ∧ cHl n hs (udf st s none) F' I L' ∧ hFr F F' L L' := by
  have w8 := w.1
  have w' := wOK_part n hs st w s
  obtain ⟨h0, hS, hP, hB, hN⟩ := h
  obtain ⟨a3, a4, hA, hB'⟩ := hS
  have c1 := cst_out st s (by rw [e]; simp) n hs'
  have cl := cst_le st n
  have m1 := (hA s hs').2.2 c t e
  let F3 := mm_up2 (mm_up2 F (9 + 6 * s) 5 (.int 0)) 3 4 (.int (nI (cst (udf st s none) n)))
  have f3 : ∀ x j, ¬ (x = 9 + 6 * s ∧ j = 5) → ¬ (x = 3 ∧ j = 4) → F3 x j = F x j := by
    intro x j a2 a3
    show mm_up2 _ _ _ _ _ _ = _
    unfold mm_up2
    rw [if_neg (by omega), if_neg (by omega)]
  have g0 : cH0 F3 := cH0_fr h0 (fun x j q => f3 x j (by rcases q with q | q | ⟨o, q1, q2, q3⟩ | ⟨o, q1, q2, q3⟩ | q | q <;> omega) (by rcases q with q | q | ⟨o, q1, q2, q3⟩ | ⟨o, q1, q2, q3⟩ | q | q <;> omega))
  have gS : cHs n hs (udf st s none) F3 I := by
    refine ⟨by rw [f3 _ _ (by omega) (by omega)]; exact a3, up_s _ _ _ _, fun o ho' => ?_, fun o o1 o2 => ?_⟩
    · have g := hA o ho'
      by_cases q : o = s
      · subst q
        rw [udf_s]
        refine ⟨swp_F g.1 (fun j j5 j6 j7 => f3 _ _ (by omega) (by omega)) rfl rfl rfl, ?_, fun c' t' q => absurd q (by simp)⟩
        show mm_up2 _ _ _ _ _ _ = _
        rw [up_r _ _ _ _ (by omega), up_s]
        rfl
      · rw [udf_n _ _ q]
        refine ⟨swp_F g.1 (fun j _ _ _ => f3 _ _ (by omega) (by omega)) rfl rfl rfl, by rw [f3 _ _ (by omega) (by omega)]; exact g.2.1, fun c' t' q => ?_⟩
        rw [f3 _ _ (by omega) (by omega), f3 _ _ (by omega) (by omega)]
        exact g.2.2 c' t' q
    · have g := hB' o o1 o2
      exact ⟨swp_F g.1 (fun j _ _ _ => f3 _ _ (by omega) (by omega)) rfl rfl rfl, by rw [f3 _ _ (by omega) (by omega)]; exact g.2⟩
  have gP : cHp n hs (udf st s none) F3 L := by
    intro o c' t' ho' q
    by_cases g : o = s
    · subst g
      rw [udf_s] at q
      exact absurd q (by simp)
    · rw [udf_n _ _ g] at q
      exact pLd_fr (hP o c' t' ho' q) (funext (fun j => f3 _ _ (by omega) (by omega))) rfl
  obtain ⟨F', L', k1, k2, k3, k4, k5⟩ := cH_look d z F3 I L n hs (udf st s none) hz w' g0 gS gP
  refine ⟨F', L', ?_, ⟨?_, ?_, ?_, k2, k3⟩, fun r hr => ⟨funext (fun j => by rw [k4 r j (by omega) (by omega), f3 r j (by omega) (by omega)]), k5 r (by omega)⟩⟩
  · have q6 : F' (9 + 6 * s) 6 = .int (nI c) := by rw [k4 _ _ (by omega) (by omega), f3 _ _ (by omega) (by omega)]; exact m1.1
    have q7 : F' (9 + 6 * s) 7 = .int (nI t) := by rw [k4 _ _ (by omega) (by omega), f3 _ _ (by omega) (by omega)]; exact m1.2
    have s1 : nI (cst st n) - 1 = nI (cst (udf st s none) n) := by rw [← c1]; exact nI_pred _
    have k1' : mm_E (d + 4) mX1_lookAgain 0 [.ref 3, uu] [] (z, mm_up2 (mm_up2 F (9 + 6 * s) 5 (.int 0)) 3 4 (.int (nI (cst (udf st s none) n))), I, L) = some (none, (z, F', I, L')) := k1
    simp (disch := first | assumption | exact zSw hz (by omega) | exact zSp hz (by omega) | exact zSd hz (by omega) | exact bI_or _ | exact zOK_O hz (by decide) (by decide) rfl | exact zOK_T hz (by decide) (by decide) rfl | (refine ix (zOK_l hz (by decide) (by decide) rfl) ?_; omega) | decide | omega) only [eX1_remove_0, eX1_remove_1, eX1_remove_2, eX1_remove_5, eX1_remove_6, eX1_remove_7, eX1_remove_10, eX1_remove_11, eX1_remove_12, eX1_remove_15, eX1_remove_16, eX1_remove_19, eX1_remove_20, eX1_remove_21, eX1_remove_24, eX1_remove_25, eX1_remove_26, eX1_remove_29, eX1_remove_30, Int.cast_ofNat_Int, Nat.reduceLT, Nat.reduceLeDiff, Nat.reduceEqDiff, Nat.reduceAdd, Nat.reduceMul, Int.reduceLE, Int.reduceLT, Int.reduceEq, not_false_iff, nlr, Nat.zero_add, Nat.add_zero, e10f, e01f, eq_self, true_and, and_true, false_and, and_false, and_self, decide_true, decide_false, mm_bd_i, mm_bd_v, if_true, if_false, not_true_eq_false, not_false_eq_true, nI_1, Bool.true_eq_false, Bool.false_eq_true, bI_0, n_le0, n_0lt, n_lt0, n_0le, n_eq0, n_eqm, n_eq1, n_le1, n_1lt, n_1le, n_lt1, nn_le, nI_ltI, nI_eq, nI_clamp, nI_add, pk_mul, i_eq0, i_eqm, i_0le, i_le0, i_0lt, i_lt0, i_mle, i_ltm, ii_le, iI_lt, iI_eq, ni_le, ni_lt, ni_eq, in_le, in_lt, in_eq, ni_add, in_add, ni_sub, in_sub, ni_mul, in_mul, iI_add, iI_sub, iI_mul, i_p1, iI_neg, n_neg, up_r, a4, s1, k1', q6, q7]
  · exact cH0_fr g0 (fun x j q => k4 x j (by rcases q with q | q | ⟨o, q1, q2, q3⟩ | ⟨o, q1, q2, q3⟩ | q | q <;> omega) (by rcases q with q | q | ⟨o, q1, q2, q3⟩ | ⟨o, q1, q2, q3⟩ | q | q <;> omega))
  · obtain ⟨b3, b4, gA, gB⟩ := gS
    refine ⟨by rw [k4 _ _ (by omega) (by omega)]; exact b3, by rw [k4 _ _ (by omega) (by omega)]; exact b4, fun o ho' => ?_, fun o o1 o2 => ?_⟩
    · have g := gA o ho'
      refine ⟨swp_F g.1 (fun j _ _ _ => k4 _ _ (by omega) (by omega)) rfl rfl rfl, by rw [k4 _ _ (by omega) (by omega)]; exact g.2.1, fun c' t' q => ?_⟩
      rw [k4 _ _ (by omega) (by omega), k4 _ _ (by omega) (by omega)]; exact g.2.2 c' t' q
    · have g := gB o o1 o2
      exact ⟨swp_F g.1 (fun j _ _ _ => k4 _ _ (by omega) (by omega)) rfl rfl rfl, by rw [k4 _ _ (by omega) (by omega)]; exact g.2⟩
  · intro o c' t' ho' q
    exact pLd_fr (gP o c' t' ho' q) (funext (fun j => k4 _ _ (by omega) (by omega))) (k5 _ (by omega))
