/-! where a thing fits: what it is, and the class's side -/
theorem zTo {z : mm_Z} {t : Nat} (hz : zOK z) (ht : t = 60 ∨ t = 66) : mm_zO z t 9 := by rcases ht with rfl | rfl <;> exact zOK_O hz (by decide) (by decide) rfl
theorem zTt {z : mm_Z} {t j : Nat} (hz : zOK z) (ht : t = 60 ∨ t = 66) (h1 : 1 ≤ j) (h5 : j ≤ 5) : mm_zT z (t + j) 0 := by
  have : j = 1 ∨ j = 2 ∨ j = 3 ∨ j = 4 ∨ j = 5 := by omega
  rcases ht with rfl | rfl <;> rcases this with rfl | rfl | rfl | rfl | rfl <;> exact zOK_T hz (by decide) (by decide) rfl
theorem zTl {z : mm_Z} {t j : Nat} (hz : zOK z) (ht : t = 60 ∨ t = 66) (h1 : 1 ≤ j) (h4 : j ≤ 4) : mm_zl z (t + j) = 10 := by
  have : j = 1 ∨ j = 2 ∨ j = 3 ∨ j = 4 := by omega
  rcases ht with rfl | rfl <;> rcases this with rfl | rfl | rfl | rfl <;> exact zOK_l hz (by decide) (by decide) (t := 0) rfl
theorem zTl5 {z : mm_Z} {t : Nat} (hz : zOK z) (ht : t = 60 ∨ t = 66) : mm_zl z (t + 5) = 256 := by
  rcases ht with rfl | rfl <;> exact zOK_l hz (by decide) (by decide) (t := 0) rfl
theorem cHl_cg (n : Nat) (hs : Nat → List (Int × Int × Nat)) (st : Nat → Option (Nat × Nat)) {F F' : Nat → Nat → Value} {I I' : Nat → Nat → Int32} {L L' : Nat → Nat → Int64} (h : cHl n hs st F I L) (w8 : n ≤ 8) (d4 : ∀ x, 3 ≤ x → x ≤ 56 → F' x = F x) (dI : ∀ x, 3 ≤ x → x ≤ 56 → I' x = I x) (d5 : ∀ x, 3 ≤ x → x ≤ 56 → L' x = L x) : cHl n hs st F' I' L' := by
  obtain ⟨h0, hS, hP, hB, hN⟩ := h
  have f := fun x (j : Nat) (a : 3 ≤ x) (b : x ≤ 56) => congrFun (d4 x a b) j
  refine ⟨cH0_fr h0 (fun x j q => f x j (by rcases q with q | q | ⟨o, q1, q2, q3⟩ | ⟨o, q1, q2, q3⟩ | q | q <;> omega) (by rcases q with q | q | ⟨o, q1, q2, q3⟩ | ⟨o, q1, q2, q3⟩ | q | q <;> omega)), ?_, ?_, ?_, ?_⟩
  · obtain ⟨a3, a4, hA, hB'⟩ := hS
    refine ⟨by rw [f _ _ (by omega) (by omega)]; exact a3, by rw [f _ _ (by omega) (by omega)]; exact a4, fun o ho' => ?_, fun o o1 o2 => ?_⟩
    · have g := hA o ho'
      refine ⟨swp_F g.1 (fun j _ _ _ => f _ _ (by omega) (by omega)) (dI _ (by omega) (by omega)) (dI _ (by omega) (by omega)) (dI _ (by omega) (by omega)), by rw [f _ _ (by omega) (by omega)]; exact g.2.1, fun c' t' q => ?_⟩
      rw [f _ _ (by omega) (by omega), f _ _ (by omega) (by omega)]; exact g.2.2 c' t' q
    · have g := hB' o o1 o2
      exact ⟨swp_F g.1 (fun j _ _ _ => f _ _ (by omega) (by omega)) (dI _ (by omega) (by omega)) (dI _ (by omega) (by omega)) (dI _ (by omega) (by omega)), by rw [f _ _ (by omega) (by omega)]; exact g.2⟩
  · intro o c' t' ho' q
    exact pLd_fr (hP o c' t' ho' q) (d4 _ (by omega) (by omega)) (d5 _ (by omega) (by omega))
  · obtain ⟨vh, vb, g5, g6, gh, gb⟩ := hB
    exact ⟨vh, vb, by rw [f _ _ (by omega) (by omega)]; exact g5, by rw [f _ _ (by omega) (by omega)]; exact g6, gh, gb⟩
  · obtain ⟨⟨v, n1, n2⟩, n3, n4, n5⟩ := hN
    exact ⟨⟨v, by rw [f _ _ (by omega) (by omega)]; exact n1, n2⟩, by rw [f _ _ (by omega) (by omega)]; exact n3, by rw [f _ _ (by omega) (by omega)]; exact n4, fun r hr => by rw [d5 _ (by omega) (by omega)]; exact n5 r hr⟩
def oI : Option Nat → Int
  | none => -1
  | some a => a
def mkA (n : Nat) (hs : Nat → List (Int × Int × Nat)) (st : Nat → Option (Nat × Nat)) (m a : Nat) : Bool := mkO st (sH hs st) m a n
def ceC (K : Nat → Nat) (M : Nat → Nat → Bool) (ln : Nat × Nat × Nat × Nat) (a : Nat) : Option Nat := if K a = 0 then some 1 else if (if ln.1 = 0 then decide (K a = 2) else if ln.1 = 1 then decide (K a = 1) else M ln.2.1 a) = true then some 0 else none
def lnC (K : Nat → Nat) (M : Nat → Nat → Bool) (ln : Nat × Nat × Nat × Nat) (c t : Nat) : Option Nat := if pIn ln.2.2.1 ln.2.2.2 c t = true then ceC K M ln (pAt ln.2.2.1 ln.2.2.2 c t).toNat else none
def cS (K : Nat → Nat) (M : Nat → Nat → Bool) (th : Nat → Nat × Nat × Nat × Nat) (c t : Nat) : Nat → Option Nat
  | 0 => some 0
  | q + 1 => (cS K M th c t q).bind (fun a => (lnC K M (th q) c t).bind (fun b => some (a + b)))
theorem ceC_le (K : Nat → Nat) (M : Nat → Nat → Bool) (ln : Nat × Nat × Nat × Nat) (a b : Nat) (h : ceC K M ln a = some b) : b ≤ 1 := by
  unfold ceC at h
  repeat' split at h
  all_goals first | (injection h with h; omega) | exact absurd h (by simp)
theorem cS_none {K : Nat → Nat} {M : Nat → Nat → Bool} {th : Nat → Nat × Nat × Nat × Nat} {c t q : Nat} (h : cS K M th c t q = none) : ∀ m, q ≤ m → cS K M th c t m = none := by
  intro m
  induction m with
  | zero => intro hq; have e : q = 0 := by omega
            rw [e] at h; exact h
  | succ m ih =>
    intro hq
    by_cases e : q = m + 1
    · rw [← e]; exact h
    · rw [cS, ih (by omega)]; rfl
theorem cS_le {K : Nat → Nat} {M : Nat → Nat → Bool} {th : Nat → Nat × Nat × Nat × Nat} {c t : Nat} : ∀ q a, cS K M th c t q = some a → a ≤ q := by
  intro q
  induction q with
  | zero => intro a h; rw [cS] at h; injection h with h; omega
  | succ q ih =>
    intro a h
    rw [cS] at h
    cases e : cS K M th c t q with
    | none => rw [e] at h; exact absurd h (by simp)
    | some b =>
      rw [e] at h
      cases e2 : lnC K M (th q) c t with
      | none => rw [e2] at h; exact absurd h (by simp)
      | some b2 =>
        rw [e2] at h
        have h' : b + b2 = a := by injection h
        have := ih b e
        have : b2 ≤ 1 := by
          unfold lnC at e2
          split at e2
          · exact ceC_le _ _ _ _ _ e2
          · exact absurd e2 (by simp)
        omega
/-- the rows of a thing's lines -/
def okLn' (ln : Nat × Nat × Nat × Nat) : Prop := ln.1 < 3 ∧ ln.2.1 ≤ 9 ∧ ln.2.2.1 ≤ 7 ∧ ln.2.2.2 ≤ 7
theorem cF_costOf (d : Nat) (z : mm_Z) (F : Nat → Nat → Value) (I : Nat → Nat → Int32) (L : Nat → Nat → Int64) (n : Nat) (hs : Nat → List (Int × Int × Nat)) (st : Nat → Option (Nat × Nat)) (hz : zOK z) (w : wOK n hs st) (h : cHl n hs st F I L) (t : Nat) (ht : t = 60 ∨ t = 66) (c : Nat) (th : Nat → Nat × Nat × Nat × Nat) (hZ : thZ t F) (hR : thR t c th F I) (q a : Nat) (hq : q < c) (hc : c ≤ 10) (ok : okLn' (th q)) (ha : a < 64) : mm_E (d + 3) mX9_costOf 0 [.ref t, .ref 3, .int (nI q), .int (nI a), uu, uu] [] (z, F, I, L) = some (some (.int (iI (oI (ceC (kd n hs st) (mkA n hs st) (th q) a)))), (z, F, I, L)) := by
  obtain ⟨z0, z1, z2, z3, z4⟩ := hZ
  obtain ⟨r5, rr⟩ := hR
  obtain ⟨l1, l2, l3, l4⟩ := rr q hq
  have ko := fun d' => cH_kindOf d' z F I L n hs st hz h.2.2.2.1 a ha
  have mk := fun d' => cH_mark d' z F I L n hs st hz w h (th q).2.1 a ok.2.1 ha
  have kl := kd_le n hs st a
  have i1 : iI 1 = 1 := by decide +kernel
  unfold ceC
  by_cases k0 : kd n hs st a = 0
  · rw [if_pos k0]
    show _ = some (some (Value.int (iI 1)), (z, F, I, L))
    rw [i1]
    simp (disch := first | assumption | exact zTo hz ht | exact zTt hz ht (by decide) (by decide) | (refine ix (zTl hz ht (by decide) (by decide)) ?_; omega) | (refine ix (zTl5 hz ht) ?_; omega) | exact bI_or _ | exact zOK_O hz (by decide) (by decide) rfl | exact zOK_T hz (by decide) (by decide) rfl | (refine ix (zOK_l hz (by decide) (by decide) rfl) ?_; omega) | decide | omega) only [eX9_costOf_0, eX9_costOf_1, eX9_costOf_2, eX9_costOf_5, eX9_costOf_7, eX9_costOf_9, eX9_costOf_12, eX9_costOf_13, eX9_costOf_14, eX9_costOf_15, eX9_costOf_18, eX9_costOf_19, eX9_costOf_20_0, eX9_costOf_20_1, eX9_costOf_20_o, eX9_costOf_48, eX9_costOf_50, eX9_costOf_51, eX9_costOf_54, eX9_costOf_55, eX9_costOf_58, eX9_costOf_59, eX9_costOf_61, eX9_costOf_64, eX9_costOf_66, eX9_costOf_67, eX9_costOf_70, eX9_costOf_71, eX9_costOf_74, eX9_costOf_75, eX9_costOf_77, eX9_costOf_80, eX9_costOf_81, eX9_costOf_82, eX9_costOf_85, eX9_costOf_86, eX9_costOf_87, eX9_costOf_88, eX9_costOf_91, eX9_costOf_93, eX9_costOf_95, eX9_costOf_98, eX9_costOf_99, eX9_costOf_102, eX9_costOf_103, Int.cast_ofNat_Int, Nat.reduceLT, Nat.reduceLeDiff, Nat.reduceEqDiff, Nat.reduceAdd, Nat.reduceMul, Int.reduceLE, Int.reduceLT, Int.reduceEq, not_false_iff, nlr, Nat.zero_add, Nat.add_zero, e10f, e01f, eq_self, true_and, and_true, false_and, and_false, and_self, decide_true, decide_false, mm_bd_i, mm_bd_v, if_true, if_false, not_true_eq_false, not_false_eq_true, nI_1, Bool.true_eq_false, Bool.false_eq_true, bI_0, n_le0, n_0lt, n_lt0, n_0le, n_eq0, n_eqm, n_eq1, n_le1, n_1lt, n_1le, n_lt1, nn_le, nI_ltI, nI_eq, nI_clamp, nI_add, pk_mul, i_eq0, i_eqm, i_0le, i_le0, i_0lt, i_lt0, i_mle, i_ltm, ii_le, iI_lt, iI_eq, ni_le, ni_lt, ni_eq, in_le, in_lt, in_eq, ni_add, in_add, ni_sub, in_sub, ni_mul, in_mul, iI_add, iI_sub, iI_mul, i_p1, iI_neg, n_neg, ko, k0]
    try rfl
  · rw [if_neg k0]
    have : (th q).1 = 0 ∨ (th q).1 = 1 ∨ (th q).1 = 2 := by have := ok.1; omega
    rcases this with e | e | e
    · rw [e, nI_0] at l1
      rw [if_pos e]
      by_cases k2 : kd n hs st a = 2
      · rw [decide_eq_true k2, if_pos rfl]
        show _ = some (some (Value.int (iI 0)), (z, F, I, L))
        rw [iI_0]
        simp (disch := first | assumption | exact zTo hz ht | exact zTt hz ht (by decide) (by decide) | (refine ix (zTl hz ht (by decide) (by decide)) ?_; omega) | (refine ix (zTl5 hz ht) ?_; omega) | exact bI_or _ | exact zOK_O hz (by decide) (by decide) rfl | exact zOK_T hz (by decide) (by decide) rfl | (refine ix (zOK_l hz (by decide) (by decide) rfl) ?_; omega) | decide | omega) only [eX9_costOf_0, eX9_costOf_1, eX9_costOf_2, eX9_costOf_5, eX9_costOf_7, eX9_costOf_9, eX9_costOf_12, eX9_costOf_13, eX9_costOf_14, eX9_costOf_15, eX9_costOf_18, eX9_costOf_19, eX9_costOf_20_0, eX9_costOf_20_1, eX9_costOf_20_o, eX9_costOf_48, eX9_costOf_50, eX9_costOf_51, eX9_costOf_54, eX9_costOf_55, eX9_costOf_58, eX9_costOf_59, eX9_costOf_61, eX9_costOf_64, eX9_costOf_66, eX9_costOf_67, eX9_costOf_70, eX9_costOf_71, eX9_costOf_74, eX9_costOf_75, eX9_costOf_77, eX9_costOf_80, eX9_costOf_81, eX9_costOf_82, eX9_costOf_85, eX9_costOf_86, eX9_costOf_87, eX9_costOf_88, eX9_costOf_91, eX9_costOf_93, eX9_costOf_95, eX9_costOf_98, eX9_costOf_99, eX9_costOf_102, eX9_costOf_103, Int.cast_ofNat_Int, Nat.reduceLT, Nat.reduceLeDiff, Nat.reduceEqDiff, Nat.reduceAdd, Nat.reduceMul, Int.reduceLE, Int.reduceLT, Int.reduceEq, not_false_iff, nlr, Nat.zero_add, Nat.add_zero, e10f, e01f, eq_self, true_and, and_true, false_and, and_false, and_self, decide_true, decide_false, mm_bd_i, mm_bd_v, if_true, if_false, not_true_eq_false, not_false_eq_true, nI_1, Bool.true_eq_false, Bool.false_eq_true, bI_0, n_le0, n_0lt, n_lt0, n_0le, n_eq0, n_eqm, n_eq1, n_le1, n_1lt, n_1le, n_lt1, nn_le, nI_ltI, nI_eq, nI_clamp, nI_add, pk_mul, i_eq0, i_eqm, i_0le, i_le0, i_0lt, i_lt0, i_mle, i_ltm, ii_le, iI_lt, iI_eq, ni_le, ni_lt, ni_eq, in_le, in_lt, in_eq, ni_add, in_add, ni_sub, in_sub, ni_mul, in_mul, iI_add, iI_sub, iI_mul, i_p1, iI_neg, n_neg, ko, k0, z0, l1, eX9_costOf_20_0, k2]
        try rfl
      · rw [decide_eq_false k2, if_neg Bool.false_ne_true]
        show _ = some (some (Value.int (iI (-1))), (z, F, I, L))
        rw [iI_m1]
        simp (disch := first | assumption | exact zTo hz ht | exact zTt hz ht (by decide) (by decide) | (refine ix (zTl hz ht (by decide) (by decide)) ?_; omega) | (refine ix (zTl5 hz ht) ?_; omega) | exact bI_or _ | exact zOK_O hz (by decide) (by decide) rfl | exact zOK_T hz (by decide) (by decide) rfl | (refine ix (zOK_l hz (by decide) (by decide) rfl) ?_; omega) | decide | omega) only [eX9_costOf_0, eX9_costOf_1, eX9_costOf_2, eX9_costOf_5, eX9_costOf_7, eX9_costOf_9, eX9_costOf_12, eX9_costOf_13, eX9_costOf_14, eX9_costOf_15, eX9_costOf_18, eX9_costOf_19, eX9_costOf_20_0, eX9_costOf_20_1, eX9_costOf_20_o, eX9_costOf_48, eX9_costOf_50, eX9_costOf_51, eX9_costOf_54, eX9_costOf_55, eX9_costOf_58, eX9_costOf_59, eX9_costOf_61, eX9_costOf_64, eX9_costOf_66, eX9_costOf_67, eX9_costOf_70, eX9_costOf_71, eX9_costOf_74, eX9_costOf_75, eX9_costOf_77, eX9_costOf_80, eX9_costOf_81, eX9_costOf_82, eX9_costOf_85, eX9_costOf_86, eX9_costOf_87, eX9_costOf_88, eX9_costOf_91, eX9_costOf_93, eX9_costOf_95, eX9_costOf_98, eX9_costOf_99, eX9_costOf_102, eX9_costOf_103, Int.cast_ofNat_Int, Nat.reduceLT, Nat.reduceLeDiff, Nat.reduceEqDiff, Nat.reduceAdd, Nat.reduceMul, Int.reduceLE, Int.reduceLT, Int.reduceEq, not_false_iff, nlr, Nat.zero_add, Nat.add_zero, e10f, e01f, eq_self, true_and, and_true, false_and, and_false, and_self, decide_true, decide_false, mm_bd_i, mm_bd_v, if_true, if_false, not_true_eq_false, not_false_eq_true, nI_1, Bool.true_eq_false, Bool.false_eq_true, bI_0, n_le0, n_0lt, n_lt0, n_0le, n_eq0, n_eqm, n_eq1, n_le1, n_1lt, n_1le, n_lt1, nn_le, nI_ltI, nI_eq, nI_clamp, nI_add, pk_mul, i_eq0, i_eqm, i_0le, i_le0, i_0lt, i_lt0, i_mle, i_ltm, ii_le, iI_lt, iI_eq, ni_le, ni_lt, ni_eq, in_le, in_lt, in_eq, ni_add, in_add, ni_sub, in_sub, ni_mul, in_mul, iI_add, iI_sub, iI_mul, i_p1, iI_neg, n_neg, ko, k0, z0, l1, eX9_costOf_20_0, k2]
        try rfl
    · rw [e, ← sh1] at l1
      rw [if_neg (show ¬ (th q).1 = 0 by omega), if_pos e]
      by_cases k2 : kd n hs st a = 1
      · rw [decide_eq_true k2, if_pos rfl]
        show _ = some (some (Value.int (iI 0)), (z, F, I, L))
        rw [iI_0]
        simp (disch := first | assumption | exact zTo hz ht | exact zTt hz ht (by decide) (by decide) | (refine ix (zTl hz ht (by decide) (by decide)) ?_; omega) | (refine ix (zTl5 hz ht) ?_; omega) | exact bI_or _ | exact zOK_O hz (by decide) (by decide) rfl | exact zOK_T hz (by decide) (by decide) rfl | (refine ix (zOK_l hz (by decide) (by decide) rfl) ?_; omega) | decide | omega) only [eX9_costOf_0, eX9_costOf_1, eX9_costOf_2, eX9_costOf_5, eX9_costOf_7, eX9_costOf_9, eX9_costOf_12, eX9_costOf_13, eX9_costOf_14, eX9_costOf_15, eX9_costOf_18, eX9_costOf_19, eX9_costOf_20_0, eX9_costOf_20_1, eX9_costOf_20_o, eX9_costOf_48, eX9_costOf_50, eX9_costOf_51, eX9_costOf_54, eX9_costOf_55, eX9_costOf_58, eX9_costOf_59, eX9_costOf_61, eX9_costOf_64, eX9_costOf_66, eX9_costOf_67, eX9_costOf_70, eX9_costOf_71, eX9_costOf_74, eX9_costOf_75, eX9_costOf_77, eX9_costOf_80, eX9_costOf_81, eX9_costOf_82, eX9_costOf_85, eX9_costOf_86, eX9_costOf_87, eX9_costOf_88, eX9_costOf_91, eX9_costOf_93, eX9_costOf_95, eX9_costOf_98, eX9_costOf_99, eX9_costOf_102, eX9_costOf_103, Int.cast_ofNat_Int, Nat.reduceLT, Nat.reduceLeDiff, Nat.reduceEqDiff, Nat.reduceAdd, Nat.reduceMul, Int.reduceLE, Int.reduceLT, Int.reduceEq, not_false_iff, nlr, Nat.zero_add, Nat.add_zero, e10f, e01f, eq_self, true_and, and_true, false_and, and_false, and_self, decide_true, decide_false, mm_bd_i, mm_bd_v, if_true, if_false, not_true_eq_false, not_false_eq_true, nI_1, Bool.true_eq_false, Bool.false_eq_true, bI_0, n_le0, n_0lt, n_lt0, n_0le, n_eq0, n_eqm, n_eq1, n_le1, n_1lt, n_1le, n_lt1, nn_le, nI_ltI, nI_eq, nI_clamp, nI_add, pk_mul, i_eq0, i_eqm, i_0le, i_le0, i_0lt, i_lt0, i_mle, i_ltm, ii_le, iI_lt, iI_eq, ni_le, ni_lt, ni_eq, in_le, in_lt, in_eq, ni_add, in_add, ni_sub, in_sub, ni_mul, in_mul, iI_add, iI_sub, iI_mul, i_p1, iI_neg, n_neg, ko, k0, z0, l1, eX9_costOf_20_1, k2]
        try rfl
      · rw [decide_eq_false k2, if_neg Bool.false_ne_true]
        show _ = some (some (Value.int (iI (-1))), (z, F, I, L))
        rw [iI_m1]
        simp (disch := first | assumption | exact zTo hz ht | exact zTt hz ht (by decide) (by decide) | (refine ix (zTl hz ht (by decide) (by decide)) ?_; omega) | (refine ix (zTl5 hz ht) ?_; omega) | exact bI_or _ | exact zOK_O hz (by decide) (by decide) rfl | exact zOK_T hz (by decide) (by decide) rfl | (refine ix (zOK_l hz (by decide) (by decide) rfl) ?_; omega) | decide | omega) only [eX9_costOf_0, eX9_costOf_1, eX9_costOf_2, eX9_costOf_5, eX9_costOf_7, eX9_costOf_9, eX9_costOf_12, eX9_costOf_13, eX9_costOf_14, eX9_costOf_15, eX9_costOf_18, eX9_costOf_19, eX9_costOf_20_0, eX9_costOf_20_1, eX9_costOf_20_o, eX9_costOf_48, eX9_costOf_50, eX9_costOf_51, eX9_costOf_54, eX9_costOf_55, eX9_costOf_58, eX9_costOf_59, eX9_costOf_61, eX9_costOf_64, eX9_costOf_66, eX9_costOf_67, eX9_costOf_70, eX9_costOf_71, eX9_costOf_74, eX9_costOf_75, eX9_costOf_77, eX9_costOf_80, eX9_costOf_81, eX9_costOf_82, eX9_costOf_85, eX9_costOf_86, eX9_costOf_87, eX9_costOf_88, eX9_costOf_91, eX9_costOf_93, eX9_costOf_95, eX9_costOf_98, eX9_costOf_99, eX9_costOf_102, eX9_costOf_103, Int.cast_ofNat_Int, Nat.reduceLT, Nat.reduceLeDiff, Nat.reduceEqDiff, Nat.reduceAdd, Nat.reduceMul, Int.reduceLE, Int.reduceLT, Int.reduceEq, not_false_iff, nlr, Nat.zero_add, Nat.add_zero, e10f, e01f, eq_self, true_and, and_true, false_and, and_false, and_self, decide_true, decide_false, mm_bd_i, mm_bd_v, if_true, if_false, not_true_eq_false, not_false_eq_true, nI_1, Bool.true_eq_false, Bool.false_eq_true, bI_0, n_le0, n_0lt, n_lt0, n_0le, n_eq0, n_eqm, n_eq1, n_le1, n_1lt, n_1le, n_lt1, nn_le, nI_ltI, nI_eq, nI_clamp, nI_add, pk_mul, i_eq0, i_eqm, i_0le, i_le0, i_0lt, i_lt0, i_mle, i_ltm, ii_le, iI_lt, iI_eq, ni_le, ni_lt, ni_eq, in_le, in_lt, in_eq, ni_add, in_add, ni_sub, in_sub, ni_mul, in_mul, iI_add, iI_sub, iI_mul, i_p1, iI_neg, n_neg, ko, k0, z0, l1, eX9_costOf_20_1, k2]
        try rfl
    · rw [e] at l1
      rw [if_neg (show ¬ (th q).1 = 0 by omega), if_neg (show ¬ (th q).1 = 1 by omega)]
      have sw : Op.lookupswitch.offset [(0, 28), (1, 44)] 60 (nI 2).toInt = 60 := by decide +kernel
      cases g : mkO st (sH hs st) (th q).2.1 a n with
      | true =>
        rw [if_pos (show mkA n hs st (th q).2.1 a = true from g)]
        rw [g] at mk
        show _ = some (some (Value.int (iI 0)), (z, F, I, L))
        rw [iI_0]
        simp (disch := first | assumption | exact zTo hz ht | exact zTt hz ht (by decide) (by decide) | (refine ix (zTl hz ht (by decide) (by decide)) ?_; omega) | (refine ix (zTl5 hz ht) ?_; omega) | exact bI_or _ | exact zOK_O hz (by decide) (by decide) rfl | exact zOK_T hz (by decide) (by decide) rfl | (refine ix (zOK_l hz (by decide) (by decide) rfl) ?_; omega) | decide | omega) only [eX9_costOf_0, eX9_costOf_1, eX9_costOf_2, eX9_costOf_5, eX9_costOf_7, eX9_costOf_9, eX9_costOf_12, eX9_costOf_13, eX9_costOf_14, eX9_costOf_15, eX9_costOf_18, eX9_costOf_19, eX9_costOf_20_0, eX9_costOf_20_1, eX9_costOf_20_o, eX9_costOf_48, eX9_costOf_50, eX9_costOf_51, eX9_costOf_54, eX9_costOf_55, eX9_costOf_58, eX9_costOf_59, eX9_costOf_61, eX9_costOf_64, eX9_costOf_66, eX9_costOf_67, eX9_costOf_70, eX9_costOf_71, eX9_costOf_74, eX9_costOf_75, eX9_costOf_77, eX9_costOf_80, eX9_costOf_81, eX9_costOf_82, eX9_costOf_85, eX9_costOf_86, eX9_costOf_87, eX9_costOf_88, eX9_costOf_91, eX9_costOf_93, eX9_costOf_95, eX9_costOf_98, eX9_costOf_99, eX9_costOf_102, eX9_costOf_103, Int.cast_ofNat_Int, Nat.reduceLT, Nat.reduceLeDiff, Nat.reduceEqDiff, Nat.reduceAdd, Nat.reduceMul, Int.reduceLE, Int.reduceLT, Int.reduceEq, not_false_iff, nlr, Nat.zero_add, Nat.add_zero, e10f, e01f, eq_self, true_and, and_true, false_and, and_false, and_self, decide_true, decide_false, mm_bd_i, mm_bd_v, if_true, if_false, not_true_eq_false, not_false_eq_true, nI_1, Bool.true_eq_false, Bool.false_eq_true, bI_0, n_le0, n_0lt, n_lt0, n_0le, n_eq0, n_eqm, n_eq1, n_le1, n_1lt, n_1le, n_lt1, nn_le, nI_ltI, nI_eq, nI_clamp, nI_add, pk_mul, i_eq0, i_eqm, i_0le, i_le0, i_0lt, i_lt0, i_mle, i_ltm, ii_le, iI_lt, iI_eq, ni_le, ni_lt, ni_eq, in_le, in_lt, in_eq, ni_add, in_add, ni_sub, in_sub, ni_mul, in_mul, iI_add, iI_sub, iI_mul, i_p1, iI_neg, n_neg, ko, k0, z0, z1, l1, l2, eX9_costOf_20_o, sw, mk]
        try rfl
      | false =>
        rw [if_neg (show ¬ mkA n hs st (th q).2.1 a = true by unfold mkA; rw [g]; exact Bool.false_ne_true)]
        rw [g] at mk
        show _ = some (some (Value.int (iI (-1))), (z, F, I, L))
        rw [iI_m1]
        simp (disch := first | assumption | exact zTo hz ht | exact zTt hz ht (by decide) (by decide) | (refine ix (zTl hz ht (by decide) (by decide)) ?_; omega) | (refine ix (zTl5 hz ht) ?_; omega) | exact bI_or _ | exact zOK_O hz (by decide) (by decide) rfl | exact zOK_T hz (by decide) (by decide) rfl | (refine ix (zOK_l hz (by decide) (by decide) rfl) ?_; omega) | decide | omega) only [eX9_costOf_0, eX9_costOf_1, eX9_costOf_2, eX9_costOf_5, eX9_costOf_7, eX9_costOf_9, eX9_costOf_12, eX9_costOf_13, eX9_costOf_14, eX9_costOf_15, eX9_costOf_18, eX9_costOf_19, eX9_costOf_20_0, eX9_costOf_20_1, eX9_costOf_20_o, eX9_costOf_48, eX9_costOf_50, eX9_costOf_51, eX9_costOf_54, eX9_costOf_55, eX9_costOf_58, eX9_costOf_59, eX9_costOf_61, eX9_costOf_64, eX9_costOf_66, eX9_costOf_67, eX9_costOf_70, eX9_costOf_71, eX9_costOf_74, eX9_costOf_75, eX9_costOf_77, eX9_costOf_80, eX9_costOf_81, eX9_costOf_82, eX9_costOf_85, eX9_costOf_86, eX9_costOf_87, eX9_costOf_88, eX9_costOf_91, eX9_costOf_93, eX9_costOf_95, eX9_costOf_98, eX9_costOf_99, eX9_costOf_102, eX9_costOf_103, Int.cast_ofNat_Int, Nat.reduceLT, Nat.reduceLeDiff, Nat.reduceEqDiff, Nat.reduceAdd, Nat.reduceMul, Int.reduceLE, Int.reduceLT, Int.reduceEq, not_false_iff, nlr, Nat.zero_add, Nat.add_zero, e10f, e01f, eq_self, true_and, and_true, false_and, and_false, and_self, decide_true, decide_false, mm_bd_i, mm_bd_v, if_true, if_false, not_true_eq_false, not_false_eq_true, nI_1, Bool.true_eq_false, Bool.false_eq_true, bI_0, n_le0, n_0lt, n_lt0, n_0le, n_eq0, n_eqm, n_eq1, n_le1, n_1lt, n_1le, n_lt1, nn_le, nI_ltI, nI_eq, nI_clamp, nI_add, pk_mul, i_eq0, i_eqm, i_0le, i_le0, i_0lt, i_lt0, i_mle, i_ltm, ii_le, iI_lt, iI_eq, ni_le, ni_lt, ni_eq, in_le, in_lt, in_eq, ni_add, in_add, ni_sub, in_sub, ni_mul, in_mul, iI_add, iI_sub, iI_mul, i_p1, iI_neg, n_neg, ko, k0, z0, z1, l1, l2, eX9_costOf_20_o, sw, mk]
        try rfl
theorem oI_b {o : Option Nat} {N : Nat} (h : ∀ a, o = some a → a ≤ N) : -1 ≤ oI o ∧ oI o ≤ N := by
  cases o with
  | none => exact ⟨Int.le_refl _, by show (-1 : Int) ≤ N; omega⟩
  | some a => have := h a rfl; exact ⟨by show (-1 : Int) ≤ a; omega, by show (a : Int) ≤ N; omega⟩
theorem cF_costAt (d : Nat) (z : mm_Z) (F : Nat → Nat → Value) (I : Nat → Nat → Int32) (L : Nat → Nat → Int64) (n : Nat) (hs : Nat → List (Int × Int × Nat)) (st : Nat → Option (Nat × Nat)) (hz : zOK z) (w : wOK n hs st) (h : cHl n hs st F I L) (t : Nat) (ht : t = 60 ∨ t = 66) (c : Nat) (th : Nat → Nat × Nat × Nat × Nat) (hZ : thZ t F) (hR : thR t c th F I) (hc : c ≤ 10) (ok : ∀ q, q < c → okLn' (th q)) (tn cl : Nat) (htn : tn < 4) (hcl : cl < 64) : mm_E (d + 4) mX9_costAt 0 [.ref t, .ref 3, .int (nI tn), .int (nI cl), uu, uu, uu, uu, uu] [] (z, F, I, L) = some (some (.int (iI (oI (cS (kd n hs st) (mkA n hs st) th cl tn c)))), (z, F, I, L)) := by
  have r5 := hR.1
  have l : ∀ q, q ≤ c → ∀ (a : Nat) (a6 a7 a8 : Value), cS (kd n hs st) (mkA n hs st) th cl tn q = some a → mm_E (d + 4) mX9_costAt 6 [.ref t, .ref 3, .int (nI tn), .int (nI cl), .int (nI a), .int (nI q), a6, a7, a8] [] (z, F, I, L) = some (some (.int (iI (oI (cS (kd n hs st) (mkA n hs st) th cl tn c)))), (z, F, I, L)) := by
    apply lp
    · intro a a6 a7 a8 e
      rw [e, eX9_costAt_6]
      show _ = some (some (Value.int (iI (a : Int))), (z, F, I, L))
      rw [← nI_iI]
      simp (disch := first | assumption | exact zTo hz ht | exact zTt hz ht (by decide) (by decide) | (refine ix (zTl hz ht (by decide) (by decide)) ?_; omega) | (refine ix (zTl5 hz ht) ?_; omega) | exact bI_or _ | exact zOK_O hz (by decide) (by decide) rfl | exact zOK_T hz (by decide) (by decide) rfl | (refine ix (zOK_l hz (by decide) (by decide) rfl) ?_; omega) | decide | omega) only [eX9_costAt_0, eX9_costAt_1, eX9_costAt_3, eX9_costAt_4, eX9_costAt_8, eX9_costAt_9, eX9_costAt_12, eX9_costAt_15, eX9_costAt_16, eX9_costAt_18, eX9_costAt_19, eX9_costAt_20, eX9_costAt_23, eX9_costAt_25, eX9_costAt_26, eX9_costAt_27, eX9_costAt_30, eX9_costAt_32, eX9_costAt_33, eX9_costAt_34, eX9_costAt_37, eX9_costAt_38, eX9_costAt_40, eX9_costAt_41, eX9_costAt_43, eX9_costAt_44, eX9_costAt_45, eX9_costAt_48, eX9_costAt_50, eX9_costAt_51, eX9_costAt_52, eX9_costAt_55, eX9_costAt_57, eX9_costAt_58, eX9_costAt_59, eX9_costAt_62, eX9_costAt_63, eX9_costAt_65, eX9_costAt_67, eX9_costAt_69, eX9_costAt_72, eX9_costAt_75, eX9_costAt_76, eX9_costAt_77, eX9_costAt_78, eX9_costAt_79, eX9_costAt_81, eX9_costAt_83, eX9_costAt_85, eX9_costAt_86, eX9_costAt_88, eX9_costAt_89, eX9_costAt_92, eX9_costAt_94, eX9_costAt_96, eX9_costAt_97, eX9_costAt_100, eX9_costAt_101, eX9_costAt_102, eX9_costAt_104, eX9_costAt_106, eX9_costAt_107, eX9_costAt_109, eX9_costAt_112, eX9_costAt_115, eX9_costAt_117, Int.cast_ofNat_Int, Nat.reduceLT, Nat.reduceLeDiff, Nat.reduceEqDiff, Nat.reduceAdd, Nat.reduceMul, Int.reduceLE, Int.reduceLT, Int.reduceEq, not_false_iff, nlr, Nat.zero_add, Nat.add_zero, e10f, e01f, eq_self, true_and, and_true, false_and, and_false, and_self, decide_true, decide_false, mm_bd_i, mm_bd_v, if_true, if_false, not_true_eq_false, not_false_eq_true, nI_1, Bool.true_eq_false, Bool.false_eq_true, bI_0, n_le0, n_0lt, n_lt0, n_0le, n_eq0, n_eqm, n_eq1, n_le1, n_1lt, n_1le, n_lt1, nn_le, nI_ltI, nI_eq, nI_clamp, nI_add, pk_mul, i_eq0, i_eqm, i_0le, i_le0, i_0lt, i_lt0, i_mle, i_ltm, ii_le, iI_lt, iI_eq, ni_le, ni_lt, ni_eq, in_le, in_lt, in_eq, ni_add, in_add, ni_sub, in_sub, ni_mul, in_mul, iI_add, iI_sub, iI_mul, i_p1, iI_neg, n_neg, r5]
    · intro q hq ih a a6 a7 a8 e
      have al := cS_le q a e
      obtain ⟨l1, l2, l3, l4⟩ := hR.2 q hq
      obtain ⟨o1, o2, o3, o4⟩ := ok q hq
      have co := fun d' a ha => cF_costOf d' z F I L n hs st hz w h t ht c th hZ hR q a hq hc (ok q hq) ha
      obtain ⟨z0, z1, z2, z3, z4⟩ := hZ
      have e' : cS (kd n hs st) (mkA n hs st) th cl tn (q + 1) = (lnC (kd n hs st) (mkA n hs st) (th q) cl tn).bind (fun b => some (a + b)) := by rw [cS, e]; rfl
      have ln : lnC (kd n hs st) (mkA n hs st) (th q) cl tn = if pIn (th q).2.2.1 (th q).2.2.2 cl tn = true then ceC (kd n hs st) (mkA n hs st) (th q) (pAt (th q).2.2.1 (th q).2.2.2 cl tn).toNat else none := rfl
      have pin : pIn (th q).2.2.1 (th q).2.2.2 cl tn = decide ((0 ≤ pX (th q).2.2.1 (th q).2.2.2 cl tn ∧ pX (th q).2.2.1 (th q).2.2.2 cl tn ≤ 7) ∧ (0 ≤ pY (th q).2.2.1 (th q).2.2.2 cl tn ∧ pY (th q).2.2.1 (th q).2.2.2 cl tn ≤ 7)) := rfl
      have pat : pAt (th q).2.2.1 (th q).2.2.2 cl tn = if pIn (th q).2.2.1 (th q).2.2.2 cl tn = true then 8 * pY (th q).2.2.1 (th q).2.2.2 cl tn + pX (th q).2.2.1 (th q).2.2.2 cl tn else -1 := rfl
      generalize (th q).2.2.1 = X at *
      generalize (th q).2.2.2 = Y at *
      have tb := tu_b (x := X) (y := Y) tn (by omega) (by omega)
      have tx : ∀ d', mm_E d' mX10_turnedX 0 [.int (nI X), .int (nI Y), .int (nI tn)] [] (z, F, I, L) = some (some (.int (iI (tuX X Y tn))), (z, F, I, L)) := fun d' => by rw [nI_iI X, nI_iI Y]; exact cX_turnedX d' z F I L X Y tn htn
      have ty : ∀ d', mm_E d' mX10_turnedY 0 [.int (nI X), .int (nI Y), .int (nI tn)] [] (z, F, I, L) = some (some (.int (iI (tuY X Y tn))), (z, F, I, L)) := fun d' => by rw [nI_iI X, nI_iI Y]; exact cX_turnedY d' z F I L X Y tn htn
      have px : (((cl % 8 : Nat) : Int) + tuX X Y tn) = pX X Y cl tn := rfl
      have py : (((cl / 8 : Nat) : Int) + tuY X Y tn) = pY X Y cl tn := rfl
      have ihl := fun d' => cX_inHall d' z F I L (pX X Y cl tn) (pY X Y cl tn) (by rw [← px]; omega) (by rw [← py]; omega)
      rw [eX9_costAt_6]
      by_cases g : pIn X Y cl tn = true
      · rw [if_pos g] at ln pat
        rw [pin, decide_eq_true_eq] at g
        rw [decide_eq_true g] at ihl
        have pz : iI (8 * pY X Y cl tn + pX X Y cl tn) = nI (pAt X Y cl tn).toNat := by rw [nI_iI, Int.toNat_of_nonneg (by omega), pat]
        have cc := fun d' => co d' (pAt X Y cl tn).toNat (by omega)
        cases ec : ceC (kd n hs st) (mkA n hs st) (th q) (pAt X Y cl tn).toNat with
        | none =>
          simp only [ec] at cc
          rw [ln, ec] at e'
          rw [cS_none (show cS (kd n hs st) (mkA n hs st) th cl tn (q + 1) = none from e') c (by omega)]
          have om : iI (oI none) = -1 := iI_m1
          rw [om] at cc ⊢
          simp (disch := first | assumption | exact zTo hz ht | exact zTt hz ht (by decide) (by decide) | (refine ix (zTl hz ht (by decide) (by decide)) ?_; omega) | (refine ix (zTl5 hz ht) ?_; omega) | exact bI_or _ | exact zOK_O hz (by decide) (by decide) rfl | exact zOK_T hz (by decide) (by decide) rfl | (refine ix (zOK_l hz (by decide) (by decide) rfl) ?_; omega) | decide | omega) only [eX9_costAt_8, eX9_costAt_9, eX9_costAt_12, eX9_costAt_15, eX9_costAt_16, eX9_costAt_18, eX9_costAt_19, eX9_costAt_20, eX9_costAt_23, eX9_costAt_25, eX9_costAt_26, eX9_costAt_27, eX9_costAt_30, eX9_costAt_32, eX9_costAt_33, eX9_costAt_34, eX9_costAt_37, eX9_costAt_38, eX9_costAt_40, eX9_costAt_41, eX9_costAt_43, eX9_costAt_44, eX9_costAt_45, eX9_costAt_48, eX9_costAt_50, eX9_costAt_51, eX9_costAt_52, eX9_costAt_55, eX9_costAt_57, eX9_costAt_58, eX9_costAt_59, eX9_costAt_62, eX9_costAt_63, eX9_costAt_65, eX9_costAt_67, eX9_costAt_69, eX9_costAt_72, eX9_costAt_75, eX9_costAt_76, eX9_costAt_77, eX9_costAt_78, eX9_costAt_79, eX9_costAt_81, eX9_costAt_83, eX9_costAt_85, eX9_costAt_86, eX9_costAt_88, eX9_costAt_89, eX9_costAt_92, eX9_costAt_94, eX9_costAt_96, eX9_costAt_97, eX9_costAt_100, eX9_costAt_101, eX9_costAt_102, eX9_costAt_104, eX9_costAt_106, eX9_costAt_107, eX9_costAt_109, eX9_costAt_112, eX9_costAt_115, eX9_costAt_117, Int.cast_ofNat_Int, Nat.reduceLT, Nat.reduceLeDiff, Nat.reduceEqDiff, Nat.reduceAdd, Nat.reduceMul, Int.reduceLE, Int.reduceLT, Int.reduceEq, not_false_iff, nlr, Nat.zero_add, Nat.add_zero, e10f, e01f, eq_self, true_and, and_true, false_and, and_false, and_self, decide_true, decide_false, mm_bd_i, mm_bd_v, if_true, if_false, not_true_eq_false, not_false_eq_true, nI_1, Bool.true_eq_false, Bool.false_eq_true, bI_0, n_le0, n_0lt, n_lt0, n_0le, n_eq0, n_eqm, n_eq1, n_le1, n_1lt, n_1le, n_lt1, nn_le, nI_ltI, nI_eq, nI_clamp, nI_add, pk_mul, i_eq0, i_eqm, i_0le, i_le0, i_0lt, i_lt0, i_mle, i_ltm, ii_le, iI_lt, iI_eq, ni_le, ni_lt, ni_eq, in_le, in_lt, in_eq, ni_add, in_add, ni_sub, in_sub, ni_mul, in_mul, iI_add, iI_sub, iI_mul, i_p1, iI_neg, n_neg, r5, hq, z2, z3, l3, l4, pk_div, n_m8, tx, ty, px, py, ihl, pz, cc, bI_t]
        | some b =>
          simp only [ec] at cc
          have bl := ceC_le _ _ _ _ _ ec
          rw [ln, ec] at e'
          rw [← ih (a + b) (.int (iI (pX X Y cl tn))) (.int (iI (pY X Y cl tn))) (.int (nI b)) e']
          have om : iI (oI (some b)) = nI b := (nI_iI b).symm
          rw [om] at cc
          simp (disch := first | assumption | exact zTo hz ht | exact zTt hz ht (by decide) (by decide) | (refine ix (zTl hz ht (by decide) (by decide)) ?_; omega) | (refine ix (zTl5 hz ht) ?_; omega) | exact bI_or _ | exact zOK_O hz (by decide) (by decide) rfl | exact zOK_T hz (by decide) (by decide) rfl | (refine ix (zOK_l hz (by decide) (by decide) rfl) ?_; omega) | decide | omega) only [eX9_costAt_8, eX9_costAt_9, eX9_costAt_12, eX9_costAt_15, eX9_costAt_16, eX9_costAt_18, eX9_costAt_19, eX9_costAt_20, eX9_costAt_23, eX9_costAt_25, eX9_costAt_26, eX9_costAt_27, eX9_costAt_30, eX9_costAt_32, eX9_costAt_33, eX9_costAt_34, eX9_costAt_37, eX9_costAt_38, eX9_costAt_40, eX9_costAt_41, eX9_costAt_43, eX9_costAt_44, eX9_costAt_45, eX9_costAt_48, eX9_costAt_50, eX9_costAt_51, eX9_costAt_52, eX9_costAt_55, eX9_costAt_57, eX9_costAt_58, eX9_costAt_59, eX9_costAt_62, eX9_costAt_63, eX9_costAt_65, eX9_costAt_67, eX9_costAt_69, eX9_costAt_72, eX9_costAt_75, eX9_costAt_76, eX9_costAt_77, eX9_costAt_78, eX9_costAt_79, eX9_costAt_81, eX9_costAt_83, eX9_costAt_85, eX9_costAt_86, eX9_costAt_88, eX9_costAt_89, eX9_costAt_92, eX9_costAt_94, eX9_costAt_96, eX9_costAt_97, eX9_costAt_100, eX9_costAt_101, eX9_costAt_102, eX9_costAt_104, eX9_costAt_106, eX9_costAt_107, eX9_costAt_109, eX9_costAt_112, eX9_costAt_115, eX9_costAt_117, Int.cast_ofNat_Int, Nat.reduceLT, Nat.reduceLeDiff, Nat.reduceEqDiff, Nat.reduceAdd, Nat.reduceMul, Int.reduceLE, Int.reduceLT, Int.reduceEq, not_false_iff, nlr, Nat.zero_add, Nat.add_zero, e10f, e01f, eq_self, true_and, and_true, false_and, and_false, and_self, decide_true, decide_false, mm_bd_i, mm_bd_v, if_true, if_false, not_true_eq_false, not_false_eq_true, nI_1, Bool.true_eq_false, Bool.false_eq_true, bI_0, n_le0, n_0lt, n_lt0, n_0le, n_eq0, n_eqm, n_eq1, n_le1, n_1lt, n_1le, n_lt1, nn_le, nI_ltI, nI_eq, nI_clamp, nI_add, pk_mul, i_eq0, i_eqm, i_0le, i_le0, i_0lt, i_lt0, i_mle, i_ltm, ii_le, iI_lt, iI_eq, ni_le, ni_lt, ni_eq, in_le, in_lt, in_eq, ni_add, in_add, ni_sub, in_sub, ni_mul, in_mul, iI_add, iI_sub, iI_mul, i_p1, iI_neg, n_neg, r5, hq, z2, z3, l3, l4, pk_div, n_m8, tx, ty, px, py, ihl, pz, cc, bI_t]
      · rw [if_neg g] at ln
        rw [pin, decide_eq_true_eq] at g
        rw [decide_eq_false g] at ihl
        rw [ln] at e'
        rw [cS_none (show cS (kd n hs st) (mkA n hs st) th cl tn (q + 1) = none from e') c (by omega)]
        have om : iI (oI none) = -1 := iI_m1
        rw [om]
        simp (disch := first | assumption | exact zTo hz ht | exact zTt hz ht (by decide) (by decide) | (refine ix (zTl hz ht (by decide) (by decide)) ?_; omega) | (refine ix (zTl5 hz ht) ?_; omega) | exact bI_or _ | exact zOK_O hz (by decide) (by decide) rfl | exact zOK_T hz (by decide) (by decide) rfl | (refine ix (zOK_l hz (by decide) (by decide) rfl) ?_; omega) | decide | omega) only [eX9_costAt_8, eX9_costAt_9, eX9_costAt_12, eX9_costAt_15, eX9_costAt_16, eX9_costAt_18, eX9_costAt_19, eX9_costAt_20, eX9_costAt_23, eX9_costAt_25, eX9_costAt_26, eX9_costAt_27, eX9_costAt_30, eX9_costAt_32, eX9_costAt_33, eX9_costAt_34, eX9_costAt_37, eX9_costAt_38, eX9_costAt_40, eX9_costAt_41, eX9_costAt_43, eX9_costAt_44, eX9_costAt_45, eX9_costAt_48, eX9_costAt_50, eX9_costAt_51, eX9_costAt_52, eX9_costAt_55, eX9_costAt_57, eX9_costAt_58, eX9_costAt_59, eX9_costAt_62, eX9_costAt_63, eX9_costAt_65, eX9_costAt_67, eX9_costAt_69, eX9_costAt_72, eX9_costAt_75, eX9_costAt_76, eX9_costAt_77, eX9_costAt_78, eX9_costAt_79, eX9_costAt_81, eX9_costAt_83, eX9_costAt_85, eX9_costAt_86, eX9_costAt_88, eX9_costAt_89, eX9_costAt_92, eX9_costAt_94, eX9_costAt_96, eX9_costAt_97, eX9_costAt_100, eX9_costAt_101, eX9_costAt_102, eX9_costAt_104, eX9_costAt_106, eX9_costAt_107, eX9_costAt_109, eX9_costAt_112, eX9_costAt_115, eX9_costAt_117, Int.cast_ofNat_Int, Nat.reduceLT, Nat.reduceLeDiff, Nat.reduceEqDiff, Nat.reduceAdd, Nat.reduceMul, Int.reduceLE, Int.reduceLT, Int.reduceEq, not_false_iff, nlr, Nat.zero_add, Nat.add_zero, e10f, e01f, eq_self, true_and, and_true, false_and, and_false, and_self, decide_true, decide_false, mm_bd_i, mm_bd_v, if_true, if_false, not_true_eq_false, not_false_eq_true, nI_1, Bool.true_eq_false, Bool.false_eq_true, bI_0, n_le0, n_0lt, n_lt0, n_0le, n_eq0, n_eqm, n_eq1, n_le1, n_1lt, n_1le, n_lt1, nn_le, nI_ltI, nI_eq, nI_clamp, nI_add, pk_mul, i_eq0, i_eqm, i_0le, i_le0, i_0lt, i_lt0, i_mle, i_ltm, ii_le, iI_lt, iI_eq, ni_le, ni_lt, ni_eq, in_le, in_lt, in_eq, ni_add, in_add, ni_sub, in_sub, ni_mul, in_mul, iI_add, iI_sub, iI_mul, i_p1, iI_neg, n_neg, r5, hq, z2, z3, l3, l4, pk_div, n_m8, tx, ty, px, py, ihl, bI_f]
  rw [← l 0 (by omega) 0 uu uu uu rfl]
  simp (disch := first | assumption | exact zTo hz ht | exact zTt hz ht (by decide) (by decide) | (refine ix (zTl hz ht (by decide) (by decide)) ?_; omega) | (refine ix (zTl5 hz ht) ?_; omega) | exact bI_or _ | exact zOK_O hz (by decide) (by decide) rfl | exact zOK_T hz (by decide) (by decide) rfl | (refine ix (zOK_l hz (by decide) (by decide) rfl) ?_; omega) | decide | omega) only [eX9_costAt_0, eX9_costAt_1, eX9_costAt_3, eX9_costAt_4, Int.cast_ofNat_Int, Nat.reduceLT, Nat.reduceLeDiff, Nat.reduceEqDiff, Nat.reduceAdd, Nat.reduceMul, Int.reduceLE, Int.reduceLT, Int.reduceEq, not_false_iff, nlr, Nat.zero_add, Nat.add_zero, e10f, e01f, eq_self, true_and, and_true, false_and, and_false, and_self, decide_true, decide_false, mm_bd_i, mm_bd_v, if_true, if_false, not_true_eq_false, not_false_eq_true, nI_1, Bool.true_eq_false, Bool.false_eq_true, bI_0, n_le0, n_0lt, n_lt0, n_0le, n_eq0, n_eqm, n_eq1, n_le1, n_1lt, n_1le, n_lt1, nn_le, nI_ltI, nI_eq, nI_clamp, nI_add, pk_mul, i_eq0, i_eqm, i_0le, i_le0, i_0lt, i_lt0, i_mle, i_ltm, ii_le, iI_lt, iI_eq, ni_le, ni_lt, ni_eq, in_le, in_lt, in_eq, ni_add, in_add, ni_sub, in_sub, ni_mul, in_mul, iI_add, iI_sub, iI_mul, i_p1, iI_neg, n_neg]
  rfl
def fN (B : Nat → Bool) : Nat → Nat
  | 0 => 0
  | p + 1 => fN B p + if B p = true then 1 else 0
theorem fN_le (B : Nat → Bool) : ∀ p, fN B p ≤ p := by
  intro p
  induction p with
  | zero => exact Nat.le_refl _
  | succ p ih => rw [fN]; split <;> omega
theorem fN_mono (B : Nat → Bool) {p q : Nat} (h : p ≤ q) : fN B p ≤ fN B q := by
  obtain ⟨d, rfl⟩ : ∃ d, q = p + d := ⟨q - p, by omega⟩
  clear h
  induction d with
  | zero => exact Nat.le_refl _
  | succ d ih => rw [show p + (d + 1) = p + d + 1 by omega, fN]; omega
theorem fN_inj (B : Nat → Bool) {p q : Nat} (hp : B p = true) (hq : B q = true) (h : fN B p = fN B q) : p = q := by
  apply Decidable.byContradiction
  intro c
  rcases Nat.lt_or_gt_of_ne c with g | g
  · have e : fN B (p + 1) = fN B p + 1 := by rw [fN, if_pos hp]
    have := fN_mono B (show p + 1 ≤ q by omega)
    omega
  · have e : fN B (q + 1) = fN B q + 1 := by rw [fN, if_pos hq]
    have := fN_mono B (show q + 1 ≤ p by omega)
    omega
def fB (g : Nat → Option Nat) (q : Nat) : Bool := decide (oI (g (q % 256)) = (q / 256 : Nat))
def ftP (g : Nat → Option Nat) (pr : Nat) (v r : Int) : Prop := (v = -1 ∧ r = fN (fB g) (256 * (pr + 1))) ∨ (∃ k p, k ≤ pr ∧ p < 256 ∧ fB g (256 * k + p) = true ∧ (fN (fB g) (256 * k + p) : Int) = v ∧ r = (1000 * k + 4 * (p % 64) + p / 64 : Nat)) ∨ (¬ v = -1 ∧ r = -1 ∧ ∀ q, q < 256 * (pr + 1) → fB g q = true → ¬ (fN (fB g) q : Int) = v)
theorem ftP_uniq {g : Nat → Option Nat} {pr : Nat} {v r r' : Int} (h : ftP g pr v r) (h' : ftP g pr v r') : r = r' := by
  rcases h with ⟨a, b⟩ | ⟨l, a, h1, h2, h3, h4, h5⟩ | ⟨h1, h2, h3⟩ <;> rcases h' with ⟨a', b'⟩ | ⟨l', a', g1, g2, g3, g4, g5⟩ | ⟨g1, g2, g3⟩
  · omega
  · omega
  · omega
  · omega
  · have e := fN_inj _ h3 g3 (by omega)
    have e1 : l = l' := by omega
    have e2 : a = a' := by omega
    subst e1; subst e2; rw [h5, g5]
  · exact absurd h4 (g3 _ (by omega) h3)
  · omega
  · exact absurd g4 (h3 _ (by omega) g3)
  · omega
theorem n_m64 (a : Nat) : nI a - nI (a / 64 * 64) = nI (a % 64) := by rw [pk_sub (by omega)]; congr 1; omega
theorem thR_I {t : Nat} (c : Nat) (th : Nat → Nat × Nat × Nat × Nat) {F : Nat → Nat → Value} {I I' : Nat → Nat → Int32} (h : thR t c th F I) (hI : ∀ x, ¬ x = t + 5 → I' x = I x) : thR t c th F I' := ⟨h.1, fun q hq => by
  rw [hI (t + 1) (by omega), hI (t + 2) (by omega), hI (t + 3) (by omega), hI (t + 4) (by omega)]; exact h.2 q hq⟩
theorem cF_find (d : Nat) (z : mm_Z) (F : Nat → Nat → Value) (I : Nat → Nat → Int32) (L : Nat → Nat → Int64) (n : Nat) (hs : Nat → List (Int × Int × Nat)) (st : Nat → Option (Nat × Nat)) (hz : zOK z) (w : wOK n hs st) (h : cHl n hs st F I L) (t : Nat) (ht : t = 60 ∨ t = 66) (c : Nat) (th : Nat → Nat × Nat × Nat × Nat) (hZ : thZ t F) (hR : thR t c th F I) (hc : c ≤ 10) (ok : ∀ q, q < c → okLn' (th q)) (v : Int) (h1 : -1 ≤ v) (h2 : v < 2147483648) (pr : Nat) (hp : pr ≤ 10) : ∃ I' r, mm_E (d + 5) mX9_findFit 0 [.ref t, .ref 3, .int (iI v), .int (nI pr), uu, uu, uu] [] (z, F, I, L) = some (some (.int (iI r)), (z, F, I', L)) ∧ ftP (fun p => cS (kd n hs st) (mkA n hs st) th (p % 64) (p / 64) c) pr v r ∧ ∀ x, ¬ x = t + 5 → I' x = I x := by
  obtain ⟨g, hg⟩ : ∃ g : Nat → Option Nat, g = fun p => cS (kd n hs st) (mkA n hs st) th (p % 64) (p / 64) c := ⟨_, rfl⟩
  rw [← hg]
  have gl : ∀ p, -1 ≤ oI (g p) ∧ oI (g p) ≤ (10 : Nat) := fun p => oI_b (fun a e => by rw [hg] at e; have := cS_le _ _ e; omega)
  have z4 := hZ.2.2.2.2
  -- the costs
  have fl : ∀ p, p ≤ 256 → ∀ I1 : Nat → Nat → Int32, (∀ x, ¬ x = t + 5 → I1 x = I x) → (∀ j, j < p → I1 (t + 5) j = iI (oI (g j))) → ∃ I2, mm_E (d + 5) mX9_findFit 3 [.ref t, .ref 3, .int (iI v), .int (nI pr), .int (nI p), uu, uu] [] (z, F, I1, L) = mm_E (d + 5) mX9_findFit 45 [.ref t, .ref 3, .int (iI v), .int (nI pr), .int (nI 0), .int (nI 0), uu] [] (z, F, I2, L) ∧ (∀ x, ¬ x = t + 5 → I2 x = I x) ∧ ∀ j, j < 256 → I2 (t + 5) j = iI (oI (g j)) := by
    apply lp
    · intro I1 hI hg'
      refine ⟨I1, ?_, hI, hg'⟩
      rw [eX9_findFit_3]
      simp (disch := first | assumption | exact zTo hz ht | exact zTt hz ht (by decide) (by decide) | (refine ix (zTl hz ht (by decide) (by decide)) ?_; omega) | (refine ix (zTl5 hz ht) ?_; omega) | exact bI_or _ | exact zOK_O hz (by decide) (by decide) rfl | exact zOK_T hz (by decide) (by decide) rfl | (refine ix (zOK_l hz (by decide) (by decide) rfl) ?_; omega) | decide | omega) only [eX9_findFit_5, eX9_findFit_8, eX9_findFit_11, eX9_findFit_12, eX9_findFit_15, eX9_findFit_17, eX9_findFit_18, eX9_findFit_19, eX9_findFit_21, eX9_findFit_23, eX9_findFit_24, eX9_findFit_26, eX9_findFit_28, eX9_findFit_29, eX9_findFit_32, eX9_findFit_33, eX9_findFit_36, eX9_findFit_39, eX9_findFit_40, eX9_findFit_42, eX9_findFit_43, Int.cast_ofNat_Int, Nat.reduceLT, Nat.reduceLeDiff, Nat.reduceEqDiff, Nat.reduceAdd, Nat.reduceMul, Int.reduceLE, Int.reduceLT, Int.reduceEq, not_false_iff, nlr, Nat.zero_add, Nat.add_zero, e10f, e01f, eq_self, true_and, and_true, false_and, and_false, and_self, decide_true, decide_false, mm_bd_i, mm_bd_v, if_true, if_false, not_true_eq_false, not_false_eq_true, nI_1, Bool.true_eq_false, Bool.false_eq_true, bI_0, n_le0, n_0lt, n_lt0, n_0le, n_eq0, n_eqm, n_eq1, n_le1, n_1lt, n_1le, n_lt1, nn_le, nI_ltI, nI_eq, nI_clamp, nI_add, pk_mul, i_eq0, i_eqm, i_0le, i_le0, i_0lt, i_lt0, i_mle, i_ltm, ii_le, iI_lt, iI_eq, ni_le, ni_lt, ni_eq, in_le, in_lt, in_eq, ni_add, in_add, ni_sub, in_sub, ni_mul, in_mul, iI_add, iI_sub, iI_mul, i_p1, iI_neg, n_neg]
      rfl
    · intro p hp' ih I1 hI hg'
      have ca := fun d' => cF_costAt d' z F I1 L n hs st hz w (cHl_cg n hs st h w.1 (fun _ _ _ => rfl) (fun x _ _ => hI x (by omega)) (fun _ _ _ => rfl)) t ht c th hZ (thR_I c th hR hI) hc ok (p / 64) (p % 64) (by omega) (by omega)
      have ge : cS (kd n hs st) (mkA n hs st) th (p % 64) (p / 64) c = g p := by rw [hg]
      rw [ge] at ca
      obtain ⟨I2, y1, y2, y3⟩ := ih (mm_up2 I1 (t + 5) p (iI (oI (g p)))) (fun x hx => by rw [up_row _ _ _ hx]; exact hI x hx) (fun j hj => by
        by_cases e : j = p
        · subst e; rw [up_s]
        · rw [up_k _ _ _ _ e]; exact hg' j (by omega))
      refine ⟨I2, ?_, y2, y3⟩
      rw [← y1, eX9_findFit_3]
      simp (disch := first | assumption | exact zTo hz ht | exact zTt hz ht (by decide) (by decide) | (refine ix (zTl hz ht (by decide) (by decide)) ?_; omega) | (refine ix (zTl5 hz ht) ?_; omega) | exact bI_or _ | exact zOK_O hz (by decide) (by decide) rfl | exact zOK_T hz (by decide) (by decide) rfl | (refine ix (zOK_l hz (by decide) (by decide) rfl) ?_; omega) | decide | omega) only [eX9_findFit_5, eX9_findFit_8, eX9_findFit_11, eX9_findFit_12, eX9_findFit_15, eX9_findFit_17, eX9_findFit_18, eX9_findFit_19, eX9_findFit_21, eX9_findFit_23, eX9_findFit_24, eX9_findFit_26, eX9_findFit_28, eX9_findFit_29, eX9_findFit_32, eX9_findFit_33, eX9_findFit_36, Int.cast_ofNat_Int, Nat.reduceLT, Nat.reduceLeDiff, Nat.reduceEqDiff, Nat.reduceAdd, Nat.reduceMul, Int.reduceLE, Int.reduceLT, Int.reduceEq, not_false_iff, nlr, Nat.zero_add, Nat.add_zero, e10f, e01f, eq_self, true_and, and_true, false_and, and_false, and_self, decide_true, decide_false, mm_bd_i, mm_bd_v, if_true, if_false, not_true_eq_false, not_false_eq_true, nI_1, Bool.true_eq_false, Bool.false_eq_true, bI_0, n_le0, n_0lt, n_lt0, n_0le, n_eq0, n_eqm, n_eq1, n_le1, n_1lt, n_1le, n_lt1, nn_le, nI_ltI, nI_eq, nI_clamp, nI_add, pk_mul, i_eq0, i_eqm, i_0le, i_le0, i_0lt, i_lt0, i_mle, i_ltm, ii_le, iI_lt, iI_eq, ni_le, ni_lt, ni_eq, in_le, in_lt, in_eq, ni_add, in_add, ni_sub, in_sub, ni_mul, in_mul, iI_add, iI_sub, iI_mul, i_p1, iI_neg, n_neg, hp', z4, pk_div, n_m64, ca]
  obtain ⟨I2, f1, f2, f3⟩ := fl 0 (by omega) I (fun _ _ => rfl) (fun j hj => absurd hj (by omega))
  -- the search
  have se : ∀ k, k ≤ pr + 1 → ∀ a6 : Value, (∀ q, q < 256 * k → fB g q = true → ¬ (fN (fB g) q : Int) = v) → ∃ r, mm_E (d + 5) mX9_findFit 45 [.ref t, .ref 3, .int (iI v), .int (nI pr), .int (nI (fN (fB g) (256 * k))), .int (nI k), a6] [] (z, F, I2, L) = some (some (.int (iI r)), (z, F, I2, L)) ∧ ftP g pr v r := by
    apply lp
    · intro a6 hn
      have wl := fN_le (fB g) (256 * (pr + 1))
      have cc : pr < pr + 1 := by omega
      by_cases c : v = -1
      · refine ⟨fN (fB g) (256 * (pr + 1)), ?_, Or.inl ⟨c, rfl⟩⟩
        rw [eX9_findFit_45, ← nI_iI]
        simp (disch := first | assumption | exact zTo hz ht | exact zTt hz ht (by decide) (by decide) | (refine ix (zTl hz ht (by decide) (by decide)) ?_; omega) | (refine ix (zTl5 hz ht) ?_; omega) | exact bI_or _ | exact zOK_O hz (by decide) (by decide) rfl | exact zOK_T hz (by decide) (by decide) rfl | (refine ix (zOK_l hz (by decide) (by decide) rfl) ?_; omega) | decide | omega) only [eX9_findFit_47, eX9_findFit_48, eX9_findFit_116, eX9_findFit_117, eX9_findFit_118, eX9_findFit_121, eX9_findFit_123, eX9_findFit_126, eX9_findFit_127, Int.cast_ofNat_Int, Nat.reduceLT, Nat.reduceLeDiff, Nat.reduceEqDiff, Nat.reduceAdd, Nat.reduceMul, Int.reduceLE, Int.reduceLT, Int.reduceEq, not_false_iff, nlr, Nat.zero_add, Nat.add_zero, e10f, e01f, eq_self, true_and, and_true, false_and, and_false, and_self, decide_true, decide_false, mm_bd_i, mm_bd_v, if_true, if_false, not_true_eq_false, not_false_eq_true, nI_1, Bool.true_eq_false, Bool.false_eq_true, bI_0, n_le0, n_0lt, n_lt0, n_0le, n_eq0, n_eqm, n_eq1, n_le1, n_1lt, n_1le, n_lt1, nn_le, nI_ltI, nI_eq, nI_clamp, nI_add, pk_mul, i_eq0, i_eqm, i_0le, i_le0, i_0lt, i_lt0, i_mle, i_ltm, ii_le, iI_lt, iI_eq, ni_le, ni_lt, ni_eq, in_le, in_lt, in_eq, ni_add, in_add, ni_sub, in_sub, ni_mul, in_mul, iI_add, iI_sub, iI_mul, i_p1, iI_neg, n_neg, c, cc]
      · refine ⟨-1, ?_, Or.inr (Or.inr ⟨c, rfl, hn⟩)⟩
        rw [eX9_findFit_45, iI_m1]
        simp (disch := first | assumption | exact zTo hz ht | exact zTt hz ht (by decide) (by decide) | (refine ix (zTl hz ht (by decide) (by decide)) ?_; omega) | (refine ix (zTl5 hz ht) ?_; omega) | exact bI_or _ | exact zOK_O hz (by decide) (by decide) rfl | exact zOK_T hz (by decide) (by decide) rfl | (refine ix (zOK_l hz (by decide) (by decide) rfl) ?_; omega) | decide | omega) only [eX9_findFit_47, eX9_findFit_48, eX9_findFit_116, eX9_findFit_117, eX9_findFit_118, eX9_findFit_121, eX9_findFit_123, eX9_findFit_126, eX9_findFit_127, Int.cast_ofNat_Int, Nat.reduceLT, Nat.reduceLeDiff, Nat.reduceEqDiff, Nat.reduceAdd, Nat.reduceMul, Int.reduceLE, Int.reduceLT, Int.reduceEq, not_false_iff, nlr, Nat.zero_add, Nat.add_zero, e10f, e01f, eq_self, true_and, and_true, false_and, and_false, and_self, decide_true, decide_false, mm_bd_i, mm_bd_v, if_true, if_false, not_true_eq_false, not_false_eq_true, nI_1, Bool.true_eq_false, Bool.false_eq_true, bI_0, n_le0, n_0lt, n_lt0, n_0le, n_eq0, n_eqm, n_eq1, n_le1, n_1lt, n_1le, n_lt1, nn_le, nI_ltI, nI_eq, nI_clamp, nI_add, pk_mul, i_eq0, i_eqm, i_0le, i_le0, i_0lt, i_lt0, i_mle, i_ltm, ii_le, iI_lt, iI_eq, ni_le, ni_lt, ni_eq, in_le, in_lt, in_eq, ni_add, in_add, ni_sub, in_sub, ni_mul, in_mul, iI_add, iI_sub, iI_mul, i_p1, iI_neg, n_neg, c, cc]
    · intro k hk ih a6 hn
      have inner : ∀ p, p ≤ 256 → (∀ q, q < 256 * k + p → fB g q = true → ¬ (fN (fB g) q : Int) = v) → ∃ r, mm_E (d + 5) mX9_findFit 54 [.ref t, .ref 3, .int (iI v), .int (nI pr), .int (nI (fN (fB g) (256 * k + p))), .int (nI k), .int (nI p)] [] (z, F, I2, L) = some (some (.int (iI r)), (z, F, I2, L)) ∧ ftP g pr v r := by
        apply lp
        · intro hn'
          obtain ⟨r, r1, r2⟩ := ih (.int (nI 256)) hn'
          refine ⟨r, ?_, r2⟩
          rw [← r1, eX9_findFit_54]
          simp (disch := first | assumption | exact zTo hz ht | exact zTt hz ht (by decide) (by decide) | (refine ix (zTl hz ht (by decide) (by decide)) ?_; omega) | (refine ix (zTl5 hz ht) ?_; omega) | exact bI_or _ | exact zOK_O hz (by decide) (by decide) rfl | exact zOK_T hz (by decide) (by decide) rfl | (refine ix (zOK_l hz (by decide) (by decide) rfl) ?_; omega) | decide | omega) only [eX9_findFit_56, eX9_findFit_59, eX9_findFit_110, eX9_findFit_113, Int.cast_ofNat_Int, Nat.reduceLT, Nat.reduceLeDiff, Nat.reduceEqDiff, Nat.reduceAdd, Nat.reduceMul, Int.reduceLE, Int.reduceLT, Int.reduceEq, not_false_iff, nlr, Nat.zero_add, Nat.add_zero, e10f, e01f, eq_self, true_and, and_true, false_and, and_false, and_self, decide_true, decide_false, mm_bd_i, mm_bd_v, if_true, if_false, not_true_eq_false, not_false_eq_true, nI_1, Bool.true_eq_false, Bool.false_eq_true, bI_0, n_le0, n_0lt, n_lt0, n_0le, n_eq0, n_eqm, n_eq1, n_le1, n_1lt, n_1le, n_lt1, nn_le, nI_ltI, nI_eq, nI_clamp, nI_add, pk_mul, i_eq0, i_eqm, i_0le, i_le0, i_0lt, i_lt0, i_mle, i_ltm, ii_le, iI_lt, iI_eq, ni_le, ni_lt, ni_eq, in_le, in_lt, in_eq, ni_add, in_add, ni_sub, in_sub, ni_mul, in_mul, iI_add, iI_sub, iI_mul, i_p1, iI_neg, n_neg]
          rfl
        · intro p hp' ih2 hn'
          have wl := fN_le (fB g) (256 * k + p)
          have fb : fB g (256 * k + p) = decide (oI (g p) = (k : Int)) := by unfold fB; rw [show (256 * k + p) % 256 = p by omega, show (256 * k + p) / 256 = k by omega]
          have gp := gl p
          have fs : fN (fB g) (256 * k + (p + 1)) = fN (fB g) (256 * k + p) + if fB g (256 * k + p) = true then 1 else 0 := rfl
          by_cases e : oI (g p) = (k : Int)
          · rw [decide_eq_true e] at fb
            rw [if_pos fb] at fs
            have e' : (oI (g p) = (k : Int)) = True := eq_true e
            by_cases ev : (fN (fB g) (256 * k + p) : Int) = v
            · refine ⟨(1000 * k + 4 * (p % 64) + p / 64 : Nat), ?_, Or.inr (Or.inl ⟨k, p, by omega, hp', fb, ev, rfl⟩)⟩
              rw [eX9_findFit_54, ← nI_iI]
              simp (disch := first | assumption | exact zTo hz ht | exact zTt hz ht (by decide) (by decide) | (refine ix (zTl hz ht (by decide) (by decide)) ?_; omega) | (refine ix (zTl5 hz ht) ?_; omega) | exact bI_or _ | exact zOK_O hz (by decide) (by decide) rfl | exact zOK_T hz (by decide) (by decide) rfl | (refine ix (zOK_l hz (by decide) (by decide) rfl) ?_; omega) | decide | omega) only [eX9_findFit_56, eX9_findFit_59, eX9_findFit_62, eX9_findFit_63, eX9_findFit_66, eX9_findFit_68, eX9_findFit_69, eX9_findFit_71, eX9_findFit_74, eX9_findFit_76, eX9_findFit_77, eX9_findFit_80, eX9_findFit_83, eX9_findFit_85, eX9_findFit_86, eX9_findFit_87, eX9_findFit_89, eX9_findFit_91, eX9_findFit_92, eX9_findFit_93, eX9_findFit_94, eX9_findFit_96, eX9_findFit_98, eX9_findFit_99, eX9_findFit_100, eX9_findFit_101, eX9_findFit_104, eX9_findFit_107, Int.cast_ofNat_Int, Nat.reduceLT, Nat.reduceLeDiff, Nat.reduceEqDiff, Nat.reduceAdd, Nat.reduceMul, Int.reduceLE, Int.reduceLT, Int.reduceEq, not_false_iff, nlr, Nat.zero_add, Nat.add_zero, e10f, e01f, eq_self, true_and, and_true, false_and, and_false, and_self, decide_true, decide_false, mm_bd_i, mm_bd_v, if_true, if_false, not_true_eq_false, not_false_eq_true, nI_1, Bool.true_eq_false, Bool.false_eq_true, bI_0, n_le0, n_0lt, n_lt0, n_0le, n_eq0, n_eqm, n_eq1, n_le1, n_1lt, n_1le, n_lt1, nn_le, nI_ltI, nI_eq, nI_clamp, nI_add, pk_mul, i_eq0, i_eqm, i_0le, i_le0, i_0lt, i_lt0, i_mle, i_ltm, ii_le, iI_lt, iI_eq, ni_le, ni_lt, ni_eq, in_le, in_lt, in_eq, ni_add, in_add, ni_sub, in_sub, ni_mul, in_mul, iI_add, iI_sub, iI_mul, i_p1, iI_neg, n_neg, hp', z4, f3 p hp', e', ev, pk_div, n_m64]
            · obtain ⟨r, r1, r2⟩ := ih2 (fun q hq hb => by
                by_cases eq : q = 256 * k + p
                · rw [eq]; exact ev
                · exact hn' q (by omega) hb)
              refine ⟨r, ?_, r2⟩
              rw [fs] at r1
              rw [← r1, eX9_findFit_54]
              simp (disch := first | assumption | exact zTo hz ht | exact zTt hz ht (by decide) (by decide) | (refine ix (zTl hz ht (by decide) (by decide)) ?_; omega) | (refine ix (zTl5 hz ht) ?_; omega) | exact bI_or _ | exact zOK_O hz (by decide) (by decide) rfl | exact zOK_T hz (by decide) (by decide) rfl | (refine ix (zOK_l hz (by decide) (by decide) rfl) ?_; omega) | decide | omega) only [eX9_findFit_56, eX9_findFit_59, eX9_findFit_62, eX9_findFit_63, eX9_findFit_66, eX9_findFit_68, eX9_findFit_69, eX9_findFit_71, eX9_findFit_74, eX9_findFit_76, eX9_findFit_77, eX9_findFit_80, eX9_findFit_83, eX9_findFit_85, eX9_findFit_86, eX9_findFit_87, eX9_findFit_89, eX9_findFit_91, eX9_findFit_92, eX9_findFit_93, eX9_findFit_94, eX9_findFit_96, eX9_findFit_98, eX9_findFit_99, eX9_findFit_100, eX9_findFit_101, eX9_findFit_104, eX9_findFit_107, Int.cast_ofNat_Int, Nat.reduceLT, Nat.reduceLeDiff, Nat.reduceEqDiff, Nat.reduceAdd, Nat.reduceMul, Int.reduceLE, Int.reduceLT, Int.reduceEq, not_false_iff, nlr, Nat.zero_add, Nat.add_zero, e10f, e01f, eq_self, true_and, and_true, false_and, and_false, and_self, decide_true, decide_false, mm_bd_i, mm_bd_v, if_true, if_false, not_true_eq_false, not_false_eq_true, nI_1, Bool.true_eq_false, Bool.false_eq_true, bI_0, n_le0, n_0lt, n_lt0, n_0le, n_eq0, n_eqm, n_eq1, n_le1, n_1lt, n_1le, n_lt1, nn_le, nI_ltI, nI_eq, nI_clamp, nI_add, pk_mul, i_eq0, i_eqm, i_0le, i_le0, i_0lt, i_lt0, i_mle, i_ltm, ii_le, iI_lt, iI_eq, ni_le, ni_lt, ni_eq, in_le, in_lt, in_eq, ni_add, in_add, ni_sub, in_sub, ni_mul, in_mul, iI_add, iI_sub, iI_mul, i_p1, iI_neg, n_neg, hp', z4, f3 p hp', e', ev]
          · rw [decide_eq_false e] at fb
            rw [if_neg (by rw [fb]; exact Bool.false_ne_true)] at fs
            obtain ⟨r, r1, r2⟩ := ih2 (fun q hq hb => by
              by_cases eq : q = 256 * k + p
              · rw [eq, fb] at hb; exact Bool.noConfusion hb
              · exact hn' q (by omega) hb)
            refine ⟨r, ?_, r2⟩
            rw [fs] at r1
            rw [← r1, eX9_findFit_54]
            simp (disch := first | assumption | exact zTo hz ht | exact zTt hz ht (by decide) (by decide) | (refine ix (zTl hz ht (by decide) (by decide)) ?_; omega) | (refine ix (zTl5 hz ht) ?_; omega) | exact bI_or _ | exact zOK_O hz (by decide) (by decide) rfl | exact zOK_T hz (by decide) (by decide) rfl | (refine ix (zOK_l hz (by decide) (by decide) rfl) ?_; omega) | decide | omega) only [eX9_findFit_56, eX9_findFit_59, eX9_findFit_62, eX9_findFit_63, eX9_findFit_66, eX9_findFit_68, eX9_findFit_69, eX9_findFit_71, eX9_findFit_74, eX9_findFit_76, eX9_findFit_77, eX9_findFit_80, eX9_findFit_83, eX9_findFit_85, eX9_findFit_86, eX9_findFit_87, eX9_findFit_89, eX9_findFit_91, eX9_findFit_92, eX9_findFit_93, eX9_findFit_94, eX9_findFit_96, eX9_findFit_98, eX9_findFit_99, eX9_findFit_100, eX9_findFit_101, eX9_findFit_104, eX9_findFit_107, Int.cast_ofNat_Int, Nat.reduceLT, Nat.reduceLeDiff, Nat.reduceEqDiff, Nat.reduceAdd, Nat.reduceMul, Int.reduceLE, Int.reduceLT, Int.reduceEq, not_false_iff, nlr, Nat.zero_add, Nat.add_zero, e10f, e01f, eq_self, true_and, and_true, false_and, and_false, and_self, decide_true, decide_false, mm_bd_i, mm_bd_v, if_true, if_false, not_true_eq_false, not_false_eq_true, nI_1, Bool.true_eq_false, Bool.false_eq_true, bI_0, n_le0, n_0lt, n_lt0, n_0le, n_eq0, n_eqm, n_eq1, n_le1, n_1lt, n_1le, n_lt1, nn_le, nI_ltI, nI_eq, nI_clamp, nI_add, pk_mul, i_eq0, i_eqm, i_0le, i_le0, i_0lt, i_lt0, i_mle, i_ltm, ii_le, iI_lt, iI_eq, ni_le, ni_lt, ni_eq, in_le, in_lt, in_eq, ni_add, in_add, ni_sub, in_sub, ni_mul, in_mul, iI_add, iI_sub, iI_mul, i_p1, iI_neg, n_neg, hp', z4, f3 p hp', e]
      obtain ⟨r, r1, r2⟩ := inner 0 (by omega) hn
      refine ⟨r, ?_, r2⟩
      have cc : ¬ pr < k := by omega
      rw [← r1, eX9_findFit_45]
      simp (disch := first | assumption | exact zTo hz ht | exact zTt hz ht (by decide) (by decide) | (refine ix (zTl hz ht (by decide) (by decide)) ?_; omega) | (refine ix (zTl5 hz ht) ?_; omega) | exact bI_or _ | exact zOK_O hz (by decide) (by decide) rfl | exact zOK_T hz (by decide) (by decide) rfl | (refine ix (zOK_l hz (by decide) (by decide) rfl) ?_; omega) | decide | omega) only [eX9_findFit_47, eX9_findFit_48, eX9_findFit_51, eX9_findFit_52, Int.cast_ofNat_Int, Nat.reduceLT, Nat.reduceLeDiff, Nat.reduceEqDiff, Nat.reduceAdd, Nat.reduceMul, Int.reduceLE, Int.reduceLT, Int.reduceEq, not_false_iff, nlr, Nat.zero_add, Nat.add_zero, e10f, e01f, eq_self, true_and, and_true, false_and, and_false, and_self, decide_true, decide_false, mm_bd_i, mm_bd_v, if_true, if_false, not_true_eq_false, not_false_eq_true, nI_1, Bool.true_eq_false, Bool.false_eq_true, bI_0, n_le0, n_0lt, n_lt0, n_0le, n_eq0, n_eqm, n_eq1, n_le1, n_1lt, n_1le, n_lt1, nn_le, nI_ltI, nI_eq, nI_clamp, nI_add, pk_mul, i_eq0, i_eqm, i_0le, i_le0, i_0lt, i_lt0, i_mle, i_ltm, ii_le, iI_lt, iI_eq, ni_le, ni_lt, ni_eq, in_le, in_lt, in_eq, ni_add, in_add, ni_sub, in_sub, ni_mul, in_mul, iI_add, iI_sub, iI_mul, i_p1, iI_neg, n_neg, cc]
      rfl
  obtain ⟨r, r1, r2⟩ := se 0 (by omega) uu (fun q hq => absurd hq (by omega))
  refine ⟨I2, r, ?_, r2, f2⟩
  rw [← r1]
  refine Eq.trans ?_ f1
  simp (disch := first | assumption | exact zTo hz ht | exact zTt hz ht (by decide) (by decide) | (refine ix (zTl hz ht (by decide) (by decide)) ?_; omega) | (refine ix (zTl5 hz ht) ?_; omega) | exact bI_or _ | exact zOK_O hz (by decide) (by decide) rfl | exact zOK_T hz (by decide) (by decide) rfl | (refine ix (zOK_l hz (by decide) (by decide) rfl) ?_; omega) | decide | omega) only [eX9_findFit_0, eX9_findFit_1, Int.cast_ofNat_Int, Nat.reduceLT, Nat.reduceLeDiff, Nat.reduceEqDiff, Nat.reduceAdd, Nat.reduceMul, Int.reduceLE, Int.reduceLT, Int.reduceEq, not_false_iff, nlr, Nat.zero_add, Nat.add_zero, e10f, e01f, eq_self, true_and, and_true, false_and, and_false, and_self, decide_true, decide_false, mm_bd_i, mm_bd_v, if_true, if_false, not_true_eq_false, not_false_eq_true, nI_1, Bool.true_eq_false, Bool.false_eq_true, bI_0, n_le0, n_0lt, n_lt0, n_0le, n_eq0, n_eqm, n_eq1, n_le1, n_1lt, n_1le, n_lt1, nn_le, nI_ltI, nI_eq, nI_clamp, nI_add, pk_mul, i_eq0, i_eqm, i_0le, i_le0, i_0lt, i_lt0, i_mle, i_ltm, ii_le, iI_lt, iI_eq, ni_le, ni_lt, ni_eq, in_le, in_lt, in_eq, ni_add, in_add, ni_sub, in_sub, ni_mul, in_mul, iI_add, iI_sub, iI_mul, i_p1, iI_neg, n_neg]
  rfl
theorem okTh_ln (c : Nat) (th : Nat → Nat × Nat × Nat × Nat) (h : okTh c th) : ∀ q, q < c → okLn' (th q) := fun q hq => by
  have := h.2 q hq
  exact ⟨this.1, this.2.2.1, this.2.2.2.1, this.2.2.2.2⟩
theorem cX_fit_out (d : Nat) (z : mm_Z) (F : Nat → Nat → Value) (I : Nat → Nat → Int32) (L : Nat → Nat → Int64) (x : Int32) (hx : x.toInt < -1) : mm_E (d + 6) mX10_fit 0 [.ref 2, .int x] [] (z, F, I, L) = some (some (.int (-3)), (z, F, I, L)) := by
  obtain ⟨b1, b2⟩ := i32_b x
  rw [iI_of x]
  generalize x.toInt = v at *
  simp (disch := first | assumption | exact zTo hz ht | exact zTt hz ht (by decide) (by decide) | (refine ix (zTl hz ht (by decide) (by decide)) ?_; omega) | (refine ix (zTl5 hz ht) ?_; omega) | exact bI_or _ | exact zOK_O hz (by decide) (by decide) rfl | exact zOK_T hz (by decide) (by decide) rfl | (refine ix (zOK_l hz (by decide) (by decide) rfl) ?_; omega) | decide | omega) only [eX10_fit_0, eX10_fit_1, eX10_fit_2, eX10_fit_5, eX10_fit_7, eX10_fit_8, eX10_fit_9, eX10_fit_12, eX10_fit_15, eX10_fit_18, eX10_fit_20, eX10_fit_23, eX10_fit_24, eX10_fit_27, eX10_fit_28, eX10_fit_31, eX10_fit_32, eX10_fit_33, eX10_fit_36, eX10_fit_37, eX10_fit_38, eX10_fit_41, Int.cast_ofNat_Int, Nat.reduceLT, Nat.reduceLeDiff, Nat.reduceEqDiff, Nat.reduceAdd, Nat.reduceMul, Int.reduceLE, Int.reduceLT, Int.reduceEq, not_false_iff, nlr, Nat.zero_add, Nat.add_zero, e10f, e01f, eq_self, true_and, and_true, false_and, and_false, and_self, decide_true, decide_false, mm_bd_i, mm_bd_v, if_true, if_false, not_true_eq_false, not_false_eq_true, nI_1, Bool.true_eq_false, Bool.false_eq_true, bI_0, n_le0, n_0lt, n_lt0, n_0le, n_eq0, n_eqm, n_eq1, n_le1, n_1lt, n_1le, n_lt1, nn_le, nI_ltI, nI_eq, nI_clamp, nI_add, pk_mul, i_eq0, i_eqm, i_0le, i_le0, i_0lt, i_lt0, i_mle, i_ltm, ii_le, iI_lt, iI_eq, ni_le, ni_lt, ni_eq, in_le, in_lt, in_eq, ni_add, in_add, ni_sub, in_sub, ni_mul, in_mul, iI_add, iI_sub, iI_mul, i_p1, iI_neg, n_neg, hx]
theorem cX_fit_not (d : Nat) (z : mm_Z) (F : Nat → Nat → Value) (I : Nat → Nat → Int32) (L : Nat → Nat → Int64) (hz : zOK z) (hT : cTop F) (c : Nat) (th : Nat → Nat × Nat × Nat × Nat) (hG : cTg c th F I) (h0 : c = 0) (x : Int32) (hx : ¬ x.toInt < -1) : mm_E (d + 6) mX10_fit 0 [.ref 2, .int x] [] (z, F, I, L) = some (some (.int (-4)), (z, F, I, L)) := by
  obtain ⟨b1, b2⟩ := i32_b x
  obtain ⟨t, u, e1, e2, e3, e4, e5, e6⟩ := hG
  have ht : t = 60 ∨ t = 66 := by omega
  have r5 := e6.1
  rw [h0, nI_0] at r5
  rw [iI_of x]
  generalize x.toInt = v at *
  simp (disch := first | assumption | exact zTo hz ht | exact zTt hz ht (by decide) (by decide) | (refine ix (zTl hz ht (by decide) (by decide)) ?_; omega) | (refine ix (zTl5 hz ht) ?_; omega) | exact bI_or _ | exact zOK_O hz (by decide) (by decide) rfl | exact zOK_T hz (by decide) (by decide) rfl | (refine ix (zOK_l hz (by decide) (by decide) rfl) ?_; omega) | decide | omega) only [eX10_fit_0, eX10_fit_1, eX10_fit_2, eX10_fit_5, eX10_fit_7, eX10_fit_8, eX10_fit_9, eX10_fit_12, eX10_fit_15, eX10_fit_18, eX10_fit_20, eX10_fit_23, eX10_fit_24, eX10_fit_27, eX10_fit_28, eX10_fit_31, eX10_fit_32, eX10_fit_33, eX10_fit_36, eX10_fit_37, eX10_fit_38, eX10_fit_41, Int.cast_ofNat_Int, Nat.reduceLT, Nat.reduceLeDiff, Nat.reduceEqDiff, Nat.reduceAdd, Nat.reduceMul, Int.reduceLE, Int.reduceLT, Int.reduceEq, not_false_iff, nlr, Nat.zero_add, Nat.add_zero, e10f, e01f, eq_self, true_and, and_true, false_and, and_false, and_self, decide_true, decide_false, mm_bd_i, mm_bd_v, if_true, if_false, not_true_eq_false, not_false_eq_true, nI_1, Bool.true_eq_false, Bool.false_eq_true, bI_0, n_le0, n_0lt, n_lt0, n_0le, n_eq0, n_eqm, n_eq1, n_le1, n_1lt, n_1le, n_lt1, nn_le, nI_ltI, nI_eq, nI_clamp, nI_add, pk_mul, i_eq0, i_eqm, i_0le, i_le0, i_0lt, i_lt0, i_mle, i_ltm, ii_le, iI_lt, iI_eq, ni_le, ni_lt, ni_eq, in_le, in_lt, in_eq, ni_add, in_add, ni_sub, in_sub, ni_mul, in_mul, iI_add, iI_sub, iI_mul, i_p1, iI_neg, n_neg, hx, e2, r5]
theorem cX_fit (d : Nat) (z : mm_Z) (F : Nat → Nat → Value) (I : Nat → Nat → Int32) (L : Nat → Nat → Int64) (n : Nat) (hs : Nat → List (Int × Int × Nat)) (st : Nat → Option (Nat × Nat)) (hz : zOK z) (w : wOK n hs st) (hT : cTop F) (h : cHl n hs st F I L) (c : Nat) (th : Nat → Nat × Nat × Nat × Nat) (hG : cTg c th F I) (ok : okTh c th) (h0 : ¬ c = 0) (lm : Nat → Nat) (hl : cLm lm I) (l2 : lm 2 ≤ 10) (x : Int32) (hx : ¬ x.toInt < -1) : ∃ I' r, mm_E (d + 6) mX10_fit 0 [.ref 2, .int x] [] (z, F, I, L) = some (some (.int (iI r)), (z, F, I', L)) ∧ ftP (fun p => cS (kd n hs st) (mkA n hs st) th (p % 64) (p / 64) c) (lm 2) x.toInt r ∧ cTg c th F I' ∧ ∀ y, (y < 60 ∨ 71 < y) → I' y = I y := by
  obtain ⟨b1, b2⟩ := i32_b x
  obtain ⟨t, u, e1, e2, e3, e4, e5, e6⟩ := hG
  have ht : t = 60 ∨ t = 66 := by omega
  have c10 := ok.1
  obtain ⟨I', r, k1, k2, k3⟩ := cF_find d z F I L n hs st hz w h t ht c th e4 e6 ok.1 (okTh_ln c th ok) x.toInt (by omega) b2 (lm 2) l2
  refine ⟨I', r, ?_, k2, ⟨t, u, e1, e2, e3, e4, e5, thR_I c th e6 k3⟩, fun y hy => k3 y (by omega)⟩
  have r5 := e6.1
  have lm2 := hl 2 (by decide)
  conv => lhs; rw [iI_of x]
  generalize x.toInt = v at *
  simp (disch := first | assumption | exact zTo hz ht | exact zTt hz ht (by decide) (by decide) | (refine ix (zTl hz ht (by decide) (by decide)) ?_; omega) | (refine ix (zTl5 hz ht) ?_; omega) | exact bI_or _ | exact zOK_O hz (by decide) (by decide) rfl | exact zOK_T hz (by decide) (by decide) rfl | (refine ix (zOK_l hz (by decide) (by decide) rfl) ?_; omega) | decide | omega) only [eX10_fit_0, eX10_fit_1, eX10_fit_2, eX10_fit_5, eX10_fit_7, eX10_fit_8, eX10_fit_9, eX10_fit_12, eX10_fit_15, eX10_fit_18, eX10_fit_20, eX10_fit_23, eX10_fit_24, eX10_fit_27, eX10_fit_28, eX10_fit_31, eX10_fit_32, eX10_fit_33, eX10_fit_36, eX10_fit_37, eX10_fit_38, eX10_fit_41, Int.cast_ofNat_Int, Nat.reduceLT, Nat.reduceLeDiff, Nat.reduceEqDiff, Nat.reduceAdd, Nat.reduceMul, Int.reduceLE, Int.reduceLT, Int.reduceEq, not_false_iff, nlr, Nat.zero_add, Nat.add_zero, e10f, e01f, eq_self, true_and, and_true, false_and, and_false, and_self, decide_true, decide_false, mm_bd_i, mm_bd_v, if_true, if_false, not_true_eq_false, not_false_eq_true, nI_1, Bool.true_eq_false, Bool.false_eq_true, bI_0, n_le0, n_0lt, n_lt0, n_0le, n_eq0, n_eqm, n_eq1, n_le1, n_1lt, n_1le, n_lt1, nn_le, nI_ltI, nI_eq, nI_clamp, nI_add, pk_mul, i_eq0, i_eqm, i_0le, i_le0, i_0lt, i_lt0, i_mle, i_ltm, ii_le, iI_lt, iI_eq, ni_le, ni_lt, ni_eq, in_le, in_lt, in_eq, ni_add, in_add, ni_sub, in_sub, ni_mul, in_mul, iI_add, iI_sub, iI_mul, i_p1, iI_neg, n_neg, hx, e2, r5, h0, hT.1, hT.2.1, lm2, k1]
