/-! rooms: the reference's partOf -/
theorem bs_sym {c k : Nat} (hc : c < 64) (hk : k < 4) (h : ¬ bsI c k = -1) : ∃ k', k' < 4 ∧ bsI (bsI c k).toNat k' = c := by
  have e : k = 0 ∨ k = 1 ∨ k = 2 ∨ k = 3 := by omega
  rcases e with rfl | rfl | rfl | rfl
  · refine ⟨2, by decide, ?_⟩
    rw [bs0] at h ⊢
    rw [bs2]
    (repeat' split) <;> (repeat' split at h) <;> omega
  · refine ⟨3, by decide, ?_⟩
    rw [bs1] at h ⊢
    rw [bs3]
    (repeat' split) <;> (repeat' split at h) <;> omega
  · refine ⟨0, by decide, ?_⟩
    rw [bs2] at h ⊢
    rw [bs0]
    (repeat' split) <;> (repeat' split at h) <;> omega
  · refine ⟨1, by decide, ?_⟩
    rw [bs3] at h ⊢
    rw [bs1]
    (repeat' split) <;> (repeat' split at h) <;> omega
theorem nbA_of {T : Nat → Bool} {a c k : Nat} (hk : k < 4) (h : bsI a k = (c : Int)) (g : T c = true) : nbA T a = true := by
  have q : nbB T a k = true := by
    unfold nbB
    rw [h, Int.toNat_natCast, g, decide_eq_true (by omega)]
    rfl
  have e : k = 0 ∨ k = 1 ∨ k = 2 ∨ k = 3 := by omega
  unfold nbA
  rcases e with rfl | rfl | rfl | rfl <;> rw [q] <;> simp
theorem nbA_ex {T : Nat → Bool} {a : Nat} (h : nbA T a = true) : ∃ k, k < 4 ∧ ¬ bsI a k = -1 ∧ T (bsI a k).toNat = true := by
  have key : ∀ k, nbB T a k = true → ¬ bsI a k = -1 ∧ T (bsI a k).toNat = true := by
    intro k q
    unfold nbB at q
    rw [Bool.and_eq_true, decide_eq_true_eq] at q
    exact q
  unfold nbA at h
  simp only [Bool.or_eq_true] at h
  rcases h with ((q | q) | q) | q
  · exact ⟨2, by decide, key 2 q⟩
  · exact ⟨0, by decide, key 0 q⟩
  · exact ⟨3, by decide, key 3 q⟩
  · exact ⟨1, by decide, key 1 q⟩
def okP (f : Nat → Bool) (S : Int64) (c k : Nat) : Prop := lb S c = true → ¬ bsI c k = -1 → f (bsI c k).toNat = true → lb S (bsI c k).toNat = true
def gro (S S' : Int64) : Prop := ∀ a, a < 64 → lb S a = true → lb S' a = true
def mnS (f : Nat → Bool) (s : Nat) (S : Int64) : Prop := lb S s = true ∧ ∀ T : Nat → Bool, T s = true → clo f T → ∀ a, a < 64 → lb S a = true → T a = true
theorem okP_clo {f : Nat → Bool} {S : Int64} (h : ∀ c, c < 64 → ∀ k, k < 4 → okP f S c k) : clo f (lb S) := by
  intro a ha g1 g2
  obtain ⟨k, hk, k1, k2⟩ := nbA_ex g2
  have b := bsI_b a k
  obtain ⟨k', hk', q⟩ := bs_sym ha hk k1
  have := h (bsI a k).toNat (by omega) k' hk' k2
  rw [q] at this
  rw [Int.toNat_natCast] at this
  exact this (by omega) g1
theorem rM_part_k (d : Nat) (z : mm_Z) (F : Nat → Nat → Value) (I : Nat → Nat → Int32) (L : Nat → Nat → Int64) (K : Nat → Nat) (hz : zOK z) (hF : FixM F) (hK : ∀ c, c < 64 → I 127 c = nI (K c) ∧ K c ≤ 3) (h17 : F 120 17 = .long (lOr (drC K) 64)) (s c : Nat) (hs : s < 64) (hc : c < 64) (a1 : Value) : ∀ i, i ≤ 4 → ∀ (S : Int64) (m : Bool) (a7 : Value), mnS (flB K) s S → ∃ S' m' k' a7', mm_E (d + 2) mX11_partOf 28 [.ref 120, a1, .long S, uu, .int (bI m), .int (nI c), .int (nI i), a7] [] (z, F, I, L) = mm_E (d + 2) mX11_partOf 107 [.ref 120, a1, .long S', uu, .int (bI m'), .int (nI c), k', a7'] [] (z, F, I, L) ∧ gro S S' ∧ mnS (flB K) s S' ∧ (m' = false → m = false ∧ S' = S ∧ ∀ k, i ≤ k → k < 4 → okP (flB K) S c k) ∧ (m' = true → m = true ∨ cnt (lb S) < cnt (lb S')) := by
  apply lp
  · intro S m a7 hm
    refine ⟨S, m, .int (nI 4), a7, ?_, fun _ _ q => q, hm, fun q => ⟨q, rfl, fun k q1 q2 => by omega⟩, fun q => Or.inl q⟩
    rw [eX11_partOf_28]
    simp (disch := first | assumption | exact bI_or _ | exact zOK_O hz (by decide) (by decide) rfl | exact zOK_T hz (by decide) (by decide) rfl | (refine ix (zOK_l hz (by decide) (by decide) rfl) ?_; omega) | decide | omega) only [eX11_partOf_30, eX11_partOf_31, eX11_partOf_34, eX11_partOf_35, eX11_partOf_37, eX11_partOf_40, eX11_partOf_43, eX11_partOf_44, eX11_partOf_46, eX11_partOf_48, eX11_partOf_51, eX11_partOf_53, eX11_partOf_55, eX11_partOf_56, eX11_partOf_59, eX11_partOf_60, eX11_partOf_63, eX11_partOf_65, eX11_partOf_66, eX11_partOf_67, eX11_partOf_70, eX11_partOf_71, eX11_partOf_74, eX11_partOf_76, eX11_partOf_79, eX11_partOf_82, eX11_partOf_83, eX11_partOf_85, eX11_partOf_88, eX11_partOf_91, eX11_partOf_92, eX11_partOf_93, eX11_partOf_95, eX11_partOf_96, eX11_partOf_97, eX11_partOf_98, eX11_partOf_99, eX11_partOf_101, eX11_partOf_104, Int.cast_ofNat_Int, Nat.reduceLT, Nat.reduceLeDiff, Nat.reduceEqDiff, Nat.reduceAdd, Nat.reduceMul, Int.reduceLE, Int.reduceLT, Int.reduceEq, not_false_iff, nlr, Nat.zero_add, Nat.add_zero, e10f, e01f, eq_self, true_and, and_true, false_and, and_false, and_self, decide_true, decide_false, mm_bd_i, mm_bd_v, if_true, if_false, not_true_eq_false, not_false_eq_true, nI_1, Bool.true_eq_false, Bool.false_eq_true, bI_0, n_le0, n_0lt, n_lt0, n_0le, n_eq0, n_eqm, n_eq1, n_le1, n_1lt, n_1le, n_lt1, nn_le, nI_ltI, nI_eq, nI_clamp, nI_add, pk_mul, i_eq0, i_eqm, i_0le, i_le0, i_0lt, i_lt0, i_mle, i_ltm, ii_le, iI_lt, iI_eq, ni_le, ni_lt, ni_eq, in_le, in_lt, in_eq, ni_add, in_add, ni_sub, in_sub, ni_mul, in_mul, iI_add, iI_sub, iI_mul, i_p1, iI_neg, n_neg]
  · intro i hi ih S m a7 hm
    have ha := fun d' w => rM_has d' z F I L S c hc w
    cases e1 : lb S c with
    | false =>
      rw [e1] at ha
      refine ⟨S, m, .int (nI i), a7, ?_, fun _ _ q => q, hm, fun q => ⟨q, rfl, fun k _ _ q1 => absurd q1 (by rw [e1]; simp)⟩, fun q => Or.inl q⟩
      rw [eX11_partOf_28]
      simp (disch := first | assumption | exact bI_or _ | exact zOK_O hz (by decide) (by decide) rfl | exact zOK_T hz (by decide) (by decide) rfl | (refine ix (zOK_l hz (by decide) (by decide) rfl) ?_; omega) | decide | omega) only [eX11_partOf_30, eX11_partOf_31, eX11_partOf_34, eX11_partOf_35, eX11_partOf_37, eX11_partOf_40, eX11_partOf_43, eX11_partOf_44, eX11_partOf_46, eX11_partOf_48, eX11_partOf_51, eX11_partOf_53, eX11_partOf_55, eX11_partOf_56, eX11_partOf_59, eX11_partOf_60, eX11_partOf_63, eX11_partOf_65, eX11_partOf_66, eX11_partOf_67, eX11_partOf_70, eX11_partOf_71, eX11_partOf_74, eX11_partOf_76, eX11_partOf_79, eX11_partOf_82, eX11_partOf_83, eX11_partOf_85, eX11_partOf_88, eX11_partOf_91, eX11_partOf_92, eX11_partOf_93, eX11_partOf_95, eX11_partOf_96, eX11_partOf_97, eX11_partOf_98, eX11_partOf_99, eX11_partOf_101, eX11_partOf_104, Int.cast_ofNat_Int, Nat.reduceLT, Nat.reduceLeDiff, Nat.reduceEqDiff, Nat.reduceAdd, Nat.reduceMul, Int.reduceLE, Int.reduceLT, Int.reduceEq, not_false_iff, nlr, Nat.zero_add, Nat.add_zero, e10f, e01f, eq_self, true_and, and_true, false_and, and_false, and_self, decide_true, decide_false, mm_bd_i, mm_bd_v, if_true, if_false, not_true_eq_false, not_false_eq_true, nI_1, Bool.true_eq_false, Bool.false_eq_true, bI_0, n_le0, n_0lt, n_lt0, n_0le, n_eq0, n_eqm, n_eq1, n_le1, n_1lt, n_1le, n_lt1, nn_le, nI_ltI, nI_eq, nI_clamp, nI_add, pk_mul, i_eq0, i_eqm, i_0le, i_le0, i_0lt, i_lt0, i_mle, i_ltm, ii_le, iI_lt, iI_eq, ni_le, ni_lt, ni_eq, in_le, in_lt, in_eq, ni_add, in_add, ni_sub, in_sub, ni_mul, in_mul, iI_add, iI_sub, iI_mul, i_p1, iI_neg, n_neg, hi, ha]
    | true =>
      rw [e1] at ha
      have be := fun d' => rM_beside d' z F I L (.ref 120) c i hc hi
      have bb := bsI_b c i
      by_cases e2 : bsI c i = -1
      · obtain ⟨S', m', k', a7', g1, g2, g3, g4, g5⟩ := ih S m (.int (iI (bsI c i))) hm
        refine ⟨S', m', k', a7', ?_, g2, g3, fun q => ?_, g5⟩
        · rw [← g1, eX11_partOf_28]
          simp (disch := first | assumption | exact bI_or _ | exact zOK_O hz (by decide) (by decide) rfl | exact zOK_T hz (by decide) (by decide) rfl | (refine ix (zOK_l hz (by decide) (by decide) rfl) ?_; omega) | decide | omega) only [eX11_partOf_30, eX11_partOf_31, eX11_partOf_34, eX11_partOf_35, eX11_partOf_37, eX11_partOf_40, eX11_partOf_43, eX11_partOf_44, eX11_partOf_46, eX11_partOf_48, eX11_partOf_51, eX11_partOf_53, eX11_partOf_55, eX11_partOf_56, eX11_partOf_59, eX11_partOf_60, eX11_partOf_63, eX11_partOf_65, eX11_partOf_66, eX11_partOf_67, eX11_partOf_70, eX11_partOf_71, eX11_partOf_74, eX11_partOf_76, eX11_partOf_79, eX11_partOf_82, eX11_partOf_83, eX11_partOf_85, eX11_partOf_88, eX11_partOf_91, eX11_partOf_92, eX11_partOf_93, eX11_partOf_95, eX11_partOf_96, eX11_partOf_97, eX11_partOf_98, eX11_partOf_99, eX11_partOf_101, eX11_partOf_104, Int.cast_ofNat_Int, Nat.reduceLT, Nat.reduceLeDiff, Nat.reduceEqDiff, Nat.reduceAdd, Nat.reduceMul, Int.reduceLE, Int.reduceLT, Int.reduceEq, not_false_iff, nlr, Nat.zero_add, Nat.add_zero, e10f, e01f, eq_self, true_and, and_true, false_and, and_false, and_self, decide_true, decide_false, mm_bd_i, mm_bd_v, if_true, if_false, not_true_eq_false, not_false_eq_true, nI_1, Bool.true_eq_false, Bool.false_eq_true, bI_0, n_le0, n_0lt, n_lt0, n_0le, n_eq0, n_eqm, n_eq1, n_le1, n_1lt, n_1le, n_lt1, nn_le, nI_ltI, nI_eq, nI_clamp, nI_add, pk_mul, i_eq0, i_eqm, i_0le, i_le0, i_0lt, i_lt0, i_mle, i_ltm, ii_le, iI_lt, iI_eq, ni_le, ni_lt, ni_eq, in_le, in_lt, in_eq, ni_add, in_add, ni_sub, in_sub, ni_mul, in_mul, iI_add, iI_sub, iI_mul, i_p1, iI_neg, n_neg, hi, ha, be, e2]
        · obtain ⟨q1, q2, q3⟩ := g4 q
          refine ⟨q1, q2, fun k k1 k2 => ?_⟩
          by_cases w : k = i
          · subst w; exact fun _ q => absurd e2 q
          · exact q3 k (by omega) k2
      · have eb : iI (bsI c i) = nI (bsI c i).toNat := iI_nn (by omega)
        have hb : (bsI c i).toNat < 64 := by omega
        have kb := hK (bsI c i).toNat hb
        have hd := fun d' w => rM_has d' z F I L (lOr (drC K) 64) (bsI c i).toNat hb w
        rw [lb_lOr (drC K) _ 64 (Nat.le_refl _), decide_eq_true hb, Bool.true_and] at hd
        have hs2 := fun d' w => rM_has d' z F I L S (bsI c i).toNat hb w
        by_cases e3 : flB K (bsI c i).toNat = true
        · have e3' := e3
          unfold flB at e3'
          rw [Bool.and_eq_true, decide_eq_true_eq, Bool.not_eq_true'] at e3'
          rw [e3'.2] at hd
          cases e4 : lb S (bsI c i).toNat with
          | true =>
            rw [e4] at hs2
            obtain ⟨S', m', k', a7', g1, g2, g3, g4, g5⟩ := ih S m (.int (nI (bsI c i).toNat)) hm
            refine ⟨S', m', k', a7', ?_, g2, g3, fun q => ?_, g5⟩
            · rw [← g1, eX11_partOf_28]
              simp (disch := first | assumption | exact bI_or _ | exact zOK_O hz (by decide) (by decide) rfl | exact zOK_T hz (by decide) (by decide) rfl | (refine ix (zOK_l hz (by decide) (by decide) rfl) ?_; omega) | decide | omega) only [eX11_partOf_30, eX11_partOf_31, eX11_partOf_34, eX11_partOf_35, eX11_partOf_37, eX11_partOf_40, eX11_partOf_43, eX11_partOf_44, eX11_partOf_46, eX11_partOf_48, eX11_partOf_51, eX11_partOf_53, eX11_partOf_55, eX11_partOf_56, eX11_partOf_59, eX11_partOf_60, eX11_partOf_63, eX11_partOf_65, eX11_partOf_66, eX11_partOf_67, eX11_partOf_70, eX11_partOf_71, eX11_partOf_74, eX11_partOf_76, eX11_partOf_79, eX11_partOf_82, eX11_partOf_83, eX11_partOf_85, eX11_partOf_88, eX11_partOf_91, eX11_partOf_92, eX11_partOf_93, eX11_partOf_95, eX11_partOf_96, eX11_partOf_97, eX11_partOf_98, eX11_partOf_99, eX11_partOf_101, eX11_partOf_104, Int.cast_ofNat_Int, Nat.reduceLT, Nat.reduceLeDiff, Nat.reduceEqDiff, Nat.reduceAdd, Nat.reduceMul, Int.reduceLE, Int.reduceLT, Int.reduceEq, not_false_iff, nlr, Nat.zero_add, Nat.add_zero, e10f, e01f, eq_self, true_and, and_true, false_and, and_false, and_self, decide_true, decide_false, mm_bd_i, mm_bd_v, if_true, if_false, not_true_eq_false, not_false_eq_true, nI_1, Bool.true_eq_false, Bool.false_eq_true, bI_0, n_le0, n_0lt, n_lt0, n_0le, n_eq0, n_eqm, n_eq1, n_le1, n_1lt, n_1le, n_lt1, nn_le, nI_ltI, nI_eq, nI_clamp, nI_add, pk_mul, i_eq0, i_eqm, i_0le, i_le0, i_0lt, i_lt0, i_mle, i_ltm, ii_le, iI_lt, iI_eq, ni_le, ni_lt, ni_eq, in_le, in_lt, in_eq, ni_add, in_add, ni_sub, in_sub, ni_mul, in_mul, iI_add, iI_sub, iI_mul, i_p1, iI_neg, n_neg, hi, ha, be, eb, fM_10 hF, kb.1, e3'.1, h17, hd, hs2]
            · obtain ⟨q1, q2, q3⟩ := g4 q
              refine ⟨q1, q2, fun k k1 k2 => ?_⟩
              by_cases w : k = i
              · subst w; exact fun _ _ _ => e4
              · exact q3 k (by omega) k2
          | false =>
            rw [e4] at hs2
            have inc : gro S (S ||| b1 (bsI c i).toNat) := fun a _ q => by rw [lb_or, q]; rfl
            have nb : lb (S ||| b1 (bsI c i).toNat) (bsI c i).toNat = true := by rw [lb_or, lb_b1 hb]; simp
            have lt : cnt (lb S) < cnt (lb (S ||| b1 (bsI c i).toNat)) := cnt_lt inc hb e4 nb
            have mn : mnS (flB K) s (S ||| b1 (bsI c i).toNat) := by
              refine ⟨inc s hs hm.1, fun T t1 t2 a ha' q => ?_⟩
              rw [lb_or] at q
              rcases Bool.or_eq_true _ _ ▸ q with q | q
              · exact hm.2 T t1 t2 a ha' q
              · rw [lb_b1 hb, decide_eq_true_eq] at q
                subst q
                obtain ⟨k', hk', w⟩ := bs_sym hc hi e2
                exact t2 _ ha' e3 (nbA_of hk' w (hm.2 T t1 t2 c hc e1))
            obtain ⟨S', m', k', a7', g1, g2, g3, g4, g5⟩ := ih (S ||| b1 (bsI c i).toNat) true (.int (nI (bsI c i).toNat)) mn
            refine ⟨S', m', k', a7', ?_, fun a x q => g2 a x (inc a x q), g3, fun q => absurd (g4 q).1 (by simp), fun _ => Or.inr (Nat.lt_of_lt_of_le lt (cnt_mono g2))⟩
            have bs : (1 : Int64) <<< ((nI (bsI c i).toNat).toInt64 &&& 63) = b1 (bsI c i).toNat := rfl
            rw [← g1, eX11_partOf_28]
            simp (disch := first | assumption | exact bI_or _ | exact zOK_O hz (by decide) (by decide) rfl | exact zOK_T hz (by decide) (by decide) rfl | (refine ix (zOK_l hz (by decide) (by decide) rfl) ?_; omega) | decide | omega) only [eX11_partOf_30, eX11_partOf_31, eX11_partOf_34, eX11_partOf_35, eX11_partOf_37, eX11_partOf_40, eX11_partOf_43, eX11_partOf_44, eX11_partOf_46, eX11_partOf_48, eX11_partOf_51, eX11_partOf_53, eX11_partOf_55, eX11_partOf_56, eX11_partOf_59, eX11_partOf_60, eX11_partOf_63, eX11_partOf_65, eX11_partOf_66, eX11_partOf_67, eX11_partOf_70, eX11_partOf_71, eX11_partOf_74, eX11_partOf_76, eX11_partOf_79, eX11_partOf_82, eX11_partOf_83, eX11_partOf_85, eX11_partOf_88, eX11_partOf_91, eX11_partOf_92, eX11_partOf_93, eX11_partOf_95, eX11_partOf_96, eX11_partOf_97, eX11_partOf_98, eX11_partOf_99, eX11_partOf_101, eX11_partOf_104, Int.cast_ofNat_Int, Nat.reduceLT, Nat.reduceLeDiff, Nat.reduceEqDiff, Nat.reduceAdd, Nat.reduceMul, Int.reduceLE, Int.reduceLT, Int.reduceEq, not_false_iff, nlr, Nat.zero_add, Nat.add_zero, e10f, e01f, eq_self, true_and, and_true, false_and, and_false, and_self, decide_true, decide_false, mm_bd_i, mm_bd_v, if_true, if_false, not_true_eq_false, not_false_eq_true, nI_1, Bool.true_eq_false, Bool.false_eq_true, bI_0, n_le0, n_0lt, n_lt0, n_0le, n_eq0, n_eqm, n_eq1, n_le1, n_1lt, n_1le, n_lt1, nn_le, nI_ltI, nI_eq, nI_clamp, nI_add, pk_mul, i_eq0, i_eqm, i_0le, i_le0, i_0lt, i_lt0, i_mle, i_ltm, ii_le, iI_lt, iI_eq, ni_le, ni_lt, ni_eq, in_le, in_lt, in_eq, ni_add, in_add, ni_sub, in_sub, ni_mul, in_mul, iI_add, iI_sub, iI_mul, i_p1, iI_neg, n_neg, hi, ha, be, eb, fM_10 hF, kb.1, e3'.1, h17, hd, hs2, bs]
            rfl
        · obtain ⟨S', m', k', a7', g1, g2, g3, g4, g5⟩ := ih S m (.int (nI (bsI c i).toNat)) hm
          refine ⟨S', m', k', a7', ?_, g2, g3, fun q => ?_, g5⟩
          · rw [← g1, eX11_partOf_28]
            by_cases e4 : K (bsI c i).toNat = 1
            · have e5 : drC K (bsI c i).toNat = true := by
                cases w : drC K (bsI c i).toNat with
                | true => rfl
                | false => exact absurd (by unfold flB; rw [decide_eq_true e4, w]; rfl) e3
              rw [e5] at hd
              simp (disch := first | assumption | exact bI_or _ | exact zOK_O hz (by decide) (by decide) rfl | exact zOK_T hz (by decide) (by decide) rfl | (refine ix (zOK_l hz (by decide) (by decide) rfl) ?_; omega) | decide | omega) only [eX11_partOf_30, eX11_partOf_31, eX11_partOf_34, eX11_partOf_35, eX11_partOf_37, eX11_partOf_40, eX11_partOf_43, eX11_partOf_44, eX11_partOf_46, eX11_partOf_48, eX11_partOf_51, eX11_partOf_53, eX11_partOf_55, eX11_partOf_56, eX11_partOf_59, eX11_partOf_60, eX11_partOf_63, eX11_partOf_65, eX11_partOf_66, eX11_partOf_67, eX11_partOf_70, eX11_partOf_71, eX11_partOf_74, eX11_partOf_76, eX11_partOf_79, eX11_partOf_82, eX11_partOf_83, eX11_partOf_85, eX11_partOf_88, eX11_partOf_91, eX11_partOf_92, eX11_partOf_93, eX11_partOf_95, eX11_partOf_96, eX11_partOf_97, eX11_partOf_98, eX11_partOf_99, eX11_partOf_101, eX11_partOf_104, Int.cast_ofNat_Int, Nat.reduceLT, Nat.reduceLeDiff, Nat.reduceEqDiff, Nat.reduceAdd, Nat.reduceMul, Int.reduceLE, Int.reduceLT, Int.reduceEq, not_false_iff, nlr, Nat.zero_add, Nat.add_zero, e10f, e01f, eq_self, true_and, and_true, false_and, and_false, and_self, decide_true, decide_false, mm_bd_i, mm_bd_v, if_true, if_false, not_true_eq_false, not_false_eq_true, nI_1, Bool.true_eq_false, Bool.false_eq_true, bI_0, n_le0, n_0lt, n_lt0, n_0le, n_eq0, n_eqm, n_eq1, n_le1, n_1lt, n_1le, n_lt1, nn_le, nI_ltI, nI_eq, nI_clamp, nI_add, pk_mul, i_eq0, i_eqm, i_0le, i_le0, i_0lt, i_lt0, i_mle, i_ltm, ii_le, iI_lt, iI_eq, ni_le, ni_lt, ni_eq, in_le, in_lt, in_eq, ni_add, in_add, ni_sub, in_sub, ni_mul, in_mul, iI_add, iI_sub, iI_mul, i_p1, iI_neg, n_neg, hi, ha, be, eb, fM_10 hF, kb.1, e4, h17, hd]
            · simp (disch := first | assumption | exact bI_or _ | exact zOK_O hz (by decide) (by decide) rfl | exact zOK_T hz (by decide) (by decide) rfl | (refine ix (zOK_l hz (by decide) (by decide) rfl) ?_; omega) | decide | omega) only [eX11_partOf_30, eX11_partOf_31, eX11_partOf_34, eX11_partOf_35, eX11_partOf_37, eX11_partOf_40, eX11_partOf_43, eX11_partOf_44, eX11_partOf_46, eX11_partOf_48, eX11_partOf_51, eX11_partOf_53, eX11_partOf_55, eX11_partOf_56, eX11_partOf_59, eX11_partOf_60, eX11_partOf_63, eX11_partOf_65, eX11_partOf_66, eX11_partOf_67, eX11_partOf_70, eX11_partOf_71, eX11_partOf_74, eX11_partOf_76, eX11_partOf_79, eX11_partOf_82, eX11_partOf_83, eX11_partOf_85, eX11_partOf_88, eX11_partOf_91, eX11_partOf_92, eX11_partOf_93, eX11_partOf_95, eX11_partOf_96, eX11_partOf_97, eX11_partOf_98, eX11_partOf_99, eX11_partOf_101, eX11_partOf_104, Int.cast_ofNat_Int, Nat.reduceLT, Nat.reduceLeDiff, Nat.reduceEqDiff, Nat.reduceAdd, Nat.reduceMul, Int.reduceLE, Int.reduceLT, Int.reduceEq, not_false_iff, nlr, Nat.zero_add, Nat.add_zero, e10f, e01f, eq_self, true_and, and_true, false_and, and_false, and_self, decide_true, decide_false, mm_bd_i, mm_bd_v, if_true, if_false, not_true_eq_false, not_false_eq_true, nI_1, Bool.true_eq_false, Bool.false_eq_true, bI_0, n_le0, n_0lt, n_lt0, n_0le, n_eq0, n_eqm, n_eq1, n_le1, n_1lt, n_1le, n_lt1, nn_le, nI_ltI, nI_eq, nI_clamp, nI_add, pk_mul, i_eq0, i_eqm, i_0le, i_le0, i_0lt, i_lt0, i_mle, i_ltm, ii_le, iI_lt, iI_eq, ni_le, ni_lt, ni_eq, in_le, in_lt, in_eq, ni_add, in_add, ni_sub, in_sub, ni_mul, in_mul, iI_add, iI_sub, iI_mul, i_p1, iI_neg, n_neg, hi, ha, be, eb, fM_10 hF, kb.1, e4]
          · obtain ⟨q1, q2, q3⟩ := g4 q
            refine ⟨q1, q2, fun k k1 k2 => ?_⟩
            by_cases w : k = i
            · subst w; exact fun _ _ q => absurd q e3
            · exact q3 k (by omega) k2
theorem rM_part_c (d : Nat) (z : mm_Z) (F : Nat → Nat → Value) (I : Nat → Nat → Int32) (L : Nat → Nat → Int64) (K : Nat → Nat) (hz : zOK z) (hF : FixM F) (hK : ∀ c, c < 64 → I 127 c = nI (K c) ∧ K c ≤ 3) (h17 : F 120 17 = .long (lOr (drC K) 64)) (s : Nat) (hs : s < 64) (a1 : Value) : ∀ j, j ≤ 64 → ∀ (S : Int64) (m : Bool) (a6 a7 : Value), mnS (flB K) s S → ∃ S' m' a6' a7', mm_E (d + 2) mX11_partOf 18 [.ref 120, a1, .long S, uu, .int (bI m), .int (nI j), a6, a7] [] (z, F, I, L) = mm_E (d + 2) mX11_partOf 7 [.ref 120, a1, .long S', uu, .int (bI m'), .int (nI 64), a6', a7'] [] (z, F, I, L) ∧ gro S S' ∧ mnS (flB K) s S' ∧ (m' = false → m = false ∧ S' = S ∧ ∀ c, j ≤ c → c < 64 → ∀ k, k < 4 → okP (flB K) S c k) ∧ (m' = true → m = true ∨ cnt (lb S) < cnt (lb S')) := by
  apply lp
  · intro S m a6 a7 hm
    refine ⟨S, m, a6, a7, ?_, fun _ _ q => q, hm, fun q => ⟨q, rfl, fun c q1 q2 => by omega⟩, fun q => Or.inl q⟩
    rw [eX11_partOf_18]
    simp (disch := first | assumption | exact bI_or _ | exact zOK_O hz (by decide) (by decide) rfl | exact zOK_T hz (by decide) (by decide) rfl | (refine ix (zOK_l hz (by decide) (by decide) rfl) ?_; omega) | decide | omega) only [eX11_partOf_20, eX11_partOf_22, eX11_partOf_113, Int.cast_ofNat_Int, Nat.reduceLT, Nat.reduceLeDiff, Nat.reduceEqDiff, Nat.reduceAdd, Nat.reduceMul, Int.reduceLE, Int.reduceLT, Int.reduceEq, not_false_iff, nlr, Nat.zero_add, Nat.add_zero, e10f, e01f, eq_self, true_and, and_true, false_and, and_false, and_self, decide_true, decide_false, mm_bd_i, mm_bd_v, if_true, if_false, not_true_eq_false, not_false_eq_true, nI_1, Bool.true_eq_false, Bool.false_eq_true, bI_0, n_le0, n_0lt, n_lt0, n_0le, n_eq0, n_eqm, n_eq1, n_le1, n_1lt, n_1le, n_lt1, nn_le, nI_ltI, nI_eq, nI_clamp, nI_add, pk_mul, i_eq0, i_eqm, i_0le, i_le0, i_0lt, i_lt0, i_mle, i_ltm, ii_le, iI_lt, iI_eq, ni_le, ni_lt, ni_eq, in_le, in_lt, in_eq, ni_add, in_add, ni_sub, in_sub, ni_mul, in_mul, iI_add, iI_sub, iI_mul, i_p1, iI_neg, n_neg]
  · intro j hj ih S m a6 a7 hm
    obtain ⟨S1, m1, k1, b7, p1, p2, p3, p4, p5⟩ := rM_part_k d z F I L K hz hF hK h17 s j hs hj a1 0 (by omega) S m a7 hm
    obtain ⟨S', m', a6', a7', g1, g2, g3, g4, g5⟩ := ih S1 m1 k1 b7 p3
    refine ⟨S', m', a6', a7', ?_, fun a x q => g2 a x (p2 a x q), g3, fun q => ?_, fun q => ?_⟩
    · rw [nI_0] at p1
      rw [← g1, eX11_partOf_18]
      simp (disch := first | assumption | exact bI_or _ | exact zOK_O hz (by decide) (by decide) rfl | exact zOK_T hz (by decide) (by decide) rfl | (refine ix (zOK_l hz (by decide) (by decide) rfl) ?_; omega) | decide | omega) only [eX11_partOf_20, eX11_partOf_22, eX11_partOf_25, eX11_partOf_26, Int.cast_ofNat_Int, Nat.reduceLT, Nat.reduceLeDiff, Nat.reduceEqDiff, Nat.reduceAdd, Nat.reduceMul, Int.reduceLE, Int.reduceLT, Int.reduceEq, not_false_iff, nlr, Nat.zero_add, Nat.add_zero, e10f, e01f, eq_self, true_and, and_true, false_and, and_false, and_self, decide_true, decide_false, mm_bd_i, mm_bd_v, if_true, if_false, not_true_eq_false, not_false_eq_true, nI_1, Bool.true_eq_false, Bool.false_eq_true, bI_0, n_le0, n_0lt, n_lt0, n_0le, n_eq0, n_eqm, n_eq1, n_le1, n_1lt, n_1le, n_lt1, nn_le, nI_ltI, nI_eq, nI_clamp, nI_add, pk_mul, i_eq0, i_eqm, i_0le, i_le0, i_0lt, i_lt0, i_mle, i_ltm, ii_le, iI_lt, iI_eq, ni_le, ni_lt, ni_eq, in_le, in_lt, in_eq, ni_add, in_add, ni_sub, in_sub, ni_mul, in_mul, iI_add, iI_sub, iI_mul, i_p1, iI_neg, n_neg, hj]
      rw [p1]
      simp (disch := first | assumption | exact bI_or _ | exact zOK_O hz (by decide) (by decide) rfl | exact zOK_T hz (by decide) (by decide) rfl | (refine ix (zOK_l hz (by decide) (by decide) rfl) ?_; omega) | decide | omega) only [eX11_partOf_107, eX11_partOf_110, Int.cast_ofNat_Int, Nat.reduceLT, Nat.reduceLeDiff, Nat.reduceEqDiff, Nat.reduceAdd, Nat.reduceMul, Int.reduceLE, Int.reduceLT, Int.reduceEq, not_false_iff, nlr, Nat.zero_add, Nat.add_zero, e10f, e01f, eq_self, true_and, and_true, false_and, and_false, and_self, decide_true, decide_false, mm_bd_i, mm_bd_v, if_true, if_false, not_true_eq_false, not_false_eq_true, nI_1, Bool.true_eq_false, Bool.false_eq_true, bI_0, n_le0, n_0lt, n_lt0, n_0le, n_eq0, n_eqm, n_eq1, n_le1, n_1lt, n_1le, n_lt1, nn_le, nI_ltI, nI_eq, nI_clamp, nI_add, pk_mul, i_eq0, i_eqm, i_0le, i_le0, i_0lt, i_lt0, i_mle, i_ltm, ii_le, iI_lt, iI_eq, ni_le, ni_lt, ni_eq, in_le, in_lt, in_eq, ni_add, in_add, ni_sub, in_sub, ni_mul, in_mul, iI_add, iI_sub, iI_mul, i_p1, iI_neg, n_neg]
    · obtain ⟨q1, q2, q3⟩ := g4 q
      obtain ⟨r1, r2, r3⟩ := p4 q1
      subst r2
      refine ⟨r1, q2, fun c c1 c2 k hk => ?_⟩
      by_cases w : c = j
      · subst w; exact r3 k (by omega) hk
      · exact q3 c (by omega) c2 k hk
    · rcases g5 q with q | q
      · rcases p5 q with q | q
        · exact Or.inl q
        · exact Or.inr (Nat.lt_of_lt_of_le q (cnt_mono g2))
      · exact Or.inr (Nat.lt_of_le_of_lt (cnt_mono p2) q)
theorem rM_partOf (d : Nat) (z : mm_Z) (F : Nat → Nat → Value) (I : Nat → Nat → Int32) (L : Nat → Nat → Int64) (K : Nat → Nat) (hz : zOK z) (hF : FixM F) (hK : ∀ c, c < 64 → I 127 c = nI (K c) ∧ K c ≤ 3) (h17 : F 120 17 = .long (lOr (drC K) 64)) (s : Nat) (hs : s < 64) : mm_E (d + 2) mX11_partOf 0 [.ref 120, .int (nI s), uu, uu, uu, uu, uu, uu] [] (z, F, I, L) = some (some (.long (cm (flB K) s)), (z, F, I, L)) := by
  have l : ∀ f (S : Int64) (a5 a6 a7 : Value), 64 - cnt (lb S) ≤ f → mnS (flB K) s S → mm_E (d + 2) mX11_partOf 7 [.ref 120, .int (nI s), .long S, uu, .int (bI true), a5, a6, a7] [] (z, F, I, L) = some (some (.long (cm (flB K) s)), (z, F, I, L)) := by
    intro f
    induction f with
    | zero =>
      intro S a5 a6 a7 hf hm
      have cl := cnt_le (lb S)
      obtain ⟨S', m', a6', a7', g1, g2, g3, g4, g5⟩ := rM_part_c d z F I L K hz hF hK h17 s hs (.int (nI s)) 0 (by omega) S false a6 a7 hm
      have cl' := cnt_le (lb S')
      rw [nI_0] at g1
      cases m' with
      | true => rcases g5 rfl with q | q
                · exact absurd q (by simp)
                · omega
      | false =>
        obtain ⟨_, q2, q3⟩ := g4 rfl
        subst q2
        have cp : cmp (flB K) s S' := ⟨hm.1, okP_clo (fun c hc k hk => q3 c (by omega) hc k hk), hm.2⟩
        rw [← cmp_cm hs cp, eX11_partOf_7]
        simp (disch := first | assumption | exact bI_or _ | exact zOK_O hz (by decide) (by decide) rfl | exact zOK_T hz (by decide) (by decide) rfl | (refine ix (zOK_l hz (by decide) (by decide) rfl) ?_; omega) | decide | omega) only [eX11_partOf_9, eX11_partOf_12, eX11_partOf_13, eX11_partOf_15, eX11_partOf_16, Int.cast_ofNat_Int, Nat.reduceLT, Nat.reduceLeDiff, Nat.reduceEqDiff, Nat.reduceAdd, Nat.reduceMul, Int.reduceLE, Int.reduceLT, Int.reduceEq, not_false_iff, nlr, Nat.zero_add, Nat.add_zero, e10f, e01f, eq_self, true_and, and_true, false_and, and_false, and_self, decide_true, decide_false, mm_bd_i, mm_bd_v, if_true, if_false, not_true_eq_false, not_false_eq_true, nI_1, Bool.true_eq_false, Bool.false_eq_true, bI_0, n_le0, n_0lt, n_lt0, n_0le, n_eq0, n_eqm, n_eq1, n_le1, n_1lt, n_1le, n_lt1, nn_le, nI_ltI, nI_eq, nI_clamp, nI_add, pk_mul, i_eq0, i_eqm, i_0le, i_le0, i_0lt, i_lt0, i_mle, i_ltm, ii_le, iI_lt, iI_eq, ni_le, ni_lt, ni_eq, in_le, in_lt, in_eq, ni_add, in_add, ni_sub, in_sub, ni_mul, in_mul, iI_add, iI_sub, iI_mul, i_p1, iI_neg, n_neg, bI_tt]
        rw [bI_f] at g1
        rw [g1, eX11_partOf_7]
        simp (disch := first | assumption | exact bI_or _ | exact zOK_O hz (by decide) (by decide) rfl | exact zOK_T hz (by decide) (by decide) rfl | (refine ix (zOK_l hz (by decide) (by decide) rfl) ?_; omega) | decide | omega) only [eX11_partOf_9, eX11_partOf_12, eX11_partOf_13, eX11_partOf_15, eX11_partOf_16, eX11_partOf_116, eX11_partOf_117, Int.cast_ofNat_Int, Nat.reduceLT, Nat.reduceLeDiff, Nat.reduceEqDiff, Nat.reduceAdd, Nat.reduceMul, Int.reduceLE, Int.reduceLT, Int.reduceEq, not_false_iff, nlr, Nat.zero_add, Nat.add_zero, e10f, e01f, eq_self, true_and, and_true, false_and, and_false, and_self, decide_true, decide_false, mm_bd_i, mm_bd_v, if_true, if_false, not_true_eq_false, not_false_eq_true, nI_1, Bool.true_eq_false, Bool.false_eq_true, bI_0, n_le0, n_0lt, n_lt0, n_0le, n_eq0, n_eqm, n_eq1, n_le1, n_1lt, n_1le, n_lt1, nn_le, nI_ltI, nI_eq, nI_clamp, nI_add, pk_mul, i_eq0, i_eqm, i_0le, i_le0, i_0lt, i_lt0, i_mle, i_ltm, ii_le, iI_lt, iI_eq, ni_le, ni_lt, ni_eq, in_le, in_lt, in_eq, ni_add, in_add, ni_sub, in_sub, ni_mul, in_mul, iI_add, iI_sub, iI_mul, i_p1, iI_neg, n_neg]
    | succ f ih =>
      intro S a5 a6 a7 hf hm
      obtain ⟨S', m', a6', a7', g1, g2, g3, g4, g5⟩ := rM_part_c d z F I L K hz hF hK h17 s hs (.int (nI s)) 0 (by omega) S false a6 a7 hm
      rw [nI_0, bI_f] at g1
      cases m' with
      | true =>
        rcases g5 rfl with q | q
        · exact absurd q (by simp)
        · rw [← ih S' (.int (nI 64)) a6' a7' (by omega) g3, ← g1, eX11_partOf_7]
          simp (disch := first | assumption | exact bI_or _ | exact zOK_O hz (by decide) (by decide) rfl | exact zOK_T hz (by decide) (by decide) rfl | (refine ix (zOK_l hz (by decide) (by decide) rfl) ?_; omega) | decide | omega) only [eX11_partOf_9, eX11_partOf_12, eX11_partOf_13, eX11_partOf_15, eX11_partOf_16, Int.cast_ofNat_Int, Nat.reduceLT, Nat.reduceLeDiff, Nat.reduceEqDiff, Nat.reduceAdd, Nat.reduceMul, Int.reduceLE, Int.reduceLT, Int.reduceEq, not_false_iff, nlr, Nat.zero_add, Nat.add_zero, e10f, e01f, eq_self, true_and, and_true, false_and, and_false, and_self, decide_true, decide_false, mm_bd_i, mm_bd_v, if_true, if_false, not_true_eq_false, not_false_eq_true, nI_1, Bool.true_eq_false, Bool.false_eq_true, bI_0, n_le0, n_0lt, n_lt0, n_0le, n_eq0, n_eqm, n_eq1, n_le1, n_1lt, n_1le, n_lt1, nn_le, nI_ltI, nI_eq, nI_clamp, nI_add, pk_mul, i_eq0, i_eqm, i_0le, i_le0, i_0lt, i_lt0, i_mle, i_ltm, ii_le, iI_lt, iI_eq, ni_le, ni_lt, ni_eq, in_le, in_lt, in_eq, ni_add, in_add, ni_sub, in_sub, ni_mul, in_mul, iI_add, iI_sub, iI_mul, i_p1, iI_neg, n_neg]
      | false =>
        obtain ⟨_, q2, q3⟩ := g4 rfl
        subst q2
        have cp : cmp (flB K) s S' := ⟨hm.1, okP_clo (fun c hc k hk => q3 c (by omega) hc k hk), hm.2⟩
        rw [← cmp_cm hs cp, eX11_partOf_7]
        simp (disch := first | assumption | exact bI_or _ | exact zOK_O hz (by decide) (by decide) rfl | exact zOK_T hz (by decide) (by decide) rfl | (refine ix (zOK_l hz (by decide) (by decide) rfl) ?_; omega) | decide | omega) only [eX11_partOf_9, eX11_partOf_12, eX11_partOf_13, eX11_partOf_15, eX11_partOf_16, Int.cast_ofNat_Int, Nat.reduceLT, Nat.reduceLeDiff, Nat.reduceEqDiff, Nat.reduceAdd, Nat.reduceMul, Int.reduceLE, Int.reduceLT, Int.reduceEq, not_false_iff, nlr, Nat.zero_add, Nat.add_zero, e10f, e01f, eq_self, true_and, and_true, false_and, and_false, and_self, decide_true, decide_false, mm_bd_i, mm_bd_v, if_true, if_false, not_true_eq_false, not_false_eq_true, nI_1, Bool.true_eq_false, Bool.false_eq_true, bI_0, n_le0, n_0lt, n_lt0, n_0le, n_eq0, n_eqm, n_eq1, n_le1, n_1lt, n_1le, n_lt1, nn_le, nI_ltI, nI_eq, nI_clamp, nI_add, pk_mul, i_eq0, i_eqm, i_0le, i_le0, i_0lt, i_lt0, i_mle, i_ltm, ii_le, iI_lt, iI_eq, ni_le, ni_lt, ni_eq, in_le, in_lt, in_eq, ni_add, in_add, ni_sub, in_sub, ni_mul, in_mul, iI_add, iI_sub, iI_mul, i_p1, iI_neg, n_neg]
        rw [g1, eX11_partOf_7]
        simp (disch := first | assumption | exact bI_or _ | exact zOK_O hz (by decide) (by decide) rfl | exact zOK_T hz (by decide) (by decide) rfl | (refine ix (zOK_l hz (by decide) (by decide) rfl) ?_; omega) | decide | omega) only [eX11_partOf_9, eX11_partOf_12, eX11_partOf_13, eX11_partOf_15, eX11_partOf_16, eX11_partOf_116, eX11_partOf_117, Int.cast_ofNat_Int, Nat.reduceLT, Nat.reduceLeDiff, Nat.reduceEqDiff, Nat.reduceAdd, Nat.reduceMul, Int.reduceLE, Int.reduceLT, Int.reduceEq, not_false_iff, nlr, Nat.zero_add, Nat.add_zero, e10f, e01f, eq_self, true_and, and_true, false_and, and_false, and_self, decide_true, decide_false, mm_bd_i, mm_bd_v, if_true, if_false, not_true_eq_false, not_false_eq_true, nI_1, Bool.true_eq_false, Bool.false_eq_true, bI_0, n_le0, n_0lt, n_lt0, n_0le, n_eq0, n_eqm, n_eq1, n_le1, n_1lt, n_1le, n_lt1, nn_le, nI_ltI, nI_eq, nI_clamp, nI_add, pk_mul, i_eq0, i_eqm, i_0le, i_le0, i_0lt, i_lt0, i_mle, i_ltm, ii_le, iI_lt, iI_eq, ni_le, ni_lt, ni_eq, in_le, in_lt, in_eq, ni_add, in_add, ni_sub, in_sub, ni_mul, in_mul, iI_add, iI_sub, iI_mul, i_p1, iI_neg, n_neg]
  rw [← l 64 (b1 s) uu uu uu (by omega) ⟨by rw [lb_b1 hs]; simp, fun T t1 _ a ha g => by
    rw [lb_b1 hs, decide_eq_true_eq] at g
    rw [g]; exact t1⟩]
  simp (disch := first | assumption | exact bI_or _ | exact zOK_O hz (by decide) (by decide) rfl | exact zOK_T hz (by decide) (by decide) rfl | (refine ix (zOK_l hz (by decide) (by decide) rfl) ?_; omega) | decide | omega) only [eX11_partOf_0, eX11_partOf_1, eX11_partOf_2, eX11_partOf_3, eX11_partOf_4, eX11_partOf_5, Int.cast_ofNat_Int, Nat.reduceLT, Nat.reduceLeDiff, Nat.reduceEqDiff, Nat.reduceAdd, Nat.reduceMul, Int.reduceLE, Int.reduceLT, Int.reduceEq, not_false_iff, nlr, Nat.zero_add, Nat.add_zero, e10f, e01f, eq_self, true_and, and_true, false_and, and_false, and_self, decide_true, decide_false, mm_bd_i, mm_bd_v, if_true, if_false, not_true_eq_false, not_false_eq_true, nI_1, Bool.true_eq_false, Bool.false_eq_true, bI_0, n_le0, n_0lt, n_lt0, n_0le, n_eq0, n_eqm, n_eq1, n_le1, n_1lt, n_1le, n_lt1, nn_le, nI_ltI, nI_eq, nI_clamp, nI_add, pk_mul, i_eq0, i_eqm, i_0le, i_le0, i_0lt, i_lt0, i_mle, i_ltm, ii_le, iI_lt, iI_eq, ni_le, ni_lt, ni_eq, in_le, in_lt, in_eq, ni_add, in_add, ni_sub, in_sub, ni_mul, in_mul, iI_add, iI_sub, iI_mul, i_p1, iI_neg, n_neg]
  rfl
