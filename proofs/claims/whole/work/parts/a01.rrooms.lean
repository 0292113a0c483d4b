/-! rooms: the reference's findRooms, room, rooms; the class's -/
/-- what a look for rooms may change in the reference -/
def rmFr (F F' : Nat → Nat → Value) (I I' : Nat → Nat → Int32) (L L' : Nat → Nat → Int64) : Prop := (∀ r j, ¬ (r = 120 ∧ (j = 17 ∨ j = 18)) → F' r j = F r j) ∧ lookG I I' ∧ ∀ x, ¬ x = 131 → L' x = L x
theorem FixM_17 {F F' : Nat → Nat → Value} (h : FixM F) (hf : ∀ r j, ¬ (r = 120 ∧ (j = 17 ∨ j = 18)) → F' r j = F r j) : FixM F' := by
  intro q hq
  have e : ∀ q ∈ mm_stM, ¬ (q.1 = 17 ∨ q.1 = 18) := by decide
  rw [hf 120 q.1 (fun a => e q hq a.2)]
  exact h q hq
theorem rM_findRooms (d : Nat) (z : mm_Z) (F : Nat → Nat → Value) (I : Nat → Nat → Int32) (L : Nat → Nat → Int64) (n : Nat) (hs : Nat → List (Int × Int × Nat)) (st : Nat → Option (Nat × Nat)) (hz : zOK z) (hF : FixM F) (w : wOK n hs st) (h : rmS n hs st F I) : ∃ F' I' L', mm_E (d + 5) mX11_findRooms 0 [.ref 120, uu, uu, uu, uu, uu] [] (z, F, I, L) = some (none, (z, F', I', L')) ∧ rmFr F F' I I' L L' ∧ FixM F' ∧ (∀ c, c < 64 → I' 127 c = nI (kd n hs st c)) ∧ F' 120 17 = .long (lOr (drC (kd n hs st)) 64) ∧ F' 120 18 = .int (nI (rN (kd n hs st))) ∧ ∀ r, r < rN (kd n hs st) → L' 131 r = rS (kd n hs st) r := by
  obtain ⟨I1, g1, g2, g3⟩ := rM_look d z F I L n hs st hz hF w h
  generalize hK' : kd n hs st = K at *
  have hK : ∀ c, c < 64 → I1 127 c = nI (K c) ∧ K c ≤ 3 := fun c hc => ⟨g3 c hc, by rw [← hK']; exact kd_le n hs st c⟩
  obtain ⟨F2, k1, k2, k3, k4⟩ := rM_findDoors (d + 1) z F I1 L hz hF K hK
  have l : ∀ c, c ≤ 64 → ∀ (F3 : Nat → Nat → Value) (L3 : Nat → Nat → Int64) (me : Int64) (a4 a5 : Value), FixM F3 → F3 120 17 = .long (lOr (drC K) 64) → F3 120 18 = .int (nI (rmF K c).2.1) → (∀ r, r < (rmF K c).2.1 → L3 131 r = (rmF K c).2.2 r) → (∀ a, a < 64 → lb me a = (rmF K c).1 a) → ∃ F' L', mm_E (d + 5) mX11_findRooms 17 [.ref 120, .long me, uu, .int (nI c), a4, a5] [] (z, F3, I1, L3) = some (none, (z, F', I1, L')) ∧ F' 120 18 = .int (nI (rN K)) ∧ (∀ r, r < rN K → L' 131 r = rS K r) ∧ (∀ x j, ¬ (x = 120 ∧ j = 18) → F' x j = F3 x j) ∧ ∀ x, ¬ x = 131 → L' x = L3 x := by
    apply lp
    · intro F3 L3 me a4 a5 hF3 h17 h18 hr hm
      refine ⟨F3, L3, ?_, h18, hr, fun _ _ _ => rfl, fun _ _ => rfl⟩
      rw [eX11_findRooms_17]
      simp (disch := first | assumption | exact bI_or _ | exact zOK_O hz (by decide) (by decide) rfl | exact zOK_T hz (by decide) (by decide) rfl | (refine ix (zOK_l hz (by decide) (by decide) rfl) ?_; omega) | decide | omega) only [eX11_findRooms_18, eX11_findRooms_20, eX11_findRooms_23, eX11_findRooms_24, eX11_findRooms_27, eX11_findRooms_28, eX11_findRooms_29, eX11_findRooms_30, eX11_findRooms_33, eX11_findRooms_34, eX11_findRooms_37, eX11_findRooms_38, eX11_findRooms_41, eX11_findRooms_44, eX11_findRooms_45, eX11_findRooms_46, eX11_findRooms_49, eX11_findRooms_52, eX11_findRooms_53, eX11_findRooms_54, eX11_findRooms_57, eX11_findRooms_59, eX11_findRooms_60, eX11_findRooms_62, eX11_findRooms_63, eX11_findRooms_64, eX11_findRooms_65, eX11_findRooms_67, eX11_findRooms_70, eX11_findRooms_73, eX11_findRooms_74, eX11_findRooms_77, eX11_findRooms_78, eX11_findRooms_81, eX11_findRooms_83, eX11_findRooms_84, eX11_findRooms_85, eX11_findRooms_86, eX11_findRooms_89, eX11_findRooms_90, eX11_findRooms_91, eX11_findRooms_94, eX11_findRooms_97, eX11_findRooms_100, Int.cast_ofNat_Int, Nat.reduceLT, Nat.reduceLeDiff, Nat.reduceEqDiff, Nat.reduceAdd, Nat.reduceMul, Int.reduceLE, Int.reduceLT, Int.reduceEq, not_false_iff, nlr, Nat.zero_add, Nat.add_zero, e10f, e01f, eq_self, true_and, and_true, false_and, and_false, and_self, decide_true, decide_false, mm_bd_i, mm_bd_v, if_true, if_false, not_true_eq_false, not_false_eq_true, nI_1, Bool.true_eq_false, Bool.false_eq_true, bI_0, n_le0, n_0lt, n_lt0, n_0le, n_eq0, n_eqm, n_eq1, n_le1, n_1lt, n_1le, n_lt1, nn_le, nI_ltI, nI_eq, nI_clamp, nI_add, pk_mul, i_eq0, i_eqm, i_0le, i_le0, i_0lt, i_lt0, i_mle, i_ltm, ii_le, iI_lt, iI_eq, ni_le, ni_lt, ni_eq, in_le, in_lt, in_eq, ni_add, in_add, ni_sub, in_sub, ni_mul, in_mul, iI_add, iI_sub, iI_mul, i_p1, iI_neg, n_neg]
    · intro c hc ih F3 L3 me a4 a5 hF3 h17 h18 hr hm
      have rl := rmF_le K c
      have kc := hK c hc
      have hd := fun d' w => rM_has d' z F3 I1 L3 (lOr (drC K) 64) c hc w
      rw [lb_lOr (drC K) _ 64 (Nat.le_refl _), decide_eq_true hc, Bool.true_and] at hd
      have hme := fun d' w => rM_has d' z F3 I1 L3 me c hc w
      rw [hm c hc] at hme
      by_cases e : flB K c = true ∧ (rmF K c).1 c = false
      · have e1 := e.1
        unfold flB at e1
        rw [Bool.and_eq_true, decide_eq_true_eq, Bool.not_eq_true'] at e1
        rw [e1.2] at hd
        rw [e.2] at hme
        have po := fun d' => rM_partOf d' z F3 I1 L3 K hz hF3 hK h17 c hc
        have ic := fun d' => rM_isClosed d' z F3 I1 L3 hz hF3 K hK (cm (flB K) c)
        have r1 : (rmF K (c + 1)).1 = fun a => (rmF K c).1 a || lb (cm (flB K) c) a := by rw [rmF, if_pos e]
        have hm' : ∀ a, a < 64 → lb (me ||| cm (flB K) c) a = (rmF K (c + 1)).1 a := fun a ha => by rw [lb_or, hm a ha, r1]
        by_cases g : clA K (cm (flB K) c) 64 = true
        · have r2 : (rmF K (c + 1)).2 = ((rmF K c).2.1 + 1, udf (rmF K c).2.2 (rmF K c).2.1 (cm (flB K) c)) := by rw [rmF, if_pos e, if_pos g]
          rw [g] at ic
          obtain ⟨F', L', m1, m2, m3, m4, m5⟩ := ih (mm_up2 F3 120 18 (.int (nI ((rmF K c).2.1 + 1)))) (mm_up2 L3 131 (rmF K c).2.1 (cm (flB K) c)) (me ||| cm (flB K) c) (.long (cm (flB K) c)) uu (FixM_up hF3 (by decide)) (by rw [up_k _ _ _ _ (by decide)]; exact h17) (by rw [up_s, r2]) (fun r hr' => by
            rw [r2] at hr' ⊢
            dsimp only at hr' ⊢
            by_cases q : r = (rmF K c).2.1
            · subst q; rw [up_s, udf_s]
            · rw [up_k _ _ _ _ q, udf_n _ _ q]; exact hr r (by omega)) hm'
          refine ⟨F', L', ?_, m2, m3, fun x j q => by rw [m4 x j q]; unfold mm_up2; rw [if_neg q], fun x q => by rw [m5 x q, up_row _ _ _ q]⟩
          rw [← m1, eX11_findRooms_17]
          simp (disch := first | assumption | exact bI_or _ | exact zOK_O hz (by decide) (by decide) rfl | exact zOK_T hz (by decide) (by decide) rfl | (refine ix (zOK_l hz (by decide) (by decide) rfl) ?_; omega) | decide | omega) only [eX11_findRooms_18, eX11_findRooms_20, eX11_findRooms_23, eX11_findRooms_24, eX11_findRooms_27, eX11_findRooms_28, eX11_findRooms_29, eX11_findRooms_30, eX11_findRooms_33, eX11_findRooms_34, eX11_findRooms_37, eX11_findRooms_38, eX11_findRooms_41, eX11_findRooms_44, eX11_findRooms_45, eX11_findRooms_46, eX11_findRooms_49, eX11_findRooms_52, eX11_findRooms_53, eX11_findRooms_54, eX11_findRooms_57, eX11_findRooms_59, eX11_findRooms_60, eX11_findRooms_62, eX11_findRooms_63, eX11_findRooms_64, eX11_findRooms_65, eX11_findRooms_67, eX11_findRooms_70, eX11_findRooms_73, eX11_findRooms_74, eX11_findRooms_77, eX11_findRooms_78, eX11_findRooms_81, eX11_findRooms_83, eX11_findRooms_84, eX11_findRooms_85, eX11_findRooms_86, eX11_findRooms_89, eX11_findRooms_90, eX11_findRooms_91, eX11_findRooms_94, eX11_findRooms_97, eX11_findRooms_100, Int.cast_ofNat_Int, Nat.reduceLT, Nat.reduceLeDiff, Nat.reduceEqDiff, Nat.reduceAdd, Nat.reduceMul, Int.reduceLE, Int.reduceLT, Int.reduceEq, not_false_iff, nlr, Nat.zero_add, Nat.add_zero, e10f, e01f, eq_self, true_and, and_true, false_and, and_false, and_self, decide_true, decide_false, mm_bd_i, mm_bd_v, if_true, if_false, not_true_eq_false, not_false_eq_true, nI_1, Bool.true_eq_false, Bool.false_eq_true, bI_0, n_le0, n_0lt, n_lt0, n_0le, n_eq0, n_eqm, n_eq1, n_le1, n_1lt, n_1le, n_lt1, nn_le, nI_ltI, nI_eq, nI_clamp, nI_add, pk_mul, i_eq0, i_eqm, i_0le, i_le0, i_0lt, i_lt0, i_mle, i_ltm, ii_le, iI_lt, iI_eq, ni_le, ni_lt, ni_eq, in_le, in_lt, in_eq, ni_add, in_add, ni_sub, in_sub, ni_mul, in_mul, iI_add, iI_sub, iI_mul, i_p1, iI_neg, n_neg, hc, fM_10 hF3, fM_19 hF3, kc.1, e1.1, h17, hd, hme, po, ic, h18, up_s, up_k]
        · have r2 : (rmF K (c + 1)).2 = (rmF K c).2 := by rw [rmF, if_pos e, if_neg g]
          have g' : clA K (cm (flB K) c) 64 = false := by simpa using g
          rw [g'] at ic
          obtain ⟨F', L', m1, m2, m3, m4, m5⟩ := ih F3 L3 (me ||| cm (flB K) c) (.long (cm (flB K) c)) uu hF3 h17 (by rw [r2]; exact h18) (by rw [r2]; exact hr) hm'
          refine ⟨F', L', ?_, m2, m3, m4, m5⟩
          rw [← m1, eX11_findRooms_17]
          simp (disch := first | assumption | exact bI_or _ | exact zOK_O hz (by decide) (by decide) rfl | exact zOK_T hz (by decide) (by decide) rfl | (refine ix (zOK_l hz (by decide) (by decide) rfl) ?_; omega) | decide | omega) only [eX11_findRooms_18, eX11_findRooms_20, eX11_findRooms_23, eX11_findRooms_24, eX11_findRooms_27, eX11_findRooms_28, eX11_findRooms_29, eX11_findRooms_30, eX11_findRooms_33, eX11_findRooms_34, eX11_findRooms_37, eX11_findRooms_38, eX11_findRooms_41, eX11_findRooms_44, eX11_findRooms_45, eX11_findRooms_46, eX11_findRooms_49, eX11_findRooms_52, eX11_findRooms_53, eX11_findRooms_54, eX11_findRooms_57, eX11_findRooms_59, eX11_findRooms_60, eX11_findRooms_62, eX11_findRooms_63, eX11_findRooms_64, eX11_findRooms_65, eX11_findRooms_67, eX11_findRooms_70, eX11_findRooms_73, eX11_findRooms_74, eX11_findRooms_77, eX11_findRooms_78, eX11_findRooms_81, eX11_findRooms_83, eX11_findRooms_84, eX11_findRooms_85, eX11_findRooms_86, eX11_findRooms_89, eX11_findRooms_90, eX11_findRooms_91, eX11_findRooms_94, eX11_findRooms_97, eX11_findRooms_100, Int.cast_ofNat_Int, Nat.reduceLT, Nat.reduceLeDiff, Nat.reduceEqDiff, Nat.reduceAdd, Nat.reduceMul, Int.reduceLE, Int.reduceLT, Int.reduceEq, not_false_iff, nlr, Nat.zero_add, Nat.add_zero, e10f, e01f, eq_self, true_and, and_true, false_and, and_false, and_self, decide_true, decide_false, mm_bd_i, mm_bd_v, if_true, if_false, not_true_eq_false, not_false_eq_true, nI_1, Bool.true_eq_false, Bool.false_eq_true, bI_0, n_le0, n_0lt, n_lt0, n_0le, n_eq0, n_eqm, n_eq1, n_le1, n_1lt, n_1le, n_lt1, nn_le, nI_ltI, nI_eq, nI_clamp, nI_add, pk_mul, i_eq0, i_eqm, i_0le, i_le0, i_0lt, i_lt0, i_mle, i_ltm, ii_le, iI_lt, iI_eq, ni_le, ni_lt, ni_eq, in_le, in_lt, in_eq, ni_add, in_add, ni_sub, in_sub, ni_mul, in_mul, iI_add, iI_sub, iI_mul, i_p1, iI_neg, n_neg, hc, fM_10 hF3, kc.1, e1.1, h17, hd, hme, po, ic]
      · have r0 : rmF K (c + 1) = rmF K c := by rw [rmF, if_neg e]
        obtain ⟨F', L', m1, m2, m3, m4, m5⟩ := ih F3 L3 me a4 a5 hF3 h17 (by rw [r0]; exact h18) (by rw [r0]; exact hr) (by rw [r0]; exact hm)
        refine ⟨F', L', ?_, m2, m3, m4, m5⟩
        rw [← m1, eX11_findRooms_17]
        by_cases e1 : K c = 1
        · cases e2 : drC K c with
          | true =>
            rw [e2] at hd
            simp (disch := first | assumption | exact bI_or _ | exact zOK_O hz (by decide) (by decide) rfl | exact zOK_T hz (by decide) (by decide) rfl | (refine ix (zOK_l hz (by decide) (by decide) rfl) ?_; omega) | decide | omega) only [eX11_findRooms_18, eX11_findRooms_20, eX11_findRooms_23, eX11_findRooms_24, eX11_findRooms_27, eX11_findRooms_28, eX11_findRooms_29, eX11_findRooms_30, eX11_findRooms_33, eX11_findRooms_34, eX11_findRooms_37, eX11_findRooms_38, eX11_findRooms_41, eX11_findRooms_44, eX11_findRooms_45, eX11_findRooms_46, eX11_findRooms_49, eX11_findRooms_52, eX11_findRooms_53, eX11_findRooms_54, eX11_findRooms_57, eX11_findRooms_59, eX11_findRooms_60, eX11_findRooms_62, eX11_findRooms_63, eX11_findRooms_64, eX11_findRooms_65, eX11_findRooms_67, eX11_findRooms_70, eX11_findRooms_73, eX11_findRooms_74, eX11_findRooms_77, eX11_findRooms_78, eX11_findRooms_81, eX11_findRooms_83, eX11_findRooms_84, eX11_findRooms_85, eX11_findRooms_86, eX11_findRooms_89, eX11_findRooms_90, eX11_findRooms_91, eX11_findRooms_94, eX11_findRooms_97, eX11_findRooms_100, Int.cast_ofNat_Int, Nat.reduceLT, Nat.reduceLeDiff, Nat.reduceEqDiff, Nat.reduceAdd, Nat.reduceMul, Int.reduceLE, Int.reduceLT, Int.reduceEq, not_false_iff, nlr, Nat.zero_add, Nat.add_zero, e10f, e01f, eq_self, true_and, and_true, false_and, and_false, and_self, decide_true, decide_false, mm_bd_i, mm_bd_v, if_true, if_false, not_true_eq_false, not_false_eq_true, nI_1, Bool.true_eq_false, Bool.false_eq_true, bI_0, n_le0, n_0lt, n_lt0, n_0le, n_eq0, n_eqm, n_eq1, n_le1, n_1lt, n_1le, n_lt1, nn_le, nI_ltI, nI_eq, nI_clamp, nI_add, pk_mul, i_eq0, i_eqm, i_0le, i_le0, i_0lt, i_lt0, i_mle, i_ltm, ii_le, iI_lt, iI_eq, ni_le, ni_lt, ni_eq, in_le, in_lt, in_eq, ni_add, in_add, ni_sub, in_sub, ni_mul, in_mul, iI_add, iI_sub, iI_mul, i_p1, iI_neg, n_neg, hc, fM_10 hF3, kc.1, e1, h17, hd]
          | false =>
            have e3 : (rmF K c).1 c = true := by
              cases q : (rmF K c).1 c with
              | true => rfl
              | false => exact absurd ⟨by unfold flB; rw [decide_eq_true e1, e2]; rfl, q⟩ e
            rw [e2] at hd
            rw [e3] at hme
            simp (disch := first | assumption | exact bI_or _ | exact zOK_O hz (by decide) (by decide) rfl | exact zOK_T hz (by decide) (by decide) rfl | (refine ix (zOK_l hz (by decide) (by decide) rfl) ?_; omega) | decide | omega) only [eX11_findRooms_18, eX11_findRooms_20, eX11_findRooms_23, eX11_findRooms_24, eX11_findRooms_27, eX11_findRooms_28, eX11_findRooms_29, eX11_findRooms_30, eX11_findRooms_33, eX11_findRooms_34, eX11_findRooms_37, eX11_findRooms_38, eX11_findRooms_41, eX11_findRooms_44, eX11_findRooms_45, eX11_findRooms_46, eX11_findRooms_49, eX11_findRooms_52, eX11_findRooms_53, eX11_findRooms_54, eX11_findRooms_57, eX11_findRooms_59, eX11_findRooms_60, eX11_findRooms_62, eX11_findRooms_63, eX11_findRooms_64, eX11_findRooms_65, eX11_findRooms_67, eX11_findRooms_70, eX11_findRooms_73, eX11_findRooms_74, eX11_findRooms_77, eX11_findRooms_78, eX11_findRooms_81, eX11_findRooms_83, eX11_findRooms_84, eX11_findRooms_85, eX11_findRooms_86, eX11_findRooms_89, eX11_findRooms_90, eX11_findRooms_91, eX11_findRooms_94, eX11_findRooms_97, eX11_findRooms_100, Int.cast_ofNat_Int, Nat.reduceLT, Nat.reduceLeDiff, Nat.reduceEqDiff, Nat.reduceAdd, Nat.reduceMul, Int.reduceLE, Int.reduceLT, Int.reduceEq, not_false_iff, nlr, Nat.zero_add, Nat.add_zero, e10f, e01f, eq_self, true_and, and_true, false_and, and_false, and_self, decide_true, decide_false, mm_bd_i, mm_bd_v, if_true, if_false, not_true_eq_false, not_false_eq_true, nI_1, Bool.true_eq_false, Bool.false_eq_true, bI_0, n_le0, n_0lt, n_lt0, n_0le, n_eq0, n_eqm, n_eq1, n_le1, n_1lt, n_1le, n_lt1, nn_le, nI_ltI, nI_eq, nI_clamp, nI_add, pk_mul, i_eq0, i_eqm, i_0le, i_le0, i_0lt, i_lt0, i_mle, i_ltm, ii_le, iI_lt, iI_eq, ni_le, ni_lt, ni_eq, in_le, in_lt, in_eq, ni_add, in_add, ni_sub, in_sub, ni_mul, in_mul, iI_add, iI_sub, iI_mul, i_p1, iI_neg, n_neg, hc, fM_10 hF3, kc.1, e1, h17, hd, hme]
        · simp (disch := first | assumption | exact bI_or _ | exact zOK_O hz (by decide) (by decide) rfl | exact zOK_T hz (by decide) (by decide) rfl | (refine ix (zOK_l hz (by decide) (by decide) rfl) ?_; omega) | decide | omega) only [eX11_findRooms_18, eX11_findRooms_20, eX11_findRooms_23, eX11_findRooms_24, eX11_findRooms_27, eX11_findRooms_28, eX11_findRooms_29, eX11_findRooms_30, eX11_findRooms_33, eX11_findRooms_34, eX11_findRooms_37, eX11_findRooms_38, eX11_findRooms_41, eX11_findRooms_44, eX11_findRooms_45, eX11_findRooms_46, eX11_findRooms_49, eX11_findRooms_52, eX11_findRooms_53, eX11_findRooms_54, eX11_findRooms_57, eX11_findRooms_59, eX11_findRooms_60, eX11_findRooms_62, eX11_findRooms_63, eX11_findRooms_64, eX11_findRooms_65, eX11_findRooms_67, eX11_findRooms_70, eX11_findRooms_73, eX11_findRooms_74, eX11_findRooms_77, eX11_findRooms_78, eX11_findRooms_81, eX11_findRooms_83, eX11_findRooms_84, eX11_findRooms_85, eX11_findRooms_86, eX11_findRooms_89, eX11_findRooms_90, eX11_findRooms_91, eX11_findRooms_94, eX11_findRooms_97, eX11_findRooms_100, Int.cast_ofNat_Int, Nat.reduceLT, Nat.reduceLeDiff, Nat.reduceEqDiff, Nat.reduceAdd, Nat.reduceMul, Int.reduceLE, Int.reduceLT, Int.reduceEq, not_false_iff, nlr, Nat.zero_add, Nat.add_zero, e10f, e01f, eq_self, true_and, and_true, false_and, and_false, and_self, decide_true, decide_false, mm_bd_i, mm_bd_v, if_true, if_false, not_true_eq_false, not_false_eq_true, nI_1, Bool.true_eq_false, Bool.false_eq_true, bI_0, n_le0, n_0lt, n_lt0, n_0le, n_eq0, n_eqm, n_eq1, n_le1, n_1lt, n_1le, n_lt1, nn_le, nI_ltI, nI_eq, nI_clamp, nI_add, pk_mul, i_eq0, i_eqm, i_0le, i_le0, i_0lt, i_lt0, i_mle, i_ltm, ii_le, iI_lt, iI_eq, ni_le, ni_lt, ni_eq, in_le, in_lt, in_eq, ni_add, in_add, ni_sub, in_sub, ni_mul, in_mul, iI_add, iI_sub, iI_mul, i_p1, iI_neg, n_neg, hc, fM_10 hF3, kc.1, e1]
  obtain ⟨F', L', m1, m2, m3, m4, m5⟩ := l 0 (by omega) (mm_up2 F2 120 18 (.int (nI 0))) L 0 uu uu (FixM_up k2 (by decide)) (by rw [up_k _ _ _ _ (by decide)]; exact k3) (up_s _ _ _ _) (fun r hr => absurd hr (by simp [rmF])) (fun a _ => by rw [lb_0]; simp [rmF])
  have ff : ∀ r j, ¬ (r = 120 ∧ (j = 17 ∨ j = 18)) → F' r j = F r j := by
    intro r j q
    rw [m4 r j (by omega)]
    unfold mm_up2
    rw [if_neg (by omega), k4 r j (by omega)]
  refine ⟨F', I1, L', ?_, ⟨ff, g2, m5⟩, FixM_17 hF ff, g3, ?_, m2, m3⟩
  · rw [nI_0] at m1
    simp (disch := first | assumption | exact bI_or _ | exact zOK_O hz (by decide) (by decide) rfl | exact zOK_T hz (by decide) (by decide) rfl | (refine ix (zOK_l hz (by decide) (by decide) rfl) ?_; omega) | decide | omega) only [eX11_findRooms_0, eX11_findRooms_1, eX11_findRooms_4, eX11_findRooms_5, eX11_findRooms_8, eX11_findRooms_9, eX11_findRooms_10, eX11_findRooms_13, eX11_findRooms_14, eX11_findRooms_15, eX11_findRooms_16, Int.cast_ofNat_Int, Nat.reduceLT, Nat.reduceLeDiff, Nat.reduceEqDiff, Nat.reduceAdd, Nat.reduceMul, Int.reduceLE, Int.reduceLT, Int.reduceEq, not_false_iff, nlr, Nat.zero_add, Nat.add_zero, e10f, e01f, eq_self, true_and, and_true, false_and, and_false, and_self, decide_true, decide_false, mm_bd_i, mm_bd_v, if_true, if_false, not_true_eq_false, not_false_eq_true, nI_1, Bool.true_eq_false, Bool.false_eq_true, bI_0, n_le0, n_0lt, n_lt0, n_0le, n_eq0, n_eqm, n_eq1, n_le1, n_1lt, n_1le, n_lt1, nn_le, nI_ltI, nI_eq, nI_clamp, nI_add, pk_mul, i_eq0, i_eqm, i_0le, i_le0, i_0lt, i_lt0, i_mle, i_ltm, ii_le, iI_lt, iI_eq, ni_le, ni_lt, ni_eq, in_le, in_lt, in_eq, ni_add, in_add, ni_sub, in_sub, ni_mul, in_mul, iI_add, iI_sub, iI_mul, i_p1, iI_neg, n_neg, g1, k1]
    rw [m1]
  · rw [m4 _ _ (by omega), up_k _ _ _ _ (by decide)]; exact k3
/-- rooms have no cell in common -/
theorem cm_fl (K : Nat → Nat) (c : Nat) (hc : c < 64) (h : flB K c = true) : ∀ a, a < 64 → lb (cm (flB K) c) a = true → flB K a = true := (cm_spec (flB K) c hc).2.2 (flB K) h (fun a _ g _ => g)
theorem rm_inv (K : Nat → Nat) : ∀ c, c ≤ 64 → (∀ a, a < 64 → (rmF K c).1 a = true → flB K a = true) ∧ clo (flB K) (rmF K c).1 ∧ (∀ i, i < (rmF K c).2.1 → ∀ a, a < 64 → lb ((rmF K c).2.2 i) a = true → (rmF K c).1 a = true) ∧ ∀ i j, i < (rmF K c).2.1 → j < (rmF K c).2.1 → ∀ a, a < 64 → lb ((rmF K c).2.2 i) a = true → lb ((rmF K c).2.2 j) a = true → i = j := by
  intro c
  induction c with
  | zero =>
    intro _
    refine ⟨fun a _ q => absurd q (by simp [rmF]), fun a _ _ q => ?_, fun i q => absurd q (by simp [rmF]), fun i j q => absurd q (by simp [rmF])⟩
    obtain ⟨k, _, _, q⟩ := nbA_ex q
    exact absurd q (by simp [rmF])
  | succ c ih =>
    intro hc
    obtain ⟨h1, h2, h3, h4⟩ := ih (by omega)
    by_cases e : flB K c = true ∧ (rmF K c).1 c = false
    · have sp := cm_spec (flB K) c (by omega)
      have fl := cm_fl K c (by omega) e.1
      have r1 : (rmF K (c + 1)).1 = fun a => (rmF K c).1 a || lb (cm (flB K) c) a := by rw [rmF, if_pos e]
      have dis : ∀ a, a < 64 → lb (cm (flB K) c) a = true → (rmF K c).1 a = false := by
        intro a ha g
        have := sp.2.2 (fun a => flB K a && !(rmF K c).1 a) (by rw [e.1, e.2]; rfl) (fun a ha g1 g2 => by
          show (flB K a && !(rmF K c).1 a) = true
          rw [g1, Bool.true_and, Bool.not_eq_true']
          obtain ⟨k, hk, k1, k2⟩ := nbA_ex g2
          replace k2 : (flB K (bsI a k).toNat && !(rmF K c).1 (bsI a k).toNat) = true := k2
          rw [Bool.and_eq_true, Bool.not_eq_true'] at k2
          have b := bsI_b a k
          cases q : (rmF K c).1 a with
          | false => rfl
          | true =>
            obtain ⟨k', hk', w⟩ := bs_sym ha hk k1
            have := h2 (bsI a k).toNat (by omega) k2.1 (nbA_of hk' w q)
            rw [this] at k2
            exact absurd k2.2 (by simp)) a ha g
        rw [Bool.and_eq_true, Bool.not_eq_true'] at this
        exact this.2
      have met : ∀ a, a < 64 → (rmF K (c + 1)).1 a = true → flB K a = true := by
        intro a ha q
        rw [r1, Bool.or_eq_true] at q
        rcases q with q | q
        · exact h1 a ha q
        · exact fl a ha q
      have cl : clo (flB K) (rmF K (c + 1)).1 := by
        intro a ha g1 g2
        rw [r1] at g2 ⊢
        obtain ⟨k, hk, k1, k2⟩ := nbA_ex g2
        have b := bsI_b a k
        have ck : bsI a k = (((bsI a k).toNat : Nat) : Int) := by omega
        rw [Bool.or_eq_true] at k2 ⊢
        rcases k2 with q | q
        · exact Or.inl (h2 a ha g1 (nbA_of hk ck q))
        · exact Or.inr (sp.2.1 a ha g1 (nbA_of hk ck q))
      by_cases g : clA K (cm (flB K) c) 64 = true
      · have r2 : (rmF K (c + 1)).2 = ((rmF K c).2.1 + 1, udf (rmF K c).2.2 (rmF K c).2.1 (cm (flB K) c)) := by rw [rmF, if_pos e, if_pos g]
        refine ⟨met, cl, ?_, ?_⟩
        · intro i hi a ha q
          rw [r2] at hi q
          dsimp only at hi q
          rw [r1, Bool.or_eq_true]
          by_cases x : i = (rmF K c).2.1
          · subst x; rw [udf_s] at q; exact Or.inr q
          · rw [udf_n _ _ x] at q; exact Or.inl (h3 i (by omega) a ha q)
        · intro i j hi hj a ha q1 q2
          rw [r2] at hi hj q1 q2
          dsimp only at hi hj q1 q2
          by_cases x : i = (rmF K c).2.1
          · by_cases y : j = (rmF K c).2.1
            · rw [x, y]
            · rw [x, udf_s] at q1
              rw [udf_n _ _ y] at q2
              have := h3 j (by omega) a ha q2
              rw [dis a ha q1] at this
              exact absurd this (by simp)
          · by_cases y : j = (rmF K c).2.1
            · rw [y, udf_s] at q2
              rw [udf_n _ _ x] at q1
              have := h3 i (by omega) a ha q1
              rw [dis a ha q2] at this
              exact absurd this (by simp)
            · rw [udf_n _ _ x] at q1
              rw [udf_n _ _ y] at q2
              exact h4 i j (by omega) (by omega) a ha q1 q2
      · have r2 : (rmF K (c + 1)).2 = (rmF K c).2 := by rw [rmF, if_pos e, if_neg g]
        refine ⟨met, cl, ?_, ?_⟩
        · rw [r2]
          intro i hi a ha q
          rw [r1, Bool.or_eq_true]
          exact Or.inl (h3 i hi a ha q)
        · rw [r2]; exact h4
    · have r0 : rmF K (c + 1) = rmF K c := by rw [rmF, if_neg e]
      rw [r0]
      exact ⟨h1, h2, h3, h4⟩
theorem rS_dis (K : Nat → Nat) {i j a : Nat} (hi : i < rN K) (hj : j < rN K) (ha : a < 64) (h1 : lb (rS K i) a = true) (h2 : lb (rS K j) a = true) : i = j := (rm_inv K 64 (Nat.le_refl _)).2.2.2 i j hi hj a ha h1 h2
theorem roF_at {rm : Nat → Int64} {c : Nat} : ∀ R i, i < R → lb (rm i) c = true → (∀ j, j < R → lb (rm j) c = true → j = i) → roF rm c R = i := by
  intro R
  induction R with
  | zero => intro i h; omega
  | succ R ih =>
    intro i hi h1 h2
    rw [roF]
    by_cases e : lb (rm R) c = true
    · rw [if_pos e, h2 R (by omega) e]
    · rw [if_neg e]
      exact ih i (by rcases Nat.lt_or_ge i R with q | q; exact q; exact absurd ((by omega : i = R) ▸ h1) e) h1 (fun j hj g => h2 j (by omega) g)
theorem roF_no {rm : Nat → Int64} {c : Nat} : ∀ R, (∀ j, j < R → lb (rm j) c = false) → roF rm c R = -1 := by
  intro R
  induction R with
  | zero => intro _; rfl
  | succ R ih =>
    intro h
    rw [roF, if_neg (by rw [h R (by omega)]; simp), ih (fun j hj => h j (by omega))]
theorem roF_cg {rm rm' : Nat → Int64} {c : Nat} : ∀ R, (∀ j, j < R → rm j = rm' j) → roF rm c R = roF rm' c R := by
  intro R
  induction R with
  | zero => intro _; rfl
  | succ R ih => intro h; rw [roF, roF, h R (by omega), ih (fun j hj => h j (by omega))]
theorem roF_b (rm : Nat → Int64) (c : Nat) : ∀ R, -1 ≤ roF rm c R ∧ roF rm c R < R := by
  intro R
  induction R with
  | zero => exact ⟨by unfold roF; omega, by unfold roF; omega⟩
  | succ R ih => rw [roF]; split <;> omega
theorem cPl_roomOf (d : Nat) (z : mm_Z) (F : Nat → Nat → Value) (I : Nat → Nat → Int32) (L : Nat → Nat → Int64) (K : Nat → Nat) (hz : zOK z) (h0 : F 7 0 = .ref 8) (h : cPn K F L) (c : Nat) (hc : c < 64) : mm_E (d + 1) mX4_roomOf 0 [.ref 7, .int (nI c), uu] [] (z, F, I, L) = some (some (.int (iI (roF (rS K) c (rN K)))), (z, F, I, L)) := by
  have rl := rN_le K
  obtain ⟨_, _, h1, h2⟩ := h
  have l : ∀ r, r ≤ rN K → (∀ j, j < r → lb (rS K j) c = false) → mm_E (d + 1) mX4_roomOf 2 [.ref 7, .int (nI c), .int (nI r)] [] (z, F, I, L) = some (some (.int (iI (roF (rS K) c (rN K)))), (z, F, I, L)) := by
    apply lp
    · intro hn
      rw [roF_no _ hn, iI_m1, eX4_roomOf_2]
      simp (disch := first | assumption | exact bI_or _ | exact zOK_O hz (by decide) (by decide) rfl | exact zOK_T hz (by decide) (by decide) rfl | (refine ix (zOK_l hz (by decide) (by decide) rfl) ?_; omega) | decide | omega) only [eX4_roomOf_0, eX4_roomOf_1, eX4_roomOf_3, eX4_roomOf_4, eX4_roomOf_7, eX4_roomOf_10, eX4_roomOf_11, eX4_roomOf_14, eX4_roomOf_15, eX4_roomOf_16, eX4_roomOf_17, eX4_roomOf_20, eX4_roomOf_23, eX4_roomOf_24, eX4_roomOf_25, eX4_roomOf_28, eX4_roomOf_31, eX4_roomOf_32, Int.cast_ofNat_Int, Nat.reduceLT, Nat.reduceLeDiff, Nat.reduceEqDiff, Nat.reduceAdd, Nat.reduceMul, Int.reduceLE, Int.reduceLT, Int.reduceEq, not_false_iff, nlr, Nat.zero_add, Nat.add_zero, e10f, e01f, eq_self, true_and, and_true, false_and, and_false, and_self, decide_true, decide_false, mm_bd_i, mm_bd_v, if_true, if_false, not_true_eq_false, not_false_eq_true, nI_1, Bool.true_eq_false, Bool.false_eq_true, bI_0, n_le0, n_0lt, n_lt0, n_0le, n_eq0, n_eqm, n_eq1, n_le1, n_1lt, n_1le, n_lt1, nn_le, nI_ltI, nI_eq, nI_clamp, nI_add, pk_mul, i_eq0, i_eqm, i_0le, i_le0, i_0lt, i_lt0, i_mle, i_ltm, ii_le, iI_lt, iI_eq, ni_le, ni_lt, ni_eq, in_le, in_lt, in_eq, ni_add, in_add, ni_sub, in_sub, ni_mul, in_mul, iI_add, iI_sub, iI_mul, i_p1, iI_neg, n_neg, h1]
    · intro r hr ih hn
      have ha := fun d' w => cX_has d' z F I L (rS K r) w c hc
      rw [eX4_roomOf_2]
      cases e : lb (rS K r) c with
      | true =>
        rw [e] at ha
        rw [roF_at _ r hr e (fun j hj g => rS_dis K hj hr hc g e), ← nI_iI]
        simp (disch := first | assumption | exact bI_or _ | exact zOK_O hz (by decide) (by decide) rfl | exact zOK_T hz (by decide) (by decide) rfl | (refine ix (zOK_l hz (by decide) (by decide) rfl) ?_; omega) | decide | omega) only [eX4_roomOf_0, eX4_roomOf_1, eX4_roomOf_3, eX4_roomOf_4, eX4_roomOf_7, eX4_roomOf_10, eX4_roomOf_11, eX4_roomOf_14, eX4_roomOf_15, eX4_roomOf_16, eX4_roomOf_17, eX4_roomOf_20, eX4_roomOf_23, eX4_roomOf_24, eX4_roomOf_25, eX4_roomOf_28, eX4_roomOf_31, eX4_roomOf_32, Int.cast_ofNat_Int, Nat.reduceLT, Nat.reduceLeDiff, Nat.reduceEqDiff, Nat.reduceAdd, Nat.reduceMul, Int.reduceLE, Int.reduceLT, Int.reduceEq, not_false_iff, nlr, Nat.zero_add, Nat.add_zero, e10f, e01f, eq_self, true_and, and_true, false_and, and_false, and_self, decide_true, decide_false, mm_bd_i, mm_bd_v, if_true, if_false, not_true_eq_false, not_false_eq_true, nI_1, Bool.true_eq_false, Bool.false_eq_true, bI_0, n_le0, n_0lt, n_lt0, n_0le, n_eq0, n_eqm, n_eq1, n_le1, n_1lt, n_1le, n_lt1, nn_le, nI_ltI, nI_eq, nI_clamp, nI_add, pk_mul, i_eq0, i_eqm, i_0le, i_le0, i_0lt, i_lt0, i_mle, i_ltm, ii_le, iI_lt, iI_eq, ni_le, ni_lt, ni_eq, in_le, in_lt, in_eq, ni_add, in_add, ni_sub, in_sub, ni_mul, in_mul, iI_add, iI_sub, iI_mul, i_p1, iI_neg, n_neg, h0, h1, h2 r hr, hr, ha]
      | false =>
        rw [e] at ha
        rw [← ih (fun j hj => by
          by_cases q : j = r
          · rw [q]; exact e
          · exact hn j (by omega))]
        simp (disch := first | assumption | exact bI_or _ | exact zOK_O hz (by decide) (by decide) rfl | exact zOK_T hz (by decide) (by decide) rfl | (refine ix (zOK_l hz (by decide) (by decide) rfl) ?_; omega) | decide | omega) only [eX4_roomOf_0, eX4_roomOf_1, eX4_roomOf_3, eX4_roomOf_4, eX4_roomOf_7, eX4_roomOf_10, eX4_roomOf_11, eX4_roomOf_14, eX4_roomOf_15, eX4_roomOf_16, eX4_roomOf_17, eX4_roomOf_20, eX4_roomOf_23, eX4_roomOf_24, eX4_roomOf_25, eX4_roomOf_28, eX4_roomOf_31, eX4_roomOf_32, Int.cast_ofNat_Int, Nat.reduceLT, Nat.reduceLeDiff, Nat.reduceEqDiff, Nat.reduceAdd, Nat.reduceMul, Int.reduceLE, Int.reduceLT, Int.reduceEq, not_false_iff, nlr, Nat.zero_add, Nat.add_zero, e10f, e01f, eq_self, true_and, and_true, false_and, and_false, and_self, decide_true, decide_false, mm_bd_i, mm_bd_v, if_true, if_false, not_true_eq_false, not_false_eq_true, nI_1, Bool.true_eq_false, Bool.false_eq_true, bI_0, n_le0, n_0lt, n_lt0, n_0le, n_eq0, n_eqm, n_eq1, n_le1, n_1lt, n_1le, n_lt1, nn_le, nI_ltI, nI_eq, nI_clamp, nI_add, pk_mul, i_eq0, i_eqm, i_0le, i_le0, i_0lt, i_lt0, i_mle, i_ltm, ii_le, iI_lt, iI_eq, ni_le, ni_lt, ni_eq, in_le, in_lt, in_eq, ni_add, in_add, ni_sub, in_sub, ni_mul, in_mul, iI_add, iI_sub, iI_mul, i_p1, iI_neg, n_neg, h0, h1, h2 r hr, hr, ha]
  rw [← l 0 (by omega) (fun j hj => absurd hj (by omega))]
  simp (disch := first | assumption | exact bI_or _ | exact zOK_O hz (by decide) (by decide) rfl | exact zOK_T hz (by decide) (by decide) rfl | (refine ix (zOK_l hz (by decide) (by decide) rfl) ?_; omega) | decide | omega) only [eX4_roomOf_0, eX4_roomOf_1, eX4_roomOf_3, eX4_roomOf_4, eX4_roomOf_7, eX4_roomOf_10, eX4_roomOf_11, eX4_roomOf_14, eX4_roomOf_15, eX4_roomOf_16, eX4_roomOf_17, eX4_roomOf_20, eX4_roomOf_23, eX4_roomOf_24, eX4_roomOf_25, eX4_roomOf_28, eX4_roomOf_31, eX4_roomOf_32, Int.cast_ofNat_Int, Nat.reduceLT, Nat.reduceLeDiff, Nat.reduceEqDiff, Nat.reduceAdd, Nat.reduceMul, Int.reduceLE, Int.reduceLT, Int.reduceEq, not_false_iff, nlr, Nat.zero_add, Nat.add_zero, e10f, e01f, eq_self, true_and, and_true, false_and, and_false, and_self, decide_true, decide_false, mm_bd_i, mm_bd_v, if_true, if_false, not_true_eq_false, not_false_eq_true, nI_1, Bool.true_eq_false, Bool.false_eq_true, bI_0, n_le0, n_0lt, n_lt0, n_0le, n_eq0, n_eqm, n_eq1, n_le1, n_1lt, n_1le, n_lt1, nn_le, nI_ltI, nI_eq, nI_clamp, nI_add, pk_mul, i_eq0, i_eqm, i_0le, i_le0, i_0lt, i_lt0, i_mle, i_ltm, ii_le, iI_lt, iI_eq, ni_le, ni_lt, ni_eq, in_le, in_lt, in_eq, ni_add, in_add, ni_sub, in_sub, ni_mul, in_mul, iI_add, iI_sub, iI_mul, i_p1, iI_neg, n_neg]
  rfl
theorem cX_room_unk (d : Nat) (z : mm_Z) (F : Nat → Nat → Value) (I : Nat → Nat → Int32) (L : Nat → Nat → Int64) (c : Int32) (hn : ¬ (0 ≤ c.toInt ∧ c.toInt < 64)) : mm_E (d + 2) mX10_room 0 [.ref 2, .int c] [] (z, F, I, L) = some (some (.int (-2)), (z, F, I, L)) := by
  have h2 : ¬ (0 ≤ c.toInt ∧ c.toInt ≤ 63) := by omega
  simp (disch := first | assumption | exact bI_or _ | exact zOK_O hz (by decide) (by decide) rfl | exact zOK_T hz (by decide) (by decide) rfl | (refine ix (zOK_l hz (by decide) (by decide) rfl) ?_; omega) | decide | omega) only [eX10_room_0, eX10_room_1, eX10_room_4, eX10_room_7, eX10_room_8, eX10_room_11, eX10_room_14, eX10_room_15, eX10_room_18, eX10_room_21, eX10_room_23, Int.cast_ofNat_Int, Nat.reduceLT, Nat.reduceLeDiff, Nat.reduceEqDiff, Nat.reduceAdd, Nat.reduceMul, Int.reduceLE, Int.reduceLT, Int.reduceEq, not_false_iff, nlr, Nat.zero_add, Nat.add_zero, e10f, e01f, eq_self, true_and, and_true, false_and, and_false, and_self, decide_true, decide_false, mm_bd_i, mm_bd_v, if_true, if_false, not_true_eq_false, not_false_eq_true, nI_1, Bool.true_eq_false, Bool.false_eq_true, bI_0, n_le0, n_0lt, n_lt0, n_0le, n_eq0, n_eqm, n_eq1, n_le1, n_1lt, n_1le, n_lt1, nn_le, nI_ltI, nI_eq, nI_clamp, nI_add, pk_mul, i_eq0, i_eqm, i_0le, i_le0, i_0lt, i_lt0, i_mle, i_ltm, ii_le, iI_lt, iI_eq, ni_le, ni_lt, ni_eq, in_le, in_lt, in_eq, ni_add, in_add, ni_sub, in_sub, ni_mul, in_mul, iI_add, iI_sub, iI_mul, i_p1, iI_neg, n_neg, cX_isCell, h2]
theorem cX_room (d : Nat) (z : mm_Z) (F : Nat → Nat → Value) (I : Nat → Nat → Int32) (L : Nat → Nat → Int64) (K : Nat → Nat) (hz : zOK z) (ht : cTop F) (h0 : cH0 F) (h : cPn K F L) (c : Nat) (hc : c < 64) : mm_E (d + 2) mX10_room 0 [.ref 2, .int (nI c)] [] (z, F, I, L) = some (some (.int (iI (roF (rS K) c (rN K)))), (z, F, I, L)) := by
  have q : 0 ≤ (c : Int) ∧ (c : Int) ≤ 63 := by omega
  have ro := fun d' => cPl_roomOf d' z F I L K hz h0.1.2.2.2.2 h c hc
  simp (disch := first | assumption | exact bI_or _ | exact zOK_O hz (by decide) (by decide) rfl | exact zOK_T hz (by decide) (by decide) rfl | (refine ix (zOK_l hz (by decide) (by decide) rfl) ?_; omega) | decide | omega) only [eX10_room_0, eX10_room_1, eX10_room_4, eX10_room_7, eX10_room_8, eX10_room_11, eX10_room_14, eX10_room_15, eX10_room_18, eX10_room_21, eX10_room_23, Int.cast_ofNat_Int, Nat.reduceLT, Nat.reduceLeDiff, Nat.reduceEqDiff, Nat.reduceAdd, Nat.reduceMul, Int.reduceLE, Int.reduceLT, Int.reduceEq, not_false_iff, nlr, Nat.zero_add, Nat.add_zero, e10f, e01f, eq_self, true_and, and_true, false_and, and_false, and_self, decide_true, decide_false, mm_bd_i, mm_bd_v, if_true, if_false, not_true_eq_false, not_false_eq_true, nI_1, Bool.true_eq_false, Bool.false_eq_true, bI_0, n_le0, n_0lt, n_lt0, n_0le, n_eq0, n_eqm, n_eq1, n_le1, n_1lt, n_1le, n_lt1, nn_le, nI_ltI, nI_eq, nI_clamp, nI_add, pk_mul, i_eq0, i_eqm, i_0le, i_le0, i_0lt, i_lt0, i_mle, i_ltm, ii_le, iI_lt, iI_eq, ni_le, ni_lt, ni_eq, in_le, in_lt, in_eq, ni_add, in_add, ni_sub, in_sub, ni_mul, in_mul, iI_add, iI_sub, iI_mul, i_p1, iI_neg, n_neg, cX_isCell, tI0, tI1, tIm1, tIm7, nI_toInt, iI_toInt, Int.cast_ofNat_Int, q, ht.1, h0.1.2.2.1, ro]
theorem cPl_isRoom (d : Nat) (z : mm_Z) (F : Nat → Nat → Value) (I : Nat → Nat → Int32) (L : Nat → Nat → Int64) (K : Nat → Nat) (hz : zOK z) (h : cPn K F L) (x : Int32) : mm_E (d + 1) mX4_isRoom 0 [.ref 7, .int x] [] (z, F, I, L) = some (some (.int (bI (decide (0 ≤ x.toInt ∧ x.toInt < rN K)))), (z, F, I, L)) := by
  have rl := rN_le K
  simp (disch := first | assumption | exact bI_or _ | exact zOK_O hz (by decide) (by decide) rfl | exact zOK_T hz (by decide) (by decide) rfl | (refine ix (zOK_l hz (by decide) (by decide) rfl) ?_; omega) | decide | omega) only [eX4_isRoom_0, eX4_isRoom_1, eX4_isRoom_2, eX4_isRoom_3, eX4_isRoom_6, eX4_isRoom_7, eX4_isRoom_8, eX4_isRoom_11, Int.cast_ofNat_Int, Nat.reduceLT, Nat.reduceLeDiff, Nat.reduceEqDiff, Nat.reduceAdd, Nat.reduceMul, Int.reduceLE, Int.reduceLT, Int.reduceEq, not_false_iff, nlr, Nat.zero_add, Nat.add_zero, e10f, e01f, eq_self, true_and, and_true, false_and, and_false, and_self, decide_true, decide_false, mm_bd_i, mm_bd_v, if_true, if_false, not_true_eq_false, not_false_eq_true, nI_1, Bool.true_eq_false, Bool.false_eq_true, bI_0, n_le0, n_0lt, n_lt0, n_0le, n_eq0, n_eqm, n_eq1, n_le1, n_1lt, n_1le, n_lt1, nn_le, nI_ltI, nI_eq, nI_clamp, nI_add, pk_mul, i_eq0, i_eqm, i_0le, i_le0, i_0lt, i_lt0, i_mle, i_ltm, ii_le, iI_lt, iI_eq, ni_le, ni_lt, ni_eq, in_le, in_lt, in_eq, ni_add, in_add, ni_sub, in_sub, ni_mul, in_mul, iI_add, iI_sub, iI_mul, i_p1, iI_neg, n_neg, h.2.2.1, cX_within, n_s1, tI0, tI1, tIm1, tIm7, nI_toInt, iI_toInt, Int.cast_ofNat_Int]
  rw [bI_d (q := 0 ≤ x.toInt ∧ x.toInt < rN K) (by omega)]
theorem cX_rooms_no (d : Nat) (z : mm_Z) (F : Nat → Nat → Value) (I : Nat → Nat → Int32) (L : Nat → Nat → Int64) (K : Nat → Nat) (hz : zOK z) (ht : cTop F) (h0 : cH0 F) (h : cPn K F L) (x : Int32) (hx : ¬ (0 ≤ x.toInt ∧ x.toInt < rN K)) : mm_E (d + 3) mX10_rooms 0 [.ref 2, .int x] [] (z, F, I, L) = some (some (.long 0), (z, F, I, L)) := by
  have ir := fun d' => cPl_isRoom d' z F I L K hz h x
  simp (disch := first | assumption | exact bI_or _ | exact zOK_O hz (by decide) (by decide) rfl | exact zOK_T hz (by decide) (by decide) rfl | (refine ix (zOK_l hz (by decide) (by decide) rfl) ?_; omega) | decide | omega) only [eX10_rooms_0, eX10_rooms_1, eX10_rooms_4, eX10_rooms_7, eX10_rooms_8, eX10_rooms_11, eX4_cellsOfRoom_0, eX4_cellsOfRoom_1, eX4_cellsOfRoom_2, eX4_cellsOfRoom_5, eX4_cellsOfRoom_8, eX4_cellsOfRoom_9, eX4_cellsOfRoom_12, eX4_cellsOfRoom_13, eX4_cellsOfRoom_14, eX4_cellsOfRoom_17, eX4_cellsOfRoom_18, Int.cast_ofNat_Int, Nat.reduceLT, Nat.reduceLeDiff, Nat.reduceEqDiff, Nat.reduceAdd, Nat.reduceMul, Int.reduceLE, Int.reduceLT, Int.reduceEq, not_false_iff, nlr, Nat.zero_add, Nat.add_zero, e10f, e01f, eq_self, true_and, and_true, false_and, and_false, and_self, decide_true, decide_false, mm_bd_i, mm_bd_v, if_true, if_false, not_true_eq_false, not_false_eq_true, nI_1, Bool.true_eq_false, Bool.false_eq_true, bI_0, n_le0, n_0lt, n_lt0, n_0le, n_eq0, n_eqm, n_eq1, n_le1, n_1lt, n_1le, n_lt1, nn_le, nI_ltI, nI_eq, nI_clamp, nI_add, pk_mul, i_eq0, i_eqm, i_0le, i_le0, i_0lt, i_lt0, i_mle, i_ltm, ii_le, iI_lt, iI_eq, ni_le, ni_lt, ni_eq, in_le, in_lt, in_eq, ni_add, in_add, ni_sub, in_sub, ni_mul, in_mul, iI_add, iI_sub, iI_mul, i_p1, iI_neg, n_neg, ht.1, h0.1.2.2.1, ir, hx]
theorem cPl_cells (d : Nat) (z : mm_Z) (F : Nat → Nat → Value) (I : Nat → Nat → Int32) (L : Nat → Nat → Int64) (K : Nat → Nat) (hz : zOK z) (h0 : cH0 F) (h : cPn K F L) (r : Nat) (hr : r < rN K) : mm_E (d + 2) mX4_cellsOfRoom 0 [.ref 7, .int (nI r)] [] (z, F, I, L) = some (some (.long (rS K r)), (z, F, I, L)) := by
  have rl := rN_le K
  have ir := fun d' => cPl_isRoom d' z F I L K hz h (nI r)
  have q : 0 ≤ (r : Int) ∧ (r : Int) < rN K := by omega
  simp (disch := first | assumption | exact bI_or _ | exact zOK_O hz (by decide) (by decide) rfl | exact zOK_T hz (by decide) (by decide) rfl | (refine ix (zOK_l hz (by decide) (by decide) rfl) ?_; omega) | decide | omega) only [eX4_cellsOfRoom_0, eX4_cellsOfRoom_1, eX4_cellsOfRoom_2, eX4_cellsOfRoom_5, eX4_cellsOfRoom_8, eX4_cellsOfRoom_9, eX4_cellsOfRoom_12, eX4_cellsOfRoom_13, eX4_cellsOfRoom_14, eX4_cellsOfRoom_17, eX4_cellsOfRoom_18, Int.cast_ofNat_Int, Nat.reduceLT, Nat.reduceLeDiff, Nat.reduceEqDiff, Nat.reduceAdd, Nat.reduceMul, Int.reduceLE, Int.reduceLT, Int.reduceEq, not_false_iff, nlr, Nat.zero_add, Nat.add_zero, e10f, e01f, eq_self, true_and, and_true, false_and, and_false, and_self, decide_true, decide_false, mm_bd_i, mm_bd_v, if_true, if_false, not_true_eq_false, not_false_eq_true, nI_1, Bool.true_eq_false, Bool.false_eq_true, bI_0, n_le0, n_0lt, n_lt0, n_0le, n_eq0, n_eqm, n_eq1, n_le1, n_1lt, n_1le, n_lt1, nn_le, nI_ltI, nI_eq, nI_clamp, nI_add, pk_mul, i_eq0, i_eqm, i_0le, i_le0, i_0lt, i_lt0, i_mle, i_ltm, ii_le, iI_lt, iI_eq, ni_le, ni_lt, ni_eq, in_le, in_lt, in_eq, ni_add, in_add, ni_sub, in_sub, ni_mul, in_mul, iI_add, iI_sub, iI_mul, i_p1, iI_neg, n_neg, ir, tI0, tI1, tIm1, tIm7, nI_toInt, iI_toInt, Int.cast_ofNat_Int, q, h0.1.2.2.2.2, h.2.2.2 r hr]
theorem cX_rooms (d : Nat) (z : mm_Z) (F : Nat → Nat → Value) (I : Nat → Nat → Int32) (L : Nat → Nat → Int64) (K : Nat → Nat) (hz : zOK z) (ht : cTop F) (h0 : cH0 F) (h : cPn K F L) (r : Nat) (hr : r < rN K) : mm_E (d + 3) mX10_rooms 0 [.ref 2, .int (nI r)] [] (z, F, I, L) = some (some (.long (rS K r)), (z, F, I, L)) := by
  have ce := fun d' => cPl_cells d' z F I L K hz h0 h r hr
  simp (disch := first | assumption | exact bI_or _ | exact zOK_O hz (by decide) (by decide) rfl | exact zOK_T hz (by decide) (by decide) rfl | (refine ix (zOK_l hz (by decide) (by decide) rfl) ?_; omega) | decide | omega) only [eX10_rooms_0, eX10_rooms_1, eX10_rooms_4, eX10_rooms_7, eX10_rooms_8, eX10_rooms_11, Int.cast_ofNat_Int, Nat.reduceLT, Nat.reduceLeDiff, Nat.reduceEqDiff, Nat.reduceAdd, Nat.reduceMul, Int.reduceLE, Int.reduceLT, Int.reduceEq, not_false_iff, nlr, Nat.zero_add, Nat.add_zero, e10f, e01f, eq_self, true_and, and_true, false_and, and_false, and_self, decide_true, decide_false, mm_bd_i, mm_bd_v, if_true, if_false, not_true_eq_false, not_false_eq_true, nI_1, Bool.true_eq_false, Bool.false_eq_true, bI_0, n_le0, n_0lt, n_lt0, n_0le, n_eq0, n_eqm, n_eq1, n_le1, n_1lt, n_1le, n_lt1, nn_le, nI_ltI, nI_eq, nI_clamp, nI_add, pk_mul, i_eq0, i_eqm, i_0le, i_le0, i_0lt, i_lt0, i_mle, i_ltm, ii_le, iI_lt, iI_eq, ni_le, ni_lt, ni_eq, in_le, in_lt, in_eq, ni_add, in_add, ni_sub, in_sub, ni_mul, in_mul, iI_add, iI_sub, iI_mul, i_p1, iI_neg, n_neg, ht.1, h0.1.2.2.1, ce]
theorem rM_room_unk (d : Nat) (z : mm_Z) (F : Nat → Nat → Value) (I : Nat → Nat → Int32) (L : Nat → Nat → Int64) (c : Int32) (hn : ¬ (0 ≤ c.toInt ∧ c.toInt < 64)) : mm_E (d + 2) mX11_room 0 [.ref 120, .int c] [] (z, F, I, L) = some (some (.int (-2)), (z, F, I, L)) := by
  have c2 : decide (0 ≤ c.toInt ∧ c.toInt < 64) = false := decide_eq_false hn
  simp (disch := first | assumption | exact bI_or _ | exact zOK_O hz (by decide) (by decide) rfl | exact zOK_T hz (by decide) (by decide) rfl | (refine ix (zOK_l hz (by decide) (by decide) rfl) ?_; omega) | decide | omega) only [eX11_room_0, eX11_room_1, eX11_room_4, eX11_room_7, eX11_room_9, eX11_room_10, eX11_room_11, eX11_room_14, eX11_room_15, eX11_room_16, eX11_room_19, Int.cast_ofNat_Int, Nat.reduceLT, Nat.reduceLeDiff, Nat.reduceEqDiff, Nat.reduceAdd, Nat.reduceMul, Int.reduceLE, Int.reduceLT, Int.reduceEq, not_false_iff, nlr, Nat.zero_add, Nat.add_zero, e10f, e01f, eq_self, true_and, and_true, false_and, and_false, and_self, decide_true, decide_false, mm_bd_i, mm_bd_v, if_true, if_false, not_true_eq_false, not_false_eq_true, nI_1, Bool.true_eq_false, Bool.false_eq_true, bI_0, n_le0, n_0lt, n_lt0, n_0le, n_eq0, n_eqm, n_eq1, n_le1, n_1lt, n_1le, n_lt1, nn_le, nI_ltI, nI_eq, nI_clamp, nI_add, pk_mul, i_eq0, i_eqm, i_0le, i_le0, i_0lt, i_lt0, i_mle, i_ltm, ii_le, iI_lt, iI_eq, ni_le, ni_lt, ni_eq, in_le, in_lt, in_eq, ni_add, in_add, ni_sub, in_sub, ni_mul, in_mul, iI_add, iI_sub, iI_mul, i_p1, iI_neg, n_neg, rM_isCell, c2]
theorem rM_room (d : Nat) (z : mm_Z) (F : Nat → Nat → Value) (I : Nat → Nat → Int32) (L : Nat → Nat → Int64) (n : Nat) (hs : Nat → List (Int × Int × Nat)) (st : Nat → Option (Nat × Nat)) (hz : zOK z) (hF : FixM F) (w : wOK n hs st) (h : rmS n hs st F I) (c : Nat) (hc : c < 64) : ∃ F' I' L', mm_E (d + 6) mX11_room 0 [.ref 120, .int (nI c)] [] (z, F, I, L) = some (some (.int (iI (roF (rS (kd n hs st)) c (rN (kd n hs st))))), (z, F', I', L')) ∧ rmFr F F' I I' L L' := by
  obtain ⟨F', I', L', k1, k2, k3, k4, k5, k6, k7⟩ := rM_findRooms d z F I L n hs st hz hF w h
  have rl := rN_le (kd n hs st)
  refine ⟨F', I', L', ?_, k2⟩
  have ro := fun d' => rM_roomOf d' z F' I' L' hz k3 (rN (kd n hs st)) rl k6 c hc
  rw [roF_cg (rN (kd n hs st)) (fun j hj => k7 j hj)] at ro
  simp (disch := first | assumption | exact bI_or _ | exact zOK_O hz (by decide) (by decide) rfl | exact zOK_T hz (by decide) (by decide) rfl | (refine ix (zOK_l hz (by decide) (by decide) rfl) ?_; omega) | decide | omega) only [eX11_room_0, eX11_room_1, eX11_room_4, eX11_room_7, eX11_room_9, eX11_room_10, eX11_room_11, eX11_room_14, eX11_room_15, eX11_room_16, eX11_room_19, Int.cast_ofNat_Int, Nat.reduceLT, Nat.reduceLeDiff, Nat.reduceEqDiff, Nat.reduceAdd, Nat.reduceMul, Int.reduceLE, Int.reduceLT, Int.reduceEq, not_false_iff, nlr, Nat.zero_add, Nat.add_zero, e10f, e01f, eq_self, true_and, and_true, false_and, and_false, and_self, decide_true, decide_false, mm_bd_i, mm_bd_v, if_true, if_false, not_true_eq_false, not_false_eq_true, nI_1, Bool.true_eq_false, Bool.false_eq_true, bI_0, n_le0, n_0lt, n_lt0, n_0le, n_eq0, n_eqm, n_eq1, n_le1, n_1lt, n_1le, n_lt1, nn_le, nI_ltI, nI_eq, nI_clamp, nI_add, pk_mul, i_eq0, i_eqm, i_0le, i_le0, i_0lt, i_lt0, i_mle, i_ltm, ii_le, iI_lt, iI_eq, ni_le, ni_lt, ni_eq, in_le, in_lt, in_eq, ni_add, in_add, ni_sub, in_sub, ni_mul, in_mul, iI_add, iI_sub, iI_mul, i_p1, iI_neg, n_neg, rM_isCell, isC_t hc, k1, ro]
theorem rM_rooms_no (d : Nat) (z : mm_Z) (F : Nat → Nat → Value) (I : Nat → Nat → Int32) (L : Nat → Nat → Int64) (n : Nat) (hs : Nat → List (Int × Int × Nat)) (st : Nat → Option (Nat × Nat)) (hz : zOK z) (hF : FixM F) (w : wOK n hs st) (h : rmS n hs st F I) (x : Int32) (hx : ¬ (0 ≤ x.toInt ∧ x.toInt < rN (kd n hs st))) : ∃ F' I' L', mm_E (d + 6) mX11_rooms 0 [.ref 120, .int x] [] (z, F, I, L) = some (some (.long 0), (z, F', I', L')) ∧ rmFr F F' I I' L L' := by
  obtain ⟨F', I', L', k1, k2, k3, k4, k5, k6, k7⟩ := rM_findRooms d z F I L n hs st hz hF w h
  have rl := rN_le (kd n hs st)
  refine ⟨F', I', L', ?_, k2⟩
  have e : ¬ (0 ≤ x.toInt ∧ x.toInt ≤ (rN (kd n hs st) : Int) - 1) := by omega
  simp (disch := first | assumption | exact bI_or _ | exact zOK_O hz (by decide) (by decide) rfl | exact zOK_T hz (by decide) (by decide) rfl | (refine ix (zOK_l hz (by decide) (by decide) rfl) ?_; omega) | decide | omega) only [eX11_rooms_0, eX11_rooms_1, eX11_rooms_4, eX11_rooms_5, eX11_rooms_6, eX11_rooms_7, eX11_rooms_10, eX11_rooms_11, eX11_rooms_12, eX11_rooms_15, eX11_rooms_18, eX11_rooms_19, eX11_rooms_22, eX11_rooms_23, eX11_rooms_24, eX11_rooms_27, eX11_rooms_28, Int.cast_ofNat_Int, Nat.reduceLT, Nat.reduceLeDiff, Nat.reduceEqDiff, Nat.reduceAdd, Nat.reduceMul, Int.reduceLE, Int.reduceLT, Int.reduceEq, not_false_iff, nlr, Nat.zero_add, Nat.add_zero, e10f, e01f, eq_self, true_and, and_true, false_and, and_false, and_self, decide_true, decide_false, mm_bd_i, mm_bd_v, if_true, if_false, not_true_eq_false, not_false_eq_true, nI_1, Bool.true_eq_false, Bool.false_eq_true, bI_0, n_le0, n_0lt, n_lt0, n_0le, n_eq0, n_eqm, n_eq1, n_le1, n_1lt, n_1le, n_lt1, nn_le, nI_ltI, nI_eq, nI_clamp, nI_add, pk_mul, i_eq0, i_eqm, i_0le, i_le0, i_0lt, i_lt0, i_mle, i_ltm, ii_le, iI_lt, iI_eq, ni_le, ni_lt, ni_eq, in_le, in_lt, in_eq, ni_add, in_add, ni_sub, in_sub, ni_mul, in_mul, iI_add, iI_sub, iI_mul, i_p1, iI_neg, n_neg, k1, k6, n_s1, rM_in, tI0, tI1, tIm1, tIm7, nI_toInt, iI_toInt, Int.cast_ofNat_Int, e]
theorem rM_rooms (d : Nat) (z : mm_Z) (F : Nat → Nat → Value) (I : Nat → Nat → Int32) (L : Nat → Nat → Int64) (n : Nat) (hs : Nat → List (Int × Int × Nat)) (st : Nat → Option (Nat × Nat)) (hz : zOK z) (hF : FixM F) (w : wOK n hs st) (h : rmS n hs st F I) (r : Nat) (hr : r < rN (kd n hs st)) : ∃ F' I' L', mm_E (d + 6) mX11_rooms 0 [.ref 120, .int (nI r)] [] (z, F, I, L) = some (some (.long (rS (kd n hs st) r)), (z, F', I', L')) ∧ rmFr F F' I I' L L' := by
  obtain ⟨F', I', L', k1, k2, k3, k4, k5, k6, k7⟩ := rM_findRooms d z F I L n hs st hz hF w h
  have rl := rN_le (kd n hs st)
  refine ⟨F', I', L', ?_, k2⟩
  have e : 0 ≤ (r : Int) ∧ (r : Int) ≤ (rN (kd n hs st) : Int) - 1 := by omega
  simp (disch := first | assumption | exact bI_or _ | exact zOK_O hz (by decide) (by decide) rfl | exact zOK_T hz (by decide) (by decide) rfl | (refine ix (zOK_l hz (by decide) (by decide) rfl) ?_; omega) | decide | omega) only [eX11_rooms_0, eX11_rooms_1, eX11_rooms_4, eX11_rooms_5, eX11_rooms_6, eX11_rooms_7, eX11_rooms_10, eX11_rooms_11, eX11_rooms_12, eX11_rooms_15, eX11_rooms_18, eX11_rooms_19, eX11_rooms_22, eX11_rooms_23, eX11_rooms_24, eX11_rooms_27, eX11_rooms_28, Int.cast_ofNat_Int, Nat.reduceLT, Nat.reduceLeDiff, Nat.reduceEqDiff, Nat.reduceAdd, Nat.reduceMul, Int.reduceLE, Int.reduceLT, Int.reduceEq, not_false_iff, nlr, Nat.zero_add, Nat.add_zero, e10f, e01f, eq_self, true_and, and_true, false_and, and_false, and_self, decide_true, decide_false, mm_bd_i, mm_bd_v, if_true, if_false, not_true_eq_false, not_false_eq_true, nI_1, Bool.true_eq_false, Bool.false_eq_true, bI_0, n_le0, n_0lt, n_lt0, n_0le, n_eq0, n_eqm, n_eq1, n_le1, n_1lt, n_1le, n_lt1, nn_le, nI_ltI, nI_eq, nI_clamp, nI_add, pk_mul, i_eq0, i_eqm, i_0le, i_le0, i_0lt, i_lt0, i_mle, i_ltm, ii_le, iI_lt, iI_eq, ni_le, ni_lt, ni_eq, in_le, in_lt, in_eq, ni_add, in_add, ni_sub, in_sub, ni_mul, in_mul, iI_add, iI_sub, iI_mul, i_p1, iI_neg, n_neg, k1, k6, n_s1, rM_in, tI0, tI1, tIm1, tIm7, nI_toInt, iI_toInt, Int.cast_ofNat_Int, e, fM_19 k3, k7 r hr]
