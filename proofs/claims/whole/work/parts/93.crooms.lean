/-! rooms: the class's findRooms and survey -/
theorem cmp_ex (f : Nat → Bool) (s : Nat) (hs : s < 64) : ∃ R, cmp f s R := by
  obtain ⟨R, _, h⟩ := cPl_spread 0 (0, 0, fun _ => .inl 0) (fun _ _ => .null) (fun _ _ => 0) (fun _ _ => 0) s hs f (lOr f 64) (fun a ha => by rw [lb_lOr f a 64 (Nat.le_refl _), decide_eq_true ha, Bool.true_and])
  exact ⟨R, h⟩
noncomputable def cm (f : Nat → Bool) (s : Nat) : Int64 := Classical.epsilon (fun R => cmp f s R)
theorem cm_spec (f : Nat → Bool) (s : Nat) (hs : s < 64) : cmp f s (cm f s) := Classical.epsilon_spec (cmp_ex f s hs)
theorem cmp_cm {f : Nat → Bool} {s : Nat} (hs : s < 64) {R : Int64} (h : cmp f s R) : R = cm f s := cmp_uniq h (cm_spec f s hs)
/-- where a room may be -/
def flB (K : Nat → Nat) (a : Nat) : Bool := decide (K a = 1) && !drC K a
/-- what is met, how many rooms there are, and the rooms, after c cells -/
noncomputable def rmF (K : Nat → Nat) : Nat → (Nat → Bool) × Nat × (Nat → Int64)
  | 0 => (fun _ => false, 0, fun _ => 0)
  | c + 1 => if flB K c = true ∧ (rmF K c).1 c = false then ((fun a => (rmF K c).1 a || lb (cm (flB K) c) a), if clA K (cm (flB K) c) 64 = true then ((rmF K c).2.1 + 1, udf (rmF K c).2.2 (rmF K c).2.1 (cm (flB K) c)) else (rmF K c).2) else rmF K c
noncomputable def rN (K : Nat → Nat) : Nat := (rmF K 64).2.1
noncomputable def rS (K : Nat → Nat) (r : Nat) : Int64 := (rmF K 64).2.2 r
theorem rmF_le (K : Nat → Nat) : ∀ c, (rmF K c).2.1 ≤ c := by
  intro c
  induction c with
  | zero => exact Nat.le_refl _
  | succ c ih =>
    rw [rmF]
    split
    · dsimp only
      split
      · dsimp only; omega
      · omega
    · omega
theorem rN_le (K : Nat → Nat) : rN K ≤ 64 := rmF_le K 64
theorem clA_iff (K : Nat → Nat) (s : Int64) : ∀ c, (clA K s c = true ↔ ∀ a, a < c → lb s a = true → cl4 K a 4 = true) := by
  intro c
  induction c with
  | zero => exact ⟨fun _ a h => absurd h (by omega), fun _ => rfl⟩
  | succ c ih =>
    rw [clA, Bool.and_eq_true, ih, Bool.or_eq_true, Bool.not_eq_true']
    constructor
    · intro h a ha g
      by_cases e : a = c
      · subst e
        rcases h.2 with q | q
        · rw [q] at g; exact absurd g (by simp)
        · exact q
      · exact h.1 a (by omega) g
    · intro h
      refine ⟨fun a ha => h a (by omega), ?_⟩
      cases e : lb s c with
      | false => exact Or.inl rfl
      | true => exact Or.inr (h c (by omega) e)
theorem open_iff (K : Nat → Nat) (R op : Int64) (ho : ∀ a, a < 64 → lb op a = !cl4 K a 4) : (R &&& op = 0) ↔ clA K R 64 = true := by
  rw [clA_iff]
  constructor
  · intro h a ha g
    have := congrArg (fun x => lb x a) h
    simp only [lb_and, ho a ha, lb_0, g, Bool.true_and] at this
    simpa using this
  · intro h
    apply lb_ext
    intro a ha
    rw [lb_and, ho a ha, lb_0]
    cases e : lb R a with
    | false => rfl
    | true => rw [h a ha e]; rfl
theorem cPl_findRooms (d : Nat) (z : mm_Z) (F : Nat → Nat → Value) (I : Nat → Nat → Int32) (L : Nat → Nat → Int64) (K : Nat → Nat) (hz : zOK z) (h0 : F 7 0 = .ref 8) (fl op : Int64) (hf : ∀ a, a < 64 → lb fl a = flB K a) (ho : ∀ a, a < 64 → lb op a = !cl4 K a 4) : ∃ F' L', mm_E (d + 2) mX4_findRooms 0 [.ref 7, .long fl, uu, .long op, uu, uu, uu, uu, uu, uu] [] (z, F, I, L) = some (none, (z, F', I, L')) ∧ F' 7 1 = .int (nI (rN K)) ∧ (∀ r, r < rN K → L' 8 r = rS K r) ∧ (∀ x j, ¬ (x = 7 ∧ j = 1) → F' x j = F x j) ∧ ∀ x, ¬ x = 8 → L' x = L x := by
  have l : ∀ c, c ≤ 64 → ∀ (F : Nat → Nat → Value) (L : Nat → Nat → Int64) (lf : Int64) (a8 a9 : Value), F 7 0 = .ref 8 → F 7 1 = .int (nI (rmF K c).2.1) → (∀ r, r < (rmF K c).2.1 → L 8 r = (rmF K c).2.2 r) → (∀ a, a < 64 → lb lf a = (flB K a && !(rmF K c).1 a)) → ∃ F' L', mm_E (d + 2) mX4_findRooms 11 [.ref 7, .long fl, uu, .long op, uu, .long lf, uu, .int (nI c), a8, a9] [] (z, F, I, L) = some (none, (z, F', I, L')) ∧ F' 7 1 = .int (nI (rN K)) ∧ (∀ r, r < rN K → L' 8 r = rS K r) ∧ (∀ x j, ¬ (x = 7 ∧ j = 1) → F' x j = F x j) ∧ ∀ x, ¬ x = 8 → L' x = L x := by
    apply lp
    · intro F L lf a8 a9 h0 h1 h2 h3
      refine ⟨F, L, ?_, h1, h2, fun _ _ _ => rfl, fun _ _ => rfl⟩
      rw [eX4_findRooms_11]
      simp (disch := first | assumption | exact bI_or _ | exact zOK_O hz (by decide) (by decide) rfl | exact zOK_T hz (by decide) (by decide) rfl | (refine ix (zOK_l hz (by decide) (by decide) rfl) ?_; omega) | decide | omega) only [eX4_findRooms_0, eX4_findRooms_1, eX4_findRooms_2, eX4_findRooms_5, eX4_findRooms_6, eX4_findRooms_8, eX4_findRooms_9, eX4_findRooms_13, eX4_findRooms_15, eX4_findRooms_18, eX4_findRooms_20, eX4_findRooms_22, eX4_findRooms_25, eX4_findRooms_28, eX4_findRooms_29, eX4_findRooms_31, eX4_findRooms_32, eX4_findRooms_33, eX4_findRooms_36, eX4_findRooms_38, eX4_findRooms_40, eX4_findRooms_42, eX4_findRooms_45, eX4_findRooms_46, eX4_findRooms_47, eX4_findRooms_49, eX4_findRooms_51, eX4_findRooms_52, eX4_findRooms_53, eX4_findRooms_54, eX4_findRooms_55, eX4_findRooms_58, eX4_findRooms_59, eX4_findRooms_62, eX4_findRooms_63, eX4_findRooms_66, eX4_findRooms_68, eX4_findRooms_69, eX4_findRooms_70, eX4_findRooms_71, eX4_findRooms_74, eX4_findRooms_75, eX4_findRooms_76, eX4_findRooms_79, eX4_findRooms_82, eX4_findRooms_85, Int.cast_ofNat_Int, Nat.reduceLT, Nat.reduceLeDiff, Nat.reduceEqDiff, Nat.reduceAdd, Nat.reduceMul, Int.reduceLE, Int.reduceLT, Int.reduceEq, not_false_iff, nlr, Nat.zero_add, Nat.add_zero, e10f, e01f, eq_self, true_and, and_true, false_and, and_false, and_self, decide_true, decide_false, mm_bd_i, mm_bd_v, if_true, if_false, not_true_eq_false, not_false_eq_true, nI_1, Bool.true_eq_false, Bool.false_eq_true, bI_0, n_le0, n_0lt, n_lt0, n_0le, n_eq0, n_eqm, n_eq1, n_le1, n_1lt, n_1le, n_lt1, nn_le, nI_ltI, nI_eq, nI_clamp, nI_add, pk_mul, i_eq0, i_eqm, i_0le, i_le0, i_0lt, i_lt0, i_mle, i_ltm, ii_le, iI_lt, iI_eq, ni_le, ni_lt, ni_eq, in_le, in_lt, in_eq, ni_add, in_add, ni_sub, in_sub, ni_mul, in_mul, iI_add, iI_sub, iI_mul, i_p1, iI_neg, n_neg]
    · intro c hc ih F L lf a8 a9 h0 h1 h2 h3
      have rl := rmF_le K c
      have ha := fun d' w => cX_has d' z F I L lf w c hc
      by_cases e : flB K c = true ∧ (rmF K c).1 c = false
      · have lc : lb lf c = true := by rw [h3 c hc, e.1, e.2]; rfl
        rw [lc] at ha
        obtain ⟨R, sp, cp⟩ := cPl_spread d z F I L c hc (flB K) fl hf
        have eR := cmp_cm hc cp
        subst eR
        have oi := open_iff K (cm (flB K) c) op ho
        have r1 : (rmF K (c + 1)).1 = fun a => (rmF K c).1 a || lb (cm (flB K) c) a := by rw [rmF, if_pos e]
        have lf3 : ∀ a, a < 64 → lb (lf &&& (cm (flB K) c ^^^ -1)) a = (flB K a && !(rmF K (c + 1)).1 a) := by
          intro a ha
          rw [lb_and, lb_not _ ha, h3 a ha, r1]
          dsimp only
          cases flB K a <;> cases (rmF K c).1 a <;> cases lb (cm (flB K) c) a <;> rfl
        have bs : (1 : Int64) <<< ((nI c).toInt64 &&& 63) = b1 c := rfl
        by_cases g : clA K (cm (flB K) c) 64 = true
        · have r2 : (rmF K (c + 1)).2 = ((rmF K c).2.1 + 1, udf (rmF K c).2.2 (rmF K c).2.1 (cm (flB K) c)) := by rw [rmF, if_pos e, if_pos g]
          have g0 := oi.mpr g
          obtain ⟨F', L', k1, k2, k3, k4, k5⟩ := ih (mm_up2 F 7 1 (.int (nI ((rmF K c).2.1 + 1)))) (mm_up2 L 8 (rmF K c).2.1 (cm (flB K) c)) (lf &&& (cm (flB K) c ^^^ -1)) (.long (cm (flB K) c)) uu (by rw [up_k _ _ _ _ (by decide)]; exact h0) (by rw [up_s, r2]) (fun r hr => by
            rw [r2] at hr ⊢
            dsimp only at hr ⊢
            by_cases q : r = (rmF K c).2.1
            · subst q; rw [up_s, udf_s]
            · rw [up_k _ _ _ _ q, udf_n _ _ q]; exact h2 r (by omega)) lf3
          refine ⟨F', L', ?_, k2, k3, fun x j q => by rw [k4 x j q]; unfold mm_up2; rw [if_neg q], fun x q => by rw [k5 x q, up_row _ _ _ q]⟩
          rw [← k1, eX4_findRooms_11]
          simp (disch := first | assumption | exact bI_or _ | exact zOK_O hz (by decide) (by decide) rfl | exact zOK_T hz (by decide) (by decide) rfl | (refine ix (zOK_l hz (by decide) (by decide) rfl) ?_; omega) | decide | omega) only [eX4_findRooms_0, eX4_findRooms_1, eX4_findRooms_2, eX4_findRooms_5, eX4_findRooms_6, eX4_findRooms_8, eX4_findRooms_9, eX4_findRooms_13, eX4_findRooms_15, eX4_findRooms_18, eX4_findRooms_20, eX4_findRooms_22, eX4_findRooms_25, eX4_findRooms_28, eX4_findRooms_29, eX4_findRooms_31, eX4_findRooms_32, eX4_findRooms_33, eX4_findRooms_36, eX4_findRooms_38, eX4_findRooms_40, eX4_findRooms_42, eX4_findRooms_45, eX4_findRooms_46, eX4_findRooms_47, eX4_findRooms_49, eX4_findRooms_51, eX4_findRooms_52, eX4_findRooms_53, eX4_findRooms_54, eX4_findRooms_55, eX4_findRooms_58, eX4_findRooms_59, eX4_findRooms_62, eX4_findRooms_63, eX4_findRooms_66, eX4_findRooms_68, eX4_findRooms_69, eX4_findRooms_70, eX4_findRooms_71, eX4_findRooms_74, eX4_findRooms_75, eX4_findRooms_76, eX4_findRooms_79, eX4_findRooms_82, eX4_findRooms_85, Int.cast_ofNat_Int, Nat.reduceLT, Nat.reduceLeDiff, Nat.reduceEqDiff, Nat.reduceAdd, Nat.reduceMul, Int.reduceLE, Int.reduceLT, Int.reduceEq, not_false_iff, nlr, Nat.zero_add, Nat.add_zero, e10f, e01f, eq_self, true_and, and_true, false_and, and_false, and_self, decide_true, decide_false, mm_bd_i, mm_bd_v, if_true, if_false, not_true_eq_false, not_false_eq_true, nI_1, Bool.true_eq_false, Bool.false_eq_true, bI_0, n_le0, n_0lt, n_lt0, n_0le, n_eq0, n_eqm, n_eq1, n_le1, n_1lt, n_1le, n_lt1, nn_le, nI_ltI, nI_eq, nI_clamp, nI_add, pk_mul, i_eq0, i_eqm, i_0le, i_le0, i_0lt, i_lt0, i_mle, i_ltm, ii_le, iI_lt, iI_eq, ni_le, ni_lt, ni_eq, in_le, in_lt, in_eq, ni_add, in_add, ni_sub, in_sub, ni_mul, in_mul, iI_add, iI_sub, iI_mul, i_p1, iI_neg, n_neg, hc, ha, bs, sp, lg_cmp_eq, g0, h0, h1, up_s, up_k]
        · have r2 : (rmF K (c + 1)).2 = (rmF K c).2 := by rw [rmF, if_pos e, if_neg g]
          have g0 : ¬ (cm (flB K) c &&& op = 0) := fun q => g (oi.mp q)
          obtain ⟨F', L', k1, k2, k3, k4, k5⟩ := ih F L (lf &&& (cm (flB K) c ^^^ -1)) (.long (cm (flB K) c)) uu h0 (by rw [r2]; exact h1) (by rw [r2]; exact h2) lf3
          refine ⟨F', L', ?_, k2, k3, k4, k5⟩
          rw [← k1, eX4_findRooms_11]
          simp (disch := first | assumption | exact bI_or _ | exact zOK_O hz (by decide) (by decide) rfl | exact zOK_T hz (by decide) (by decide) rfl | (refine ix (zOK_l hz (by decide) (by decide) rfl) ?_; omega) | decide | omega) only [eX4_findRooms_0, eX4_findRooms_1, eX4_findRooms_2, eX4_findRooms_5, eX4_findRooms_6, eX4_findRooms_8, eX4_findRooms_9, eX4_findRooms_13, eX4_findRooms_15, eX4_findRooms_18, eX4_findRooms_20, eX4_findRooms_22, eX4_findRooms_25, eX4_findRooms_28, eX4_findRooms_29, eX4_findRooms_31, eX4_findRooms_32, eX4_findRooms_33, eX4_findRooms_36, eX4_findRooms_38, eX4_findRooms_40, eX4_findRooms_42, eX4_findRooms_45, eX4_findRooms_46, eX4_findRooms_47, eX4_findRooms_49, eX4_findRooms_51, eX4_findRooms_52, eX4_findRooms_53, eX4_findRooms_54, eX4_findRooms_55, eX4_findRooms_58, eX4_findRooms_59, eX4_findRooms_62, eX4_findRooms_63, eX4_findRooms_66, eX4_findRooms_68, eX4_findRooms_69, eX4_findRooms_70, eX4_findRooms_71, eX4_findRooms_74, eX4_findRooms_75, eX4_findRooms_76, eX4_findRooms_79, eX4_findRooms_82, eX4_findRooms_85, Int.cast_ofNat_Int, Nat.reduceLT, Nat.reduceLeDiff, Nat.reduceEqDiff, Nat.reduceAdd, Nat.reduceMul, Int.reduceLE, Int.reduceLT, Int.reduceEq, not_false_iff, nlr, Nat.zero_add, Nat.add_zero, e10f, e01f, eq_self, true_and, and_true, false_and, and_false, and_self, decide_true, decide_false, mm_bd_i, mm_bd_v, if_true, if_false, not_true_eq_false, not_false_eq_true, nI_1, Bool.true_eq_false, Bool.false_eq_true, bI_0, n_le0, n_0lt, n_lt0, n_0le, n_eq0, n_eqm, n_eq1, n_le1, n_1lt, n_1le, n_lt1, nn_le, nI_ltI, nI_eq, nI_clamp, nI_add, pk_mul, i_eq0, i_eqm, i_0le, i_le0, i_0lt, i_lt0, i_mle, i_ltm, ii_le, iI_lt, iI_eq, ni_le, ni_lt, ni_eq, in_le, in_lt, in_eq, ni_add, in_add, ni_sub, in_sub, ni_mul, in_mul, iI_add, iI_sub, iI_mul, i_p1, iI_neg, n_neg, hc, ha, bs, sp, lg_cmp_eq, g0]
      · have lc : lb lf c = false := by
          rw [h3 c hc]
          cases e1 : flB K c with
          | false => rfl
          | true =>
            cases e2 : (rmF K c).1 c with
            | true => rfl
            | false => exact absurd ⟨e1, e2⟩ e
        rw [lc] at ha
        have r0 : rmF K (c + 1) = rmF K c := by rw [rmF, if_neg e]
        obtain ⟨F', L', k1, k2, k3, k4, k5⟩ := ih F L lf a8 a9 h0 (by rw [r0]; exact h1) (by rw [r0]; exact h2) (by rw [r0]; exact h3)
        refine ⟨F', L', ?_, k2, k3, k4, k5⟩
        rw [← k1, eX4_findRooms_11]
        simp (disch := first | assumption | exact bI_or _ | exact zOK_O hz (by decide) (by decide) rfl | exact zOK_T hz (by decide) (by decide) rfl | (refine ix (zOK_l hz (by decide) (by decide) rfl) ?_; omega) | decide | omega) only [eX4_findRooms_0, eX4_findRooms_1, eX4_findRooms_2, eX4_findRooms_5, eX4_findRooms_6, eX4_findRooms_8, eX4_findRooms_9, eX4_findRooms_13, eX4_findRooms_15, eX4_findRooms_18, eX4_findRooms_20, eX4_findRooms_22, eX4_findRooms_25, eX4_findRooms_28, eX4_findRooms_29, eX4_findRooms_31, eX4_findRooms_32, eX4_findRooms_33, eX4_findRooms_36, eX4_findRooms_38, eX4_findRooms_40, eX4_findRooms_42, eX4_findRooms_45, eX4_findRooms_46, eX4_findRooms_47, eX4_findRooms_49, eX4_findRooms_51, eX4_findRooms_52, eX4_findRooms_53, eX4_findRooms_54, eX4_findRooms_55, eX4_findRooms_58, eX4_findRooms_59, eX4_findRooms_62, eX4_findRooms_63, eX4_findRooms_66, eX4_findRooms_68, eX4_findRooms_69, eX4_findRooms_70, eX4_findRooms_71, eX4_findRooms_74, eX4_findRooms_75, eX4_findRooms_76, eX4_findRooms_79, eX4_findRooms_82, eX4_findRooms_85, Int.cast_ofNat_Int, Nat.reduceLT, Nat.reduceLeDiff, Nat.reduceEqDiff, Nat.reduceAdd, Nat.reduceMul, Int.reduceLE, Int.reduceLT, Int.reduceEq, not_false_iff, nlr, Nat.zero_add, Nat.add_zero, e10f, e01f, eq_self, true_and, and_true, false_and, and_false, and_self, decide_true, decide_false, mm_bd_i, mm_bd_v, if_true, if_false, not_true_eq_false, not_false_eq_true, nI_1, Bool.true_eq_false, Bool.false_eq_true, bI_0, n_le0, n_0lt, n_lt0, n_0le, n_eq0, n_eqm, n_eq1, n_le1, n_1lt, n_1le, n_lt1, nn_le, nI_ltI, nI_eq, nI_clamp, nI_add, pk_mul, i_eq0, i_eqm, i_0le, i_le0, i_0lt, i_lt0, i_mle, i_ltm, ii_le, iI_lt, iI_eq, ni_le, ni_lt, ni_eq, in_le, in_lt, in_eq, ni_add, in_add, ni_sub, in_sub, ni_mul, in_mul, iI_add, iI_sub, iI_mul, i_p1, iI_neg, n_neg, hc, ha]
  obtain ⟨F', L', k1, k2, k3, k4, k5⟩ := l 0 (by omega) (mm_up2 F 7 1 (.int (nI 0))) L fl uu uu (by rw [up_k _ _ _ _ (by decide)]; exact h0) (up_s _ _ _ _) (fun r hr => absurd hr (by simp [rmF])) (fun a ha => by rw [hf a ha]; simp [rmF])
  refine ⟨F', L', ?_, k2, k3, fun x j q => by rw [k4 x j q]; unfold mm_up2; rw [if_neg q], k5⟩
  rw [← k1]
  simp (disch := first | assumption | exact bI_or _ | exact zOK_O hz (by decide) (by decide) rfl | exact zOK_T hz (by decide) (by decide) rfl | (refine ix (zOK_l hz (by decide) (by decide) rfl) ?_; omega) | decide | omega) only [eX4_findRooms_0, eX4_findRooms_1, eX4_findRooms_2, eX4_findRooms_5, eX4_findRooms_6, eX4_findRooms_8, eX4_findRooms_9, eX4_findRooms_13, eX4_findRooms_15, eX4_findRooms_18, eX4_findRooms_20, eX4_findRooms_22, eX4_findRooms_25, eX4_findRooms_28, eX4_findRooms_29, eX4_findRooms_31, eX4_findRooms_32, eX4_findRooms_33, eX4_findRooms_36, eX4_findRooms_38, eX4_findRooms_40, eX4_findRooms_42, eX4_findRooms_45, eX4_findRooms_46, eX4_findRooms_47, eX4_findRooms_49, eX4_findRooms_51, eX4_findRooms_52, eX4_findRooms_53, eX4_findRooms_54, eX4_findRooms_55, eX4_findRooms_58, eX4_findRooms_59, eX4_findRooms_62, eX4_findRooms_63, eX4_findRooms_66, eX4_findRooms_68, eX4_findRooms_69, eX4_findRooms_70, eX4_findRooms_71, eX4_findRooms_74, eX4_findRooms_75, eX4_findRooms_76, eX4_findRooms_79, eX4_findRooms_82, eX4_findRooms_85, Int.cast_ofNat_Int, Nat.reduceLT, Nat.reduceLeDiff, Nat.reduceEqDiff, Nat.reduceAdd, Nat.reduceMul, Int.reduceLE, Int.reduceLT, Int.reduceEq, not_false_iff, nlr, Nat.zero_add, Nat.add_zero, e10f, e01f, eq_self, true_and, and_true, false_and, and_false, and_self, decide_true, decide_false, mm_bd_i, mm_bd_v, if_true, if_false, not_true_eq_false, not_false_eq_true, nI_1, Bool.true_eq_false, Bool.false_eq_true, bI_0, n_le0, n_0lt, n_lt0, n_0le, n_eq0, n_eqm, n_eq1, n_le1, n_1lt, n_1le, n_lt1, nn_le, nI_ltI, nI_eq, nI_clamp, nI_add, pk_mul, i_eq0, i_eqm, i_0le, i_le0, i_0lt, i_lt0, i_mle, i_ltm, ii_le, iI_lt, iI_eq, ni_le, ni_lt, ni_eq, in_le, in_lt, in_eq, ni_add, in_add, ni_sub, in_sub, ni_mul, in_mul, iI_add, iI_sub, iI_mul, i_p1, iI_neg, n_neg]
  rfl
/-- the plan as the class holds it -/
def cPn (K : Nat → Nat) (F : Nat → Nat → Value) (L : Nat → Nat → Int64) : Prop := (∃ h, F 7 2 = .long h ∧ ∀ a, a < 64 → lb h a = decide (K a = 2)) ∧ F 7 3 = .long (lOr (drC K) 64) ∧ F 7 1 = .int (nI (rN K)) ∧ ∀ r, r < rN K → L 8 r = rS K r
theorem lOr_eq {f : Nat → Bool} {x : Int64} (h : ∀ a, a < 64 → lb x a = f a) : x = lOr f 64 := by
  apply lb_ext
  intro a ha
  rw [h a ha, lb_lOr f a 64 (Nat.le_refl _), decide_eq_true ha, Bool.true_and]
theorem cl4_4 (K : Nat → Nat) (a : Nat) : cl4 K a 4 = (((clS K a 0 && clS K a 1) && clS K a 2) && clS K a 3) := by simp [cl4]
theorem lb_open (K : Nat → Nat) (h e : Int64) (hh : ∀ a, a < 64 → lb h a = decide (K a = 2)) (he : ∀ a, a < 64 → lb e a = decide (K a = 1)) {a : Nat} (ha : a < 64) : lb (besL ((h ||| e) ^^^ -1) ||| -35604928818740737) a = !cl4 K a 4 := by
  rw [lb_or, lb_bes _ ha, lb_bd a ha]
  have key : ∀ k, clS K a k = (decide (¬ bsI a k = -1) && !nbB (lb ((h ||| e) ^^^ -1)) a k) := by
    intro k
    have b := bsI_b a k
    unfold clS nbB
    by_cases c : bsI a k = -1
    · simp [c]
    · have hb : (bsI a k).toNat < 64 := by omega
      rw [lb_not _ hb, lb_or, hh _ hb, he _ hb]
      simp [c]
      by_cases q1 : K (bsI a k).toNat = 1 <;> by_cases q2 : K (bsI a k).toNat = 2 <;> simp [q1, q2]
  have bd : decide (a < 8 ∨ 56 ≤ a ∨ a % 8 = 0 ∨ a % 8 = 7) = (decide (bsI a 0 = -1) || decide (bsI a 1 = -1) || decide (bsI a 2 = -1) || decide (bsI a 3 = -1)) := by
    rw [bs0, bs1, bs2, bs3, Bool.eq_iff_iff]
    simp only [Bool.or_eq_true, decide_eq_true_eq]
    (repeat' split) <;> omega
  rw [cl4_4, key 0, key 1, key 2, key 3, bd]
  unfold nbA
  generalize nbB (lb ((h ||| e) ^^^ -1)) a 0 = n0
  generalize nbB (lb ((h ||| e) ^^^ -1)) a 1 = n1
  generalize nbB (lb ((h ||| e) ^^^ -1)) a 2 = n2
  generalize nbB (lb ((h ||| e) ^^^ -1)) a 3 = n3
  rw [decide_not, decide_not, decide_not, decide_not]
  generalize decide (bsI a 0 = -1) = d0
  generalize decide (bsI a 1 = -1) = d1
  generalize decide (bsI a 2 = -1) = d2
  generalize decide (bsI a 3 = -1) = d3
  cases d0 <;> cases d1 <;> cases d2 <;> cases d3 <;> cases n0 <;> cases n1 <;> cases n2 <;> cases n3 <;> rfl
theorem cPl_survey (d : Nat) (z : mm_Z) (F : Nat → Nat → Value) (I : Nat → Nat → Int32) (L : Nat → Nat → Int64) (K : Nat → Nat) (hz : zOK z) (h0 : F 7 0 = .ref 8) (h e : Int64) (hh : ∀ a, a < 64 → lb h a = decide (K a = 2)) (he : ∀ a, a < 64 → lb e a = decide (K a = 1)) : ∃ F' L', mm_E (d + 3) mX4_survey 0 [.ref 7, .long h, uu, .long e, uu] [] (z, F, I, L) = some (none, (z, F', I, L')) ∧ cPn K F' L' ∧ (∀ x j, ¬ (x = 7 ∧ 1 ≤ j ∧ j ≤ 3) → F' x j = F x j) ∧ ∀ x, ¬ x = 8 → L' x = L x := by
  have dr : ∀ a, a < 64 → lb (e &&& btwL h) a = drC K a := fun a ha => lb_door K h e hh he ha
  have hf : ∀ a, a < 64 → lb (e &&& ((e &&& btwL h) ^^^ -1)) a = flB K a := fun a ha => by rw [lb_and, lb_not _ ha, dr a ha, he a ha]; rfl
  obtain ⟨F', L', k1, k2, k3, k4, k5⟩ := cPl_findRooms d z (mm_up2 (mm_up2 F 7 2 (.long h)) 7 3 (.long (e &&& btwL h))) I L K hz (by rw [up_k _ _ _ _ (by decide), up_k _ _ _ _ (by decide)]; exact h0) _ _ hf (fun a ha => lb_open K h e hh he ha)
  refine ⟨F', L', ?_, ⟨⟨h, ?_, hh⟩, ?_, k2, k3⟩, fun x j q => ?_, k5⟩
  · simp (disch := first | assumption | exact bI_or _ | exact zOK_O hz (by decide) (by decide) rfl | exact zOK_T hz (by decide) (by decide) rfl | (refine ix (zOK_l hz (by decide) (by decide) rfl) ?_; omega) | decide | omega) only [eX4_survey_0, eX4_survey_1, eX4_survey_2, eX4_survey_5, eX4_survey_6, eX4_survey_7, eX4_survey_8, eX4_survey_11, eX4_survey_12, eX4_survey_15, eX4_survey_16, eX4_survey_17, eX4_survey_18, eX4_survey_21, eX4_survey_24, eX4_survey_25, eX4_survey_26, eX4_survey_27, eX4_survey_28, eX4_survey_29, eX4_survey_32, eX4_survey_33, eX4_survey_36, eX4_survey_39, eX4_survey_40, eX4_survey_43, Int.cast_ofNat_Int, Nat.reduceLT, Nat.reduceLeDiff, Nat.reduceEqDiff, Nat.reduceAdd, Nat.reduceMul, Int.reduceLE, Int.reduceLT, Int.reduceEq, not_false_iff, nlr, Nat.zero_add, Nat.add_zero, e10f, e01f, eq_self, true_and, and_true, false_and, and_false, and_self, decide_true, decide_false, mm_bd_i, mm_bd_v, if_true, if_false, not_true_eq_false, not_false_eq_true, nI_1, Bool.true_eq_false, Bool.false_eq_true, bI_0, n_le0, n_0lt, n_lt0, n_0le, n_eq0, n_eqm, n_eq1, n_le1, n_1lt, n_1le, n_lt1, nn_le, nI_ltI, nI_eq, nI_clamp, nI_add, pk_mul, i_eq0, i_eqm, i_0le, i_le0, i_0lt, i_lt0, i_mle, i_ltm, ii_le, iI_lt, iI_eq, ni_le, ni_lt, ni_eq, in_le, in_lt, in_eq, ni_add, in_add, ni_sub, in_sub, ni_mul, in_mul, iI_add, iI_sub, iI_mul, i_p1, iI_neg, n_neg, cPl_between, cPl_beside, up_s, k1]
  · rw [k4 _ _ (by omega), up_k _ _ _ _ (by decide), up_s]
  · rw [k4 _ _ (by omega), up_s, lOr_eq dr]
  · rw [k4 x j (by omega)]
    unfold mm_up2
    rw [if_neg (by omega), if_neg (by omega)]
