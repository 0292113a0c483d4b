/-! the class's plan: cells beside cells; regions -/
theorem lb_nL : ∀ a, a < 64 → lb (-72340172838076674) a = decide (¬ a % 8 = 0) := by decide +kernel
theorem lb_nR : ∀ a, a < 64 → lb 9187201950435737471 a = decide (¬ a % 8 = 7) := by decide +kernel
theorem lb_bd : ∀ a, a < 64 → lb (-35604928818740737) a = decide (a < 8 ∨ 56 ≤ a ∨ a % 8 = 0 ∨ a % 8 = 7) := by decide +kernel
/-- whether the cell beside a on side k is one of these -/
def nbB (f : Nat → Bool) (a k : Nat) : Bool := decide (¬ bsI a k = -1) && f (bsI a k).toNat
def nbA (f : Nat → Bool) (a : Nat) : Bool := nbB f a 2 || nbB f a 0 || nbB f a 3 || nbB f a 1
theorem bs0 (a : Nat) : bsI a 0 = if a % 8 = 7 then -1 else if 64 ≤ a then -1 else (a : Int) + 1 := by
  unfold bsI bsX bsY sdX sdY
  simp only [if_true, show ¬ (0 : Nat) = 1 by decide, show ¬ (0 : Nat) = 3 by decide, if_false]
  (repeat' split) <;> omega
theorem bs2 (a : Nat) : bsI a 2 = if a % 8 = 0 then -1 else if 64 ≤ a then -1 else (a : Int) - 1 := by
  unfold bsI bsX bsY sdX sdY
  simp only [if_true, show ¬ (2 : Nat) = 1 by decide, show ¬ (2 : Nat) = 3 by decide, show ¬ (2 : Nat) = 0 by decide, if_false]
  (repeat' split) <;> omega
theorem bs1 (a : Nat) : bsI a 1 = if 56 ≤ a then -1 else (a : Int) + 8 := by
  unfold bsI bsX bsY sdX sdY
  simp only [if_true, show ¬ (1 : Nat) = 2 by decide, show ¬ (1 : Nat) = 3 by decide, show ¬ (1 : Nat) = 0 by decide, if_false]
  (repeat' split) <;> omega
theorem bs3 (a : Nat) : bsI a 3 = if a < 8 then -1 else if 72 ≤ a then -1 else (a : Int) - 8 := by
  unfold bsI bsX bsY sdX sdY
  simp only [if_true, show ¬ (3 : Nat) = 2 by decide, show ¬ (3 : Nat) = 1 by decide, show ¬ (3 : Nat) = 0 by decide, if_false]
  (repeat' split) <;> omega
theorem sh1 : (1 : Int32) = nI 1 := rfl
theorem sbt_r (x : Int64) {a : Nat} (ha : a < 64) : lb (x <<< ((nI 1).toInt64 &&& 63) &&& -72340172838076674) a = nbB (lb x) a 2 := by
  rw [lb_and, lb_shl 1 (by decide) x ha, lb_nL a ha]
  unfold nbB
  rw [bs2]
  by_cases c : a % 8 = 0
  · simp [c]
  · have c2 : 1 ≤ a := by omega
    have c3 : ¬ 64 ≤ a := by omega
    have c4 : ¬ ((a : Int) - 1 = -1) := by omega
    have c5 : ((a : Int) - 1).toNat = a - 1 := by omega
    simp [c, c2, c3, c4, c5]
theorem sbt_l (x : Int64) {a : Nat} (ha : a < 64) : lb ((x.toUInt64 >>> ((nI 1).toInt64.toUInt64 &&& Int64.toUInt64 63)).toInt64 &&& 9187201950435737471) a = nbB (lb x) a 0 := by
  rw [lb_and, lb_ushr 1 (by decide), lb_nR a ha]
  unfold nbB
  rw [bs0]
  by_cases c : a % 8 = 7
  · simp [c]
  · have c3 : ¬ 64 ≤ a := by omega
    have c4 : ¬ ((a : Int) + 1 = -1) := by omega
    have c5 : ((a : Int) + 1).toNat = 1 + a := by omega
    simp [c, c3, c4, c5]
theorem sbt_b (x : Int64) {a : Nat} (ha : a < 64) : lb (x <<< ((nI 8).toInt64 &&& 63)) a = nbB (lb x) a 3 := by
  rw [lb_shl 8 (by decide) x ha]
  unfold nbB
  rw [bs3]
  by_cases c : a < 8
  · have : ¬ 8 ≤ a := by omega
    simp [c, this]
  · have c2 : 8 ≤ a := by omega
    have c3 : ¬ 72 ≤ a := by omega
    have c4 : ¬ ((a : Int) - 8 = -1) := by omega
    have c5 : ((a : Int) - 8).toNat = a - 8 := by omega
    simp [c, c2, c3, c4, c5]
theorem sbt_a (x : Int64) {a : Nat} (ha : a < 64) : lb ((x.toUInt64 >>> ((nI 8).toInt64.toUInt64 &&& Int64.toUInt64 63)).toInt64) a = nbB (lb x) a 1 := by
  rw [lb_ushr 8 (by decide)]
  unfold nbB
  rw [bs1]
  by_cases c : 56 ≤ a
  · rw [if_pos c, lb_big (by omega)]; simp
  · have c4 : ¬ ((a : Int) + 8 = -1) := by omega
    have c5 : ((a : Int) + 8).toNat = 8 + a := by omega
    simp [c, c4, c5]
def besL (x : Int64) : Int64 := x <<< ((nI 1).toInt64 &&& 63) &&& -72340172838076674 ||| (x.toUInt64 >>> ((nI 1).toInt64.toUInt64 &&& Int64.toUInt64 63)).toInt64 &&& 9187201950435737471 ||| x <<< ((nI 8).toInt64 &&& 63) ||| (x.toUInt64 >>> ((nI 8).toInt64.toUInt64 &&& Int64.toUInt64 63)).toInt64
theorem lb_bes (x : Int64) {a : Nat} (ha : a < 64) : lb (besL x) a = nbA (lb x) a := by
  unfold besL nbA
  rw [lb_or, lb_or, lb_or, sbt_r x ha, sbt_l x ha, sbt_b x ha, sbt_a x ha]
theorem cPl_beside (d : Nat) (z : mm_Z) (F : Nat → Nat → Value) (I : Nat → Nat → Int32) (L : Nat → Nat → Int64) (x : Int64) : mm_E d mX4_beside 0 [.long x, uu] [] (z, F, I, L) = some (some (.long (besL x)), (z, F, I, L)) := by
  simp (disch := first | assumption | exact bI_or _ | exact zOK_O hz (by decide) (by decide) rfl | exact zOK_T hz (by decide) (by decide) rfl | (refine ix (zOK_l hz (by decide) (by decide) rfl) ?_; omega) | decide | omega) only [eX4_beside_0, eX4_beside_1, eX4_beside_2, eX4_beside_3, eX4_beside_6, eX4_beside_7, eX4_beside_8, eX4_beside_9, eX4_beside_10, eX4_beside_13, eX4_beside_14, eX4_beside_15, eX4_beside_16, eX4_beside_18, eX4_beside_19, eX4_beside_20, eX4_beside_21, eX4_beside_23, eX4_beside_24, eX4_beside_25]
  rfl
def btwL (x : Int64) : Int64 :=
  (x <<< ((nI 1).toInt64 &&& 63) &&& -72340172838076674) &&& ((x.toUInt64 >>> ((nI 1).toInt64.toUInt64 &&& Int64.toUInt64 63)).toInt64 &&& 9187201950435737471) &&& ((x <<< ((nI 8).toInt64 &&& 63) ||| (x.toUInt64 >>> ((nI 8).toInt64.toUInt64 &&& Int64.toUInt64 63)).toInt64) ^^^ -1) ||| (x <<< ((nI 8).toInt64 &&& 63)) &&& (x.toUInt64 >>> ((nI 8).toInt64.toUInt64 &&& Int64.toUInt64 63)).toInt64 &&& ((x <<< ((nI 1).toInt64 &&& 63) &&& -72340172838076674 ||| (x.toUInt64 >>> ((nI 1).toInt64.toUInt64 &&& Int64.toUInt64 63)).toInt64 &&& 9187201950435737471) ^^^ -1)
theorem cPl_between (d : Nat) (z : mm_Z) (F : Nat → Nat → Value) (I : Nat → Nat → Int32) (L : Nat → Nat → Int64) (x : Int64) : mm_E d mX4_betweenTwo 0 [.long x, uu, uu, uu, uu, uu, uu, uu, uu, uu] [] (z, F, I, L) = some (some (.long (btwL x)), (z, F, I, L)) := by
  simp (disch := first | assumption | exact bI_or _ | exact zOK_O hz (by decide) (by decide) rfl | exact zOK_T hz (by decide) (by decide) rfl | (refine ix (zOK_l hz (by decide) (by decide) rfl) ?_; omega) | decide | omega) only [eX4_betweenTwo_0, eX4_betweenTwo_1, eX4_betweenTwo_2, eX4_betweenTwo_3, eX4_betweenTwo_6, eX4_betweenTwo_7, eX4_betweenTwo_8, eX4_betweenTwo_9, eX4_betweenTwo_10, eX4_betweenTwo_11, eX4_betweenTwo_14, eX4_betweenTwo_15, eX4_betweenTwo_17, eX4_betweenTwo_18, eX4_betweenTwo_20, eX4_betweenTwo_21, eX4_betweenTwo_23, eX4_betweenTwo_24, eX4_betweenTwo_26, eX4_betweenTwo_27, eX4_betweenTwo_29, eX4_betweenTwo_30, eX4_betweenTwo_32, eX4_betweenTwo_33, eX4_betweenTwo_35, eX4_betweenTwo_37, eX4_betweenTwo_38, eX4_betweenTwo_41, eX4_betweenTwo_42, eX4_betweenTwo_43, eX4_betweenTwo_45, eX4_betweenTwo_47, eX4_betweenTwo_48, eX4_betweenTwo_49, eX4_betweenTwo_51, eX4_betweenTwo_52, eX4_betweenTwo_55, eX4_betweenTwo_56, eX4_betweenTwo_57, eX4_betweenTwo_58]
  rfl
theorem lb_btw (x : Int64) {a : Nat} (ha : a < 64) : lb (btwL x) a = (((nbB (lb x) a 0 && nbB (lb x) a 2) && (!nbB (lb x) a 1 && !nbB (lb x) a 3)) || ((nbB (lb x) a 1 && nbB (lb x) a 3) && (!nbB (lb x) a 0 && !nbB (lb x) a 2))) := by
  unfold btwL
  rw [lb_or, lb_and, lb_not _ ha, lb_or]
  rw [lb_and (x <<< ((nI 1).toInt64 &&& 63) &&& -72340172838076674), sbt_r x ha, sbt_l x ha, sbt_b x ha, sbt_a x ha]
  rw [lb_and (x <<< ((nI 8).toInt64 &&& 63) &&& (x.toUInt64 >>> ((nI 8).toInt64.toUInt64 &&& Int64.toUInt64 63)).toInt64), lb_and, lb_not _ ha, lb_or, sbt_r x ha, sbt_l x ha, sbt_b x ha, sbt_a x ha]
  cases nbB (lb x) a 0 <;> cases nbB (lb x) a 1 <;> cases nbB (lb x) a 2 <;> cases nbB (lb x) a 3 <;> rfl
theorem hb_nbB (K : Nat → Nat) (x : Int64) (hx : ∀ a, a < 64 → lb x a = decide (K a = 2)) (a k : Nat) : hb K a k = nbB (lb x) a k := by
  have b := bsI_b a k
  unfold hb nbB
  by_cases c : bsI a k = -1
  · simp [c]
  · rw [hx _ (by omega)]
    simp [c]
/-- the doors of kinds K -/
theorem lb_door (K : Nat → Nat) (h e : Int64) (hh : ∀ a, a < 64 → lb h a = decide (K a = 2)) (he : ∀ a, a < 64 → lb e a = decide (K a = 1)) {a : Nat} (ha : a < 64) : lb (e &&& btwL h) a = drC K a := by
  rw [lb_and, he a ha, lb_btw h ha]
  unfold drC
  rw [hb_nbB K h hh, hb_nbB K h hh, hb_nbB K h hh, hb_nbB K h hh]
/-- a set is closed: who is beside one of it and may be in it is -/
def clo (f T : Nat → Bool) : Prop := ∀ a, a < 64 → f a = true → nbA T a = true → T a = true
/-- the region of s among f -/
def cmp (f : Nat → Bool) (s : Nat) (R : Int64) : Prop := lb R s = true ∧ clo f (lb R) ∧ ∀ T : Nat → Bool, T s = true → clo f T → ∀ a, a < 64 → lb R a = true → T a = true
theorem cmp_uniq {f : Nat → Bool} {s : Nat} {R R' : Int64} (h : cmp f s R) (h' : cmp f s R') : R = R' := by
  apply lb_ext
  intro a ha
  rw [Bool.eq_iff_iff]
  exact ⟨h.2.2 _ h'.1 h'.2.1 a ha, h'.2.2 _ h.1 h.2.1 a ha⟩
theorem nbA_mono {T T' : Nat → Bool} (h : ∀ a, a < 64 → T a = true → T' a = true) (a : Nat) (g : nbA T a = true) : nbA T' a = true := by
  have key : ∀ k, nbB T a k = true → nbB T' a k = true := by
    intro k q
    have b := bsI_b a k
    unfold nbB at *
    rw [Bool.and_eq_true, decide_eq_true_eq] at *
    exact ⟨q.1, h _ (by omega) q.2⟩
  unfold nbA at *
  simp only [Bool.or_eq_true] at *
  rcases g with ((q | q) | q) | q
  · exact Or.inl (Or.inl (Or.inl (key 2 q)))
  · exact Or.inl (Or.inl (Or.inr (key 0 q)))
  · exact Or.inl (Or.inr (key 3 q))
  · exact Or.inr (key 1 q)
theorem cnt_mono {f g : Nat → Bool} (h : ∀ a, a < 64 → f a = true → g a = true) : cnt f ≤ cnt g := sumT_mono 64 (fun j hj => by
  by_cases e : f j = true
  · rw [if_pos e, if_pos (h j hj e)]; exact Nat.le_refl _
  · rw [if_neg e]; exact Nat.zero_le _)
theorem cnt_lt {f g : Nat → Bool} (h : ∀ a, a < 64 → f a = true → g a = true) {i : Nat} (hi : i < 64) (h1 : f i = false) (h2 : g i = true) : cnt f < cnt g := by
  have e : cnt f + 1 ≤ cnt g := by
    have : cnt f + sumT (fun m => if m = i then 1 else 0) 64 ≤ cnt g := by
      unfold cnt
      rw [← sumT_add]
      apply sumT_mono
      intro j hj
      by_cases q : j = i
      · subst q; rw [h1, if_pos rfl, if_pos h2]; simp
      · rw [if_neg q]
        by_cases e : f j = true
        · rw [if_pos e, if_pos (h j hj e)]; exact Nat.le_refl _
        · rw [if_neg e]; exact Nat.zero_le _
    rw [sumT_one, if_pos hi] at this
    exact this
  omega
theorem cPl_spread (d : Nat) (z : mm_Z) (F : Nat → Nat → Value) (I : Nat → Nat → Int32) (L : Nat → Nat → Int64) (s : Nat) (hs : s < 64) (f : Nat → Bool) (fl : Int64) (hf : ∀ a, a < 64 → lb fl a = f a) : ∃ R, mm_E (d + 1) mX4_spreadFrom 0 [.long (b1 s), uu, .long fl, uu, uu, uu, uu, uu, uu] [] (z, F, I, L) = some (some (.long R), (z, F, I, L)) ∧ cmp f s R := by
  have be := fun d' x => cPl_beside d' z F I L x
  have l : ∀ k, k ≤ 64 → ∀ (S : Int64) (a7 : Value), lb S s = true → (∀ T : Nat → Bool, T s = true → clo f T → ∀ a, a < 64 → lb S a = true → T a = true) → k + 1 ≤ cnt (lb S) → ∃ R, mm_E (d + 1) mX4_spreadFrom 6 [.long (b1 s), uu, .long fl, uu, .long S, uu, .int (nI k), a7, uu] [] (z, F, I, L) = some (some (.long R), (z, F, I, L)) ∧ cmp f s R := by
    apply lp
    · intro S a7 _ _ hc
      have := cnt_le (lb S)
      omega
    · intro k hk ih S a7 h1 h2 hc
      have wid : ∀ a, a < 64 → lb (S ||| besL S &&& fl) a = (lb S a || (nbA (lb S) a && f a)) := by
        intro a ha
        rw [lb_or, lb_and, lb_bes S ha, hf a ha]
      by_cases c : (S ||| besL S &&& fl) = S
      · refine ⟨S, ?_, h1, ?_, h2⟩
        · rw [eX4_spreadFrom_6]
          simp (disch := first | assumption | exact bI_or _ | exact zOK_O hz (by decide) (by decide) rfl | exact zOK_T hz (by decide) (by decide) rfl | (refine ix (zOK_l hz (by decide) (by decide) rfl) ?_; omega) | decide | omega) only [eX4_spreadFrom_0, eX4_spreadFrom_1, eX4_spreadFrom_3, eX4_spreadFrom_4, eX4_spreadFrom_8, eX4_spreadFrom_10, eX4_spreadFrom_13, eX4_spreadFrom_15, eX4_spreadFrom_17, eX4_spreadFrom_20, eX4_spreadFrom_21, eX4_spreadFrom_22, eX4_spreadFrom_23, eX4_spreadFrom_25, eX4_spreadFrom_27, eX4_spreadFrom_29, eX4_spreadFrom_30, eX4_spreadFrom_33, eX4_spreadFrom_35, eX4_spreadFrom_36, eX4_spreadFrom_38, eX4_spreadFrom_40, eX4_spreadFrom_43, eX4_spreadFrom_46, eX4_spreadFrom_48, Int.cast_ofNat_Int, Nat.reduceLT, Nat.reduceLeDiff, Nat.reduceEqDiff, Nat.reduceAdd, Nat.reduceMul, Int.reduceLE, Int.reduceLT, Int.reduceEq, not_false_iff, nlr, Nat.zero_add, Nat.add_zero, e10f, e01f, eq_self, true_and, and_true, false_and, and_false, and_self, decide_true, decide_false, mm_bd_i, mm_bd_v, if_true, if_false, not_true_eq_false, not_false_eq_true, nI_1, Bool.true_eq_false, Bool.false_eq_true, bI_0, n_le0, n_0lt, n_lt0, n_0le, n_eq0, n_eqm, n_eq1, n_le1, n_1lt, n_1le, n_lt1, nn_le, nI_ltI, nI_eq, nI_clamp, nI_add, pk_mul, i_eq0, i_eqm, i_0le, i_le0, i_0lt, i_lt0, i_mle, i_ltm, ii_le, iI_lt, iI_eq, ni_le, ni_lt, ni_eq, in_le, in_lt, in_eq, ni_add, in_add, ni_sub, in_sub, ni_mul, in_mul, iI_add, iI_sub, iI_mul, i_p1, iI_neg, n_neg, hk, be, c, lg_cmp_eq]
        · intro a ha g1 g2
          have := wid a ha
          rw [c, g1, g2] at this
          rw [this]; simp
      · have inc : ∀ a, a < 64 → lb S a = true → lb (S ||| besL S &&& fl) a = true := fun a ha g => by rw [wid a ha, g]; rfl
        have more : k + 1 + 1 ≤ cnt (lb (S ||| besL S &&& fl)) := by
          have : ∃ i, i < 64 ∧ lb S i = false ∧ lb (S ||| besL S &&& fl) i = true := by
            apply Classical.byContradiction
            intro hn
            apply c
            apply lb_ext
            intro i hi
            cases e : lb S i with
            | true => exact inc i hi e
            | false =>
              cases e2 : lb (S ||| besL S &&& fl) i with
              | false => rfl
              | true => exact absurd ⟨i, hi, e, e2⟩ hn
          obtain ⟨i, i1, i2, i3⟩ := this
          have := cnt_lt inc i1 i2 i3
          omega
        obtain ⟨R, k1, k2⟩ := ih (S ||| besL S &&& fl) (.long (S ||| besL S &&& fl)) (inc s hs h1) (fun T t1 t2 a ha g => by
          rw [wid a ha] at g
          rcases Bool.or_eq_true _ _ ▸ g with q | q
          · exact h2 T t1 t2 a ha q
          · rw [Bool.and_eq_true] at q
            exact t2 a ha q.2 (nbA_mono (fun b hb g => h2 T t1 t2 b hb g) a q.1)) more
        refine ⟨R, ?_, k2⟩
        rw [← k1, eX4_spreadFrom_6]
        simp (disch := first | assumption | exact bI_or _ | exact zOK_O hz (by decide) (by decide) rfl | exact zOK_T hz (by decide) (by decide) rfl | (refine ix (zOK_l hz (by decide) (by decide) rfl) ?_; omega) | decide | omega) only [eX4_spreadFrom_0, eX4_spreadFrom_1, eX4_spreadFrom_3, eX4_spreadFrom_4, eX4_spreadFrom_8, eX4_spreadFrom_10, eX4_spreadFrom_13, eX4_spreadFrom_15, eX4_spreadFrom_17, eX4_spreadFrom_20, eX4_spreadFrom_21, eX4_spreadFrom_22, eX4_spreadFrom_23, eX4_spreadFrom_25, eX4_spreadFrom_27, eX4_spreadFrom_29, eX4_spreadFrom_30, eX4_spreadFrom_33, eX4_spreadFrom_35, eX4_spreadFrom_36, eX4_spreadFrom_38, eX4_spreadFrom_40, eX4_spreadFrom_43, eX4_spreadFrom_46, eX4_spreadFrom_48, Int.cast_ofNat_Int, Nat.reduceLT, Nat.reduceLeDiff, Nat.reduceEqDiff, Nat.reduceAdd, Nat.reduceMul, Int.reduceLE, Int.reduceLT, Int.reduceEq, not_false_iff, nlr, Nat.zero_add, Nat.add_zero, e10f, e01f, eq_self, true_and, and_true, false_and, and_false, and_self, decide_true, decide_false, mm_bd_i, mm_bd_v, if_true, if_false, not_true_eq_false, not_false_eq_true, nI_1, Bool.true_eq_false, Bool.false_eq_true, bI_0, n_le0, n_0lt, n_lt0, n_0le, n_eq0, n_eqm, n_eq1, n_le1, n_1lt, n_1le, n_lt1, nn_le, nI_ltI, nI_eq, nI_clamp, nI_add, pk_mul, i_eq0, i_eqm, i_0le, i_le0, i_0lt, i_lt0, i_mle, i_ltm, ii_le, iI_lt, iI_eq, ni_le, ni_lt, ni_eq, in_le, in_lt, in_eq, ni_add, in_add, ni_sub, in_sub, ni_mul, in_mul, iI_add, iI_sub, iI_mul, i_p1, iI_neg, n_neg, hk, be, c, lg_cmp_eq]
  have c1 : 0 + 1 ≤ cnt (lb (b1 s)) := by
    have : cnt (lb 0) < cnt (lb (b1 s)) := cnt_lt (fun a _ g => by rw [lb_0] at g; exact absurd g (by simp)) hs (lb_0 s) (by rw [lb_b1 hs]; simp)
    omega
  obtain ⟨R, k1, k2⟩ := l 0 (by omega) (b1 s) uu (by rw [lb_b1 hs]; simp) (fun T t1 _ a ha g => by
    rw [lb_b1 hs, decide_eq_true_eq] at g
    rw [g]; exact t1) c1
  refine ⟨R, ?_, k2⟩
  rw [← k1]
  simp (disch := first | assumption | exact bI_or _ | exact zOK_O hz (by decide) (by decide) rfl | exact zOK_T hz (by decide) (by decide) rfl | (refine ix (zOK_l hz (by decide) (by decide) rfl) ?_; omega) | decide | omega) only [eX4_spreadFrom_0, eX4_spreadFrom_1, eX4_spreadFrom_3, eX4_spreadFrom_4, eX4_spreadFrom_8, eX4_spreadFrom_10, eX4_spreadFrom_13, eX4_spreadFrom_15, eX4_spreadFrom_17, eX4_spreadFrom_20, eX4_spreadFrom_21, eX4_spreadFrom_22, eX4_spreadFrom_23, eX4_spreadFrom_25, eX4_spreadFrom_27, eX4_spreadFrom_29, eX4_spreadFrom_30, eX4_spreadFrom_33, eX4_spreadFrom_35, eX4_spreadFrom_36, eX4_spreadFrom_38, eX4_spreadFrom_40, eX4_spreadFrom_43, eX4_spreadFrom_46, eX4_spreadFrom_48, Int.cast_ofNat_Int, Nat.reduceLT, Nat.reduceLeDiff, Nat.reduceEqDiff, Nat.reduceAdd, Nat.reduceMul, Int.reduceLE, Int.reduceLT, Int.reduceEq, not_false_iff, nlr, Nat.zero_add, Nat.add_zero, e10f, e01f, eq_self, true_and, and_true, false_and, and_false, and_self, decide_true, decide_false, mm_bd_i, mm_bd_v, if_true, if_false, not_true_eq_false, not_false_eq_true, nI_1, Bool.true_eq_false, Bool.false_eq_true, bI_0, n_le0, n_0lt, n_lt0, n_0le, n_eq0, n_eqm, n_eq1, n_le1, n_1lt, n_1le, n_lt1, nn_le, nI_ltI, nI_eq, nI_clamp, nI_add, pk_mul, i_eq0, i_eqm, i_0le, i_le0, i_0lt, i_lt0, i_mle, i_ltm, ii_le, iI_lt, iI_eq, ni_le, ni_lt, ni_eq, in_le, in_lt, in_eq, ni_add, in_add, ni_sub, in_sub, ni_mul, in_mul, iI_add, iI_sub, iI_mul, i_p1, iI_neg, n_neg]
  rfl
