/-! walls and corners: the reference's side -/
def oS (o s : Nat) : Prop := (o = 0 ∧ s = 1) ∨ (o = 8 ∧ s = 8)
def lnO (o c : Nat) : Nat := if o = 0 then c / 8 else c % 8
def atO (o c : Nat) : Nat := if o = 0 then c % 8 else c / 8
theorem co_s {o s l a : Nat} (h : oS o s) (hl : l < 8) (j : Nat) : cO (o + l) a + s * j = cO (o + l) (a + j) := by
  unfold cO
  rcases h with ⟨rfl, rfl⟩ | ⟨rfl, rfl⟩
  · rw [if_pos (by omega), if_pos (by omega)]; omega
  · rw [if_neg (by omega), if_neg (by omega)]; omega
theorem co_at {o s l a c : Nat} (h : oS o s) (hl : l < 8) (ha : a < 8) (hc : c < 64) : c = cO (o + l) a ↔ lnO o c = l ∧ atO o c = a := by
  unfold cO lnO atO
  rcases h with ⟨rfl, rfl⟩ | ⟨rfl, rfl⟩
  · rw [if_pos (by omega), if_pos rfl, if_pos rfl]; omega
  · rw [if_neg (by omega), if_neg (by omega), if_neg (by omega)]; omega
theorem fw_len (d : Nat) (z : mm_Z) (F : Nat → Nat → Value) (I : Nat → Nat → Int32) (L : Nat → Nat → Int64) (hz : zOK z) (hF : FixM F) (K : Nat → Nat) (hK : ∀ c, c < 64 → I 127 c = nI (K c) ∧ K c ≤ 3) (o s l a : Nat) (h : oS o s) (hl : l < 8) (ha : a < 8) (R : Int64) (a8 : Value) : ∀ j, j ≤ 8 - a → rnA K (o + l) a = j + rnA K (o + l) (a + j) → mm_E d mX11_findWalls 51 [.ref 120, .int (nI s), .long R, uu, .int (nI l), .int (nI a), .int (nI (cO (o + l) a)), .int (nI j), a8] [] (z, F, I, L) = mm_E d mX11_findWalls 83 [.ref 120, .int (nI s), .long R, uu, .int (nI l), .int (nI a), .int (nI (cO (o + l) a)), .int (nI (rnA K (o + l) a)), a8] [] (z, F, I, L) := by
  have hs : s ≤ 8 := by rcases h with ⟨_, e⟩ | ⟨_, e⟩ <;> omega
  have hol : o + l < 16 := by rcases h with ⟨e, _⟩ | ⟨e, _⟩ <;> omega
  apply lp
  · intro e
    have c : ¬ a + (8 - a) < 8 := by omega
    rw [rnA_n (hO_n K (o + l) (show ¬ a + (8 - a) < 8 by omega))] at e
    rw [e, eX11_findWalls_51]
    simp (disch := first | assumption | exact bI_or _ | exact zOK_O hz (by decide) (by decide) rfl | exact zOK_T hz (by decide) (by decide) rfl | (refine ix (zOK_l hz (by decide) (by decide) rfl) ?_; omega) | decide | omega) only [eX11_findWalls_53, eX11_findWalls_55, eX11_findWalls_56, eX11_findWalls_58, eX11_findWalls_61, eX11_findWalls_62, eX11_findWalls_65, eX11_findWalls_67, eX11_findWalls_68, eX11_findWalls_70, eX11_findWalls_71, eX11_findWalls_72, eX11_findWalls_73, eX11_findWalls_74, eX11_findWalls_77, eX11_findWalls_80, Int.cast_ofNat_Int, Nat.reduceLT, Nat.reduceLeDiff, Nat.reduceEqDiff, Nat.reduceAdd, Nat.reduceMul, Int.reduceLE, Int.reduceLT, Int.reduceEq, not_false_iff, nlr, Nat.zero_add, Nat.add_zero, e10f, e01f, eq_self, true_and, and_true, false_and, and_false, and_self, decide_true, decide_false, mm_bd_i, mm_bd_v, if_true, if_false, not_true_eq_false, not_false_eq_true, nI_1, Bool.true_eq_false, Bool.false_eq_true, bI_0, n_le0, n_0lt, n_lt0, n_0le, n_eq0, n_eqm, n_eq1, n_le1, n_1lt, n_1le, n_lt1, nn_le, nI_ltI, nI_eq, nI_clamp, nI_add, pk_mul, i_eq0, i_eqm, i_0le, i_le0, i_0lt, i_lt0, i_mle, i_ltm, ii_le, iI_lt, iI_eq, ni_le, ni_lt, ni_eq, in_le, in_lt, in_eq, ni_add, in_add, ni_sub, in_sub, ni_mul, in_mul, iI_add, iI_sub, iI_mul, i_p1, iI_neg, n_neg, c]
  · intro j hj ih e
    have c : a + j < 8 := by omega
    have cl := cO_lt hol c
    have sj : s * j ≤ 8 * j := Nat.mul_le_mul_right _ hs
    have c0 := cO_lt hol ha
    have kc := hK _ cl
    have ce := co_s (a := a) h hl j
    have ho : hO K (o + l) (a + j) = decide (K (cO (o + l) (a + j)) = 2) := by unfold hO; rw [decide_eq_true c, Bool.true_and]
    rw [eX11_findWalls_51]
    by_cases q : K (cO (o + l) (a + j)) = 2
    · rw [decide_eq_true q] at ho
      rw [← ih (by rw [e, rnA_y ho, Nat.add_assoc a j 1]; omega)]
      simp (disch := first | assumption | exact bI_or _ | exact zOK_O hz (by decide) (by decide) rfl | exact zOK_T hz (by decide) (by decide) rfl | (refine ix (zOK_l hz (by decide) (by decide) rfl) ?_; omega) | decide | omega) only [eX11_findWalls_53, eX11_findWalls_55, eX11_findWalls_56, eX11_findWalls_58, eX11_findWalls_61, eX11_findWalls_62, eX11_findWalls_65, eX11_findWalls_67, eX11_findWalls_68, eX11_findWalls_70, eX11_findWalls_71, eX11_findWalls_72, eX11_findWalls_73, eX11_findWalls_74, eX11_findWalls_77, eX11_findWalls_80, Int.cast_ofNat_Int, Nat.reduceLT, Nat.reduceLeDiff, Nat.reduceEqDiff, Nat.reduceAdd, Nat.reduceMul, Int.reduceLE, Int.reduceLT, Int.reduceEq, not_false_iff, nlr, Nat.zero_add, Nat.add_zero, e10f, e01f, eq_self, true_and, and_true, false_and, and_false, and_self, decide_true, decide_false, mm_bd_i, mm_bd_v, if_true, if_false, not_true_eq_false, not_false_eq_true, nI_1, Bool.true_eq_false, Bool.false_eq_true, bI_0, n_le0, n_0lt, n_lt0, n_0le, n_eq0, n_eqm, n_eq1, n_le1, n_1lt, n_1le, n_lt1, nn_le, nI_ltI, nI_eq, nI_clamp, nI_add, pk_mul, i_eq0, i_eqm, i_0le, i_le0, i_0lt, i_lt0, i_mle, i_ltm, ii_le, iI_lt, iI_eq, ni_le, ni_lt, ni_eq, in_le, in_lt, in_eq, ni_add, in_add, ni_sub, in_sub, ni_mul, in_mul, iI_add, iI_sub, iI_mul, i_p1, iI_neg, n_neg, c, fM_10 hF, ce, kc.1, q]
    · rw [decide_eq_false q] at ho
      rw [rnA_n ho, Nat.add_zero] at e
      rw [e]
      simp (disch := first | assumption | exact bI_or _ | exact zOK_O hz (by decide) (by decide) rfl | exact zOK_T hz (by decide) (by decide) rfl | (refine ix (zOK_l hz (by decide) (by decide) rfl) ?_; omega) | decide | omega) only [eX11_findWalls_53, eX11_findWalls_55, eX11_findWalls_56, eX11_findWalls_58, eX11_findWalls_61, eX11_findWalls_62, eX11_findWalls_65, eX11_findWalls_67, eX11_findWalls_68, eX11_findWalls_70, eX11_findWalls_71, eX11_findWalls_72, eX11_findWalls_73, eX11_findWalls_74, eX11_findWalls_77, eX11_findWalls_80, Int.cast_ofNat_Int, Nat.reduceLT, Nat.reduceLeDiff, Nat.reduceEqDiff, Nat.reduceAdd, Nat.reduceMul, Int.reduceLE, Int.reduceLT, Int.reduceEq, not_false_iff, nlr, Nat.zero_add, Nat.add_zero, e10f, e01f, eq_self, true_and, and_true, false_and, and_false, and_self, decide_true, decide_false, mm_bd_i, mm_bd_v, if_true, if_false, not_true_eq_false, not_false_eq_true, nI_1, Bool.true_eq_false, Bool.false_eq_true, bI_0, n_le0, n_0lt, n_lt0, n_0le, n_eq0, n_eqm, n_eq1, n_le1, n_1lt, n_1le, n_lt1, nn_le, nI_ltI, nI_eq, nI_clamp, nI_add, pk_mul, i_eq0, i_eqm, i_0le, i_le0, i_0lt, i_lt0, i_mle, i_ltm, ii_le, iI_lt, iI_eq, ni_le, ni_lt, ni_eq, in_le, in_lt, in_eq, ni_add, in_add, ni_sub, in_sub, ni_mul, in_mul, iI_add, iI_sub, iI_mul, i_p1, iI_neg, n_neg, c, fM_10 hF, ce, kc.1, q]
theorem fw_mark (d : Nat) (z : mm_Z) (F : Nat → Nat → Value) (I : Nat → Nat → Int32) (L : Nat → Nat → Int64) (hz : zOK z) (o s l a m : Nat) (h : oS o s) (hl : l < 8) (hm : a + m ≤ 8) : ∀ j, j ≤ m → ∀ R : Int64, ∃ R' : Int64, mm_E d mX11_findWalls 132 [.ref 120, .int (nI s), .long R, uu, .int (nI l), .int (nI a), .int (nI (cO (o + l) a)), .int (nI m), .int (nI j)] [] (z, F, I, L) = mm_E d mX11_findWalls 157 [.ref 120, .int (nI s), .long R', uu, .int (nI l), .int (nI a), .int (nI (cO (o + l) a)), .int (nI m), .int (nI m)] [] (z, F, I, L) ∧ ∀ c, c < 64 → lb R' c = (lb R c || decide (lnO o c = l ∧ a + j ≤ atO o c ∧ atO o c < a + m)) := by
  have hs : s ≤ 8 := by rcases h with ⟨_, e⟩ | ⟨_, e⟩ <;> omega
  have hol : o + l < 16 := by rcases h with ⟨e, _⟩ | ⟨e, _⟩ <;> omega
  apply lp
  · intro R
    refine ⟨R, ?_, fun c hc => by rw [decide_eq_false (by omega), Bool.or_false]⟩
    rw [eX11_findWalls_132]
    simp (disch := first | assumption | exact bI_or _ | exact zOK_O hz (by decide) (by decide) rfl | exact zOK_T hz (by decide) (by decide) rfl | (refine ix (zOK_l hz (by decide) (by decide) rfl) ?_; omega) | decide | omega) only [eX11_findWalls_134, eX11_findWalls_136, eX11_findWalls_139, eX11_findWalls_140, eX11_findWalls_141, eX11_findWalls_143, eX11_findWalls_144, eX11_findWalls_146, eX11_findWalls_147, eX11_findWalls_148, eX11_findWalls_149, eX11_findWalls_150, eX11_findWalls_151, eX11_findWalls_154, Int.cast_ofNat_Int, Nat.reduceLT, Nat.reduceLeDiff, Nat.reduceEqDiff, Nat.reduceAdd, Nat.reduceMul, Int.reduceLE, Int.reduceLT, Int.reduceEq, not_false_iff, nlr, Nat.zero_add, Nat.add_zero, e10f, e01f, eq_self, true_and, and_true, false_and, and_false, and_self, decide_true, decide_false, mm_bd_i, mm_bd_v, if_true, if_false, not_true_eq_false, not_false_eq_true, nI_1, Bool.true_eq_false, Bool.false_eq_true, bI_0, n_le0, n_0lt, n_lt0, n_0le, n_eq0, n_eqm, n_eq1, n_le1, n_1lt, n_1le, n_lt1, nn_le, nI_ltI, nI_eq, nI_clamp, nI_add, pk_mul, i_eq0, i_eqm, i_0le, i_le0, i_0lt, i_lt0, i_mle, i_ltm, ii_le, iI_lt, iI_eq, ni_le, ni_lt, ni_eq, in_le, in_lt, in_eq, ni_add, in_add, ni_sub, in_sub, ni_mul, in_mul, iI_add, iI_sub, iI_mul, i_p1, iI_neg, n_neg]
  · intro j hj ih R
    have ha : a + j < 8 := by omega
    have cl := cO_lt hol ha
    have ce := co_s (a := a) h hl j
    have sj : s * j ≤ 8 * j := Nat.mul_le_mul_right _ hs
    have c0 := cO_lt hol (show a < 8 by omega)
    obtain ⟨R', r1, r2⟩ := ih (R ||| 1 <<< ((nI (cO (o + l) (a + j))).toInt64 &&& 63))
    refine ⟨R', ?_, fun c hc => ?_⟩
    · rw [← r1, eX11_findWalls_132]
      simp (disch := first | assumption | exact bI_or _ | exact zOK_O hz (by decide) (by decide) rfl | exact zOK_T hz (by decide) (by decide) rfl | (refine ix (zOK_l hz (by decide) (by decide) rfl) ?_; omega) | decide | omega) only [eX11_findWalls_134, eX11_findWalls_136, eX11_findWalls_139, eX11_findWalls_140, eX11_findWalls_141, eX11_findWalls_143, eX11_findWalls_144, eX11_findWalls_146, eX11_findWalls_147, eX11_findWalls_148, eX11_findWalls_149, eX11_findWalls_150, eX11_findWalls_151, eX11_findWalls_154, Int.cast_ofNat_Int, Nat.reduceLT, Nat.reduceLeDiff, Nat.reduceEqDiff, Nat.reduceAdd, Nat.reduceMul, Int.reduceLE, Int.reduceLT, Int.reduceEq, not_false_iff, nlr, Nat.zero_add, Nat.add_zero, e10f, e01f, eq_self, true_and, and_true, false_and, and_false, and_self, decide_true, decide_false, mm_bd_i, mm_bd_v, if_true, if_false, not_true_eq_false, not_false_eq_true, nI_1, Bool.true_eq_false, Bool.false_eq_true, bI_0, n_le0, n_0lt, n_lt0, n_0le, n_eq0, n_eqm, n_eq1, n_le1, n_1lt, n_1le, n_lt1, nn_le, nI_ltI, nI_eq, nI_clamp, nI_add, pk_mul, i_eq0, i_eqm, i_0le, i_le0, i_0lt, i_lt0, i_mle, i_ltm, ii_le, iI_lt, iI_eq, ni_le, ni_lt, ni_eq, in_le, in_lt, in_eq, ni_add, in_add, ni_sub, in_sub, ni_mul, in_mul, iI_add, iI_sub, iI_mul, i_p1, iI_neg, n_neg, hj, ce]
    · rw [r2 c hc, lb_or, lb_one _ cl, Bool.or_assoc]
      congr 1
      have := co_at (c := c) h hl ha hc
      rw [Bool.eq_iff_iff, Bool.or_eq_true, decide_eq_true_eq, decide_eq_true_eq, decide_eq_true_eq, this]
      omega
def wI (K : Nat → Nat) (p : Nat) (I : Nat → Nat → Int32) : Prop := ∀ l a, a < 8 → 8 * l + a < p → wB K (8 * l + a) = true → I 130 (wN K (8 * l + a)) = nI (wC K l a)
def wR (K : Nat → Nat) (o l a : Nat) (R : Int64) : Prop := ∀ c, c < 64 → lb R c = (decide (lnO o c < l ∨ (lnO o c = l ∧ atO o c < a)) && tri K (o + lnO o c) (atO o c))
def fr13 (F F' : Nat → Nat → Value) : Prop := ∀ r j, ¬ (r = 120 ∧ j = 13) → F' r j = F r j
def fr130 (I I' : Nat → Nat → Int32) : Prop := ∀ x, ¬ x = 130 → I' x = I x
theorem bfO_s (K : Nat → Nat) (l a : Nat) : bfO K l (a + 1) = hO K l a := by unfold bfO; rw [decide_eq_true (by omega), Bool.true_and]; rfl
theorem wB_at (K : Nat → Nat) {l a : Nat} (ha : a < 8) : wB K (8 * l + a) = (!bfO K l a && decide (2 < rnA K l a)) := by
  unfold wB
  rw [show (8 * l + a) / 8 = l by omega, show (8 * l + a) % 8 = a by omega]
/-- no wall begins within a run or right behind it -/
theorem wB_run (K : Nat → Nat) (l a m : Nat) (hm : m = rnA K l a) : ∀ j, j < m → a + j + 1 < 8 → wB K (8 * l + (a + j + 1)) = false := by
  intro j hj h8
  rw [wB_at K h8, bfO_s, (rnA_in K l m a hm).1 j hj]; rfl
theorem wN_run (K : Nat → Nat) (l a m : Nat) (ha : a < 8) (hm : m = rnA K l a) : ∀ j, j ≤ m → wN K (8 * l + min (a + j + 1) 8) = wN K (8 * l + a + 1) := by
  intro j
  induction j with
  | zero => intro _; rw [show min (a + 0 + 1) 8 = a + 1 by omega]; rfl
  | succ j ih =>
    intro hj
    by_cases c : a + j + 1 < 8
    · rw [← ih (by omega), show min (a + (j + 1) + 1) 8 = a + j + 1 + 1 by omega, show min (a + j + 1) 8 = a + j + 1 by omega]
      show wN K (8 * l + (a + j + 1) + 1) = _
      rw [wN, wB_run K l a m hm j (by omega) c, if_neg Bool.false_ne_true]; rfl
    · rw [← ih (by omega), show min (a + (j + 1) + 1) 8 = min (a + j + 1) 8 by omega]
theorem tri_run (K : Nat → Nat) (l a m : Nat) (hb : bfO K l a = false) (hm : m = rnA K l a) (x : Nat) (h1 : a ≤ x) (h2 : x < a + m) : tri K l x = decide (2 < m) := by
  obtain ⟨g1, g2⟩ := rnA_in K l m a hm
  have yes : ∀ y, a ≤ y → y < a + m → hO K l y = true := fun y q1 q2 => by
    have := g1 (y - a) (by omega)
    rw [show a + (y - a) = y by omega] at this; exact this
  have no1 : ∀ y, y + 1 = a → hO K l y = false := fun y q => by rw [← bfO_s, q]; exact hb
  by_cases c : 2 < m
  · rw [decide_eq_true c]
    unfold tri
    by_cases k1 : x + 2 < a + m
    · have : w3 K l x = true := by unfold w3; rw [yes x h1 h2, yes (x + 1) (by omega) (by omega), yes (x + 2) (by omega) k1]; rfl
      rw [this]; rfl
    · by_cases k2 : a < x ∧ x + 1 < a + m
      · have : w3 K l (x - 1) = true := by unfold w3; rw [yes (x - 1) (by omega) (by omega), yes (x - 1 + 1) (by omega) (by omega), yes (x - 1 + 2) (by omega) (by omega)]; rfl
        rw [this, decide_eq_true (show 0 < x by omega)]; simp
      · have : w3 K l (x - 2) = true := by unfold w3; rw [yes (x - 2) (by omega) (by omega), yes (x - 2 + 1) (by omega) (by omega), yes (x - 2 + 2) (by omega) (by omega)]; rfl
        rw [this, decide_eq_true (show 1 < x by omega)]; simp
  · rw [decide_eq_false c]
    have end' : ∀ y, y = a + m → hO K l y = false := fun y q => by rw [q]; exact g2
    have w : ∀ y, y ≤ x → x ≤ y + 2 → w3 K l y = false := by
      intro y y1 y2
      have : hO K l y = false ∨ hO K l (y + 1) = false ∨ hO K l (y + 2) = false := by
        by_cases q : a + m ≤ y + 2
        · by_cases q1 : a + m = y + 2
          · exact Or.inr (Or.inr (end' _ q1.symm))
          · exact Or.inr (Or.inl (end' _ (by omega)))
        · by_cases q1 : y + 1 = a
          · exact Or.inl (no1 _ q1)
          · exact Or.inr (Or.inl (no1 _ (by omega)))
      unfold w3
      rcases this with q | q | q <;> rw [q] <;> simp
    unfold tri
    rw [w x (by omega) (by omega)]
    by_cases k1 : 0 < x
    · rw [w (x - 1) (by omega) (by omega)]
      by_cases k2 : 1 < x
      · rw [w (x - 2) (by omega) (by omega)]; simp
      · rw [decide_eq_false k2]; simp
    · rw [decide_eq_false k1, decide_eq_false (show ¬ 1 < x by omega)]; simp
theorem tri_no (K : Nat → Nat) (l x : Nat) (h : hO K l x = false) : tri K l x = false := by
  unfold tri w3
  rw [h]
  by_cases k1 : 0 < x
  · rw [show x - 1 + 1 = x by omega, h]
    by_cases k2 : 1 < x
    · rw [show x - 2 + 2 = x by omega, h]; simp
    · rw [decide_eq_false k2]; simp
  · rw [decide_eq_false k1, decide_eq_false (show ¬ 1 < x by omega)]; simp
theorem wR_step (K : Nat → Nat) (o l a m : Nat) (R R' : Int64) (hb : bfO K (o + l) a = false) (hm : m = rnA K (o + l) a) (h : wR K o l a R) (h' : ∀ c, c < 64 → lb R' c = (lb R c || (decide (2 < m) && decide (lnO o c = l ∧ a ≤ atO o c ∧ atO o c < a + m)))) : wR K o l (a + m + 1) R' := by
  intro c hc
  rw [h' c hc, h c hc]
  by_cases e : lnO o c = l
  · by_cases c1 : atO o c < a
    · rw [decide_eq_true (show lnO o c < l ∨ (lnO o c = l ∧ atO o c < a) by omega), decide_eq_true (show lnO o c < l ∨ (lnO o c = l ∧ atO o c < a + m + 1) by omega), decide_eq_false (show ¬ (lnO o c = l ∧ a ≤ atO o c ∧ atO o c < a + m) by omega), Bool.and_false, Bool.or_false]
    · rw [decide_eq_false (show ¬ (lnO o c < l ∨ (lnO o c = l ∧ atO o c < a)) by omega), Bool.false_and, Bool.false_or]
      by_cases c2 : atO o c < a + m
      · rw [decide_eq_true (show lnO o c < l ∨ (lnO o c = l ∧ atO o c < a + m + 1) by omega), decide_eq_true (show (lnO o c = l ∧ a ≤ atO o c ∧ atO o c < a + m) by omega), Bool.and_true, Bool.true_and, e, tri_run K (o + l) a m hb hm _ (by omega) c2]
      · rw [decide_eq_false (show ¬ (lnO o c = l ∧ a ≤ atO o c ∧ atO o c < a + m) by omega), Bool.and_false]
        by_cases c3 : atO o c = a + m
        · rw [e, c3, tri_no K (o + l) (a + m) (rnA_in K (o + l) m a hm).2, Bool.and_false]
        · rw [decide_eq_false (show ¬ (lnO o c < l ∨ (lnO o c = l ∧ atO o c < a + m + 1)) by omega), Bool.false_and]
  · rw [decide_eq_false (show ¬ (lnO o c = l ∧ a ≤ atO o c ∧ atO o c < a + m) by omega), Bool.and_false, Bool.or_false]
    congr 1
    rw [decide_eq_decide]
    omega
theorem wI_step (K : Nat → Nat) (l a m : Nat) (ha : a < 8) (hm : m = rnA K l a) (I I' : Nat → Nat → Int32) (h : wI K (8 * l + a) I) (h1 : wB K (8 * l + a) = true → I' 130 (wN K (8 * l + a)) = nI (wC K l a)) (h2 : ∀ i, i < wN K (8 * l + a) → I' 130 i = I 130 i) : wI K (8 * l + min (a + m + 1) 8) I' := by
  intro l' a' q1 q2 q3
  by_cases c : 8 * l' + a' < 8 * l + a
  · rw [h2 _ (by
      have e : wN K (8 * l' + a' + 1) = wN K (8 * l' + a') + 1 := by rw [wN, if_pos q3]
      have := wN_mono K (show 8 * l' + a' + 1 ≤ 8 * l + a by omega)
      omega)]
    exact h l' a' q1 c q3
  · have el : l' = l := by omega
    subst el
    by_cases c1 : a' = a
    · subst c1; exact h1 q3
    · have := wB_run K l' a m hm (a' - a - 1) (by omega) (by omega)
      rw [show a + (a' - a - 1) + 1 = a' by omega, q3] at this
      exact Bool.noConfusion this
theorem fw_start (d : Nat) (z : mm_Z) (L : Nat → Nat → Int64) (hz : zOK z) (K : Nat → Nat) (kl : ∀ c, K c ≤ 3) (o s l : Nat) (h : oS o s) (hl : l < 8) : ∀ k a, 9 - a ≤ k → a ≤ 9 → bfO K (o + l) a = false → ∀ (F : Nat → Nat → Value) (I : Nat → Nat → Int32) (R : Int64) (a6 a7 a8 : Value), FixM F → (∀ c, c < 64 → I 127 c = nI (K c)) → F 120 13 = .int (nI (wN K (8 * (o + l) + min a 8))) → wI K (8 * (o + l) + min a 8) I → wR K o l a R → wN K (8 * (o + l) + min a 8) ≤ 2 * (o + l) + a / 4 → ∃ F' I' R' b5 b6 b7 b8, mm_E d mX11_findWalls 15 [.ref 120, .int (nI s), .long R, uu, .int (nI l), .int (nI a), a6, a7, a8] [] (z, F, I, L) = mm_E d mX11_findWalls 5 [.ref 120, .int (nI s), .long R', uu, .int (nI (l + 1)), b5, b6, b7, b8] [] (z, F', I', L) ∧ F' 120 13 = .int (nI (wN K (8 * (o + (l + 1))))) ∧ wI K (8 * (o + (l + 1))) I' ∧ wR K o (l + 1) 0 R' ∧ wN K (8 * (o + (l + 1))) ≤ 2 * (o + (l + 1)) ∧ fr13 F F' ∧ fr130 I I' := by
  have hs : s ≤ 8 := by rcases h with ⟨_, e⟩ | ⟨_, e⟩ <;> omega
  have ho : o ≤ 8 := by rcases h with ⟨e, _⟩ | ⟨e, _⟩ <;> omega
  intro k
  induction k with
  | zero =>
    intro a k1 k2 hb F I R a6 a7 a8 hF hI h13 hw hR hN
    rw [show 8 * (o + l) + min a 8 = 8 * (o + (l + 1)) by omega] at h13 hw hN
    refine ⟨F, I, R, .int (nI a), a6, a7, a8, ?_, h13, hw, fun c hc => ?_, by omega, fun _ _ _ => rfl, fun _ _ => rfl⟩
    · have q : ¬ a < 8 := by omega
      rw [eX11_findWalls_15]
      simp (disch := first | assumption | exact bI_or _ | exact zOK_O hz (by decide) (by decide) rfl | exact zOK_T hz (by decide) (by decide) rfl | (refine ix (zOK_l hz (by decide) (by decide) rfl) ?_; omega) | decide | omega) only [eX11_findWalls_17, eX11_findWalls_19, eX11_findWalls_169, eX11_findWalls_172, Int.cast_ofNat_Int, Nat.reduceLT, Nat.reduceLeDiff, Nat.reduceEqDiff, Nat.reduceAdd, Nat.reduceMul, Int.reduceLE, Int.reduceLT, Int.reduceEq, not_false_iff, nlr, Nat.zero_add, Nat.add_zero, e10f, e01f, eq_self, true_and, and_true, false_and, and_false, and_self, decide_true, decide_false, mm_bd_i, mm_bd_v, if_true, if_false, not_true_eq_false, not_false_eq_true, nI_1, Bool.true_eq_false, Bool.false_eq_true, bI_0, n_le0, n_0lt, n_lt0, n_0le, n_eq0, n_eqm, n_eq1, n_le1, n_1lt, n_1le, n_lt1, nn_le, nI_ltI, nI_eq, nI_clamp, nI_add, pk_mul, i_eq0, i_eqm, i_0le, i_le0, i_0lt, i_lt0, i_mle, i_ltm, ii_le, iI_lt, iI_eq, ni_le, ni_lt, ni_eq, in_le, in_lt, in_eq, ni_add, in_add, ni_sub, in_sub, ni_mul, in_mul, iI_add, iI_sub, iI_mul, i_p1, iI_neg, n_neg, q]
    · rw [hR c hc]
      congr 1
      have : atO o c < 8 := by unfold atO; split <;> omega
      rw [decide_eq_decide]
      omega
  | succ k ih =>
    intro a k1 k2 hb F I R a6 a7 a8 hF hI h13 hw hR hN
    by_cases q : a < 8
    · have q8 : min a 8 = a := by omega
      rw [q8] at h13 hw hN
      obtain ⟨m, hm⟩ : ∃ m, m = rnA K (o + l) a := ⟨_, rfl⟩
      have ml := rnA_le K (o + l) a
      rw [← hm] at ml
      have cl := cO_lt (show o + l < 16 by omega) q
      have wl := wN_le K (8 * (o + l) + a)
      have ln := fw_len d z F I L hz hF K (fun c hc => ⟨hI c hc, kl c⟩) o s l a h hl q R a8 0 (by omega) (by rw [Nat.zero_add, Nat.add_zero])
      rw [← hm, nI_0] at ln
      have e1 := wN_run K (o + l) a m q hm m (Nat.le_refl _)
      have bn : bfO K (o + l) (a + m + 1) = false := by rw [bfO_s]; exact (rnA_in K (o + l) m a hm).2
      have wb : wB K (8 * (o + l) + a) = decide (2 < m) := by rw [wB_at K q, hb, ← hm]; rfl
      have st : mm_E d mX11_findWalls 15 [.ref 120, .int (nI s), .long R, uu, .int (nI l), .int (nI a), a6, a7, a8] [] (z, F, I, L) = mm_E d mX11_findWalls 83 [.ref 120, .int (nI s), .long R, uu, .int (nI l), .int (nI a), .int (nI (cO (o + l) a)), .int (nI m), a8] [] (z, F, I, L) := by
        rw [← ln]
        unfold cO
        rcases h with ⟨r1, r2⟩ | ⟨r1, r2⟩
        · have t : (s = 1) = True := eq_true r2
          rw [eX11_findWalls_15, if_pos (by omega), r1, Nat.zero_add]
          simp (disch := first | assumption | exact bI_or _ | exact zOK_O hz (by decide) (by decide) rfl | exact zOK_T hz (by decide) (by decide) rfl | (refine ix (zOK_l hz (by decide) (by decide) rfl) ?_; omega) | decide | omega) only [eX11_findWalls_17, eX11_findWalls_19, eX11_findWalls_22, eX11_findWalls_23, eX11_findWalls_24, eX11_findWalls_27, eX11_findWalls_29, eX11_findWalls_31, eX11_findWalls_32, eX11_findWalls_34, eX11_findWalls_35, eX11_findWalls_38, eX11_findWalls_40, eX11_findWalls_42, eX11_findWalls_43, eX11_findWalls_45, eX11_findWalls_46, eX11_findWalls_48, eX11_findWalls_49, Int.cast_ofNat_Int, Nat.reduceLT, Nat.reduceLeDiff, Nat.reduceEqDiff, Nat.reduceAdd, Nat.reduceMul, Int.reduceLE, Int.reduceLT, Int.reduceEq, not_false_iff, nlr, Nat.zero_add, Nat.add_zero, e10f, e01f, eq_self, true_and, and_true, false_and, and_false, and_self, decide_true, decide_false, mm_bd_i, mm_bd_v, if_true, if_false, not_true_eq_false, not_false_eq_true, nI_1, Bool.true_eq_false, Bool.false_eq_true, bI_0, n_le0, n_0lt, n_lt0, n_0le, n_eq0, n_eqm, n_eq1, n_le1, n_1lt, n_1le, n_lt1, nn_le, nI_ltI, nI_eq, nI_clamp, nI_add, pk_mul, i_eq0, i_eqm, i_0le, i_le0, i_0lt, i_lt0, i_mle, i_ltm, ii_le, iI_lt, iI_eq, ni_le, ni_lt, ni_eq, in_le, in_lt, in_eq, ni_add, in_add, ni_sub, in_sub, ni_mul, in_mul, iI_add, iI_sub, iI_mul, i_p1, iI_neg, n_neg, q, t]
        · have t : (s = 1) = False := eq_false (by omega)
          rw [eX11_findWalls_15, if_neg (by omega), r1, Nat.add_sub_cancel_left]
          simp (disch := first | assumption | exact bI_or _ | exact zOK_O hz (by decide) (by decide) rfl | exact zOK_T hz (by decide) (by decide) rfl | (refine ix (zOK_l hz (by decide) (by decide) rfl) ?_; omega) | decide | omega) only [eX11_findWalls_17, eX11_findWalls_19, eX11_findWalls_22, eX11_findWalls_23, eX11_findWalls_24, eX11_findWalls_27, eX11_findWalls_29, eX11_findWalls_31, eX11_findWalls_32, eX11_findWalls_34, eX11_findWalls_35, eX11_findWalls_38, eX11_findWalls_40, eX11_findWalls_42, eX11_findWalls_43, eX11_findWalls_45, eX11_findWalls_46, eX11_findWalls_48, eX11_findWalls_49, Int.cast_ofNat_Int, Nat.reduceLT, Nat.reduceLeDiff, Nat.reduceEqDiff, Nat.reduceAdd, Nat.reduceMul, Int.reduceLE, Int.reduceLT, Int.reduceEq, not_false_iff, nlr, Nat.zero_add, Nat.add_zero, e10f, e01f, eq_self, true_and, and_true, false_and, and_false, and_self, decide_true, decide_false, mm_bd_i, mm_bd_v, if_true, if_false, not_true_eq_false, not_false_eq_true, nI_1, Bool.true_eq_false, Bool.false_eq_true, bI_0, n_le0, n_0lt, n_lt0, n_0le, n_eq0, n_eqm, n_eq1, n_le1, n_1lt, n_1le, n_lt1, nn_le, nI_ltI, nI_eq, nI_clamp, nI_add, pk_mul, i_eq0, i_eqm, i_0le, i_le0, i_0lt, i_lt0, i_mle, i_ltm, ii_le, iI_lt, iI_eq, ni_le, ni_lt, ni_eq, in_le, in_lt, in_eq, ni_add, in_add, ni_sub, in_sub, ni_mul, in_mul, iI_add, iI_sub, iI_mul, i_p1, iI_neg, n_neg, q, t]
      rw [st]
      by_cases c : 2 < m
      · rw [decide_eq_true c] at wb
        have w1 : wN K (8 * (o + l) + a + 1) = wN K (8 * (o + l) + a) + 1 := by rw [wN, if_pos wb]
        obtain ⟨R1, g1, g2⟩ := fw_mark d z (mm_up2 F 120 13 (.int (nI (wN K (8 * (o + l) + a) + 1)))) (mm_up2 I 130 (wN K (8 * (o + l) + a)) (nI (wC K (o + l) a))) L hz o s l a m h hl (by omega) 0 (by omega) R
        rw [nI_0] at g1
        obtain ⟨F', I', R', b5, b6, b7, b8, y1, y2, y3, y4, y5, y6, y7⟩ := ih (a + m + 1) (by omega) (by omega) bn (mm_up2 F 120 13 (.int (nI (wN K (8 * (o + l) + a) + 1)))) (mm_up2 I 130 (wN K (8 * (o + l) + a)) (nI (wC K (o + l) a))) R1 (.int (nI (cO (o + l) a))) (.int (nI m)) (.int (nI m)) (FixM_up hF (by decide)) (fun c hc => by rw [up_r _ _ _ _ (by decide)]; exact hI c hc) (by rw [up_s, e1, w1]) (wI_step K (o + l) a m q hm I _ hw (fun _ => up_s _ _ _ _) (fun i hi => up_k _ _ _ _ (by omega))) (wR_step K o l a m R R1 hb hm hR (fun c' hc' => by rw [g2 c' hc', decide_eq_true c, Bool.true_and, Nat.add_zero])) (by rw [e1, w1]; omega)
        refine ⟨F', I', R', b5, b6, b7, b8, ?_, y2, y3, y4, y5, fun r j q' => by rw [y6 r j q']; unfold mm_up2; rw [if_neg q'], fun x hx => by rw [y7 x hx, up_row _ _ _ hx]⟩
        have z0 : ∀ x, (0 : Int32) + nI x = nI x := fun x => by rw [← nI_0, nI_add, Nat.zero_add]
        have mm : ¬ m < 3 := by omega
        rw [← y1]
        have g1' : mm_E d mX11_findWalls 132 [.ref 120, .int (nI s), .long R, uu, .int (nI l), .int (nI a), .int (nI (cO (o + l) a)), .int (nI m), .int 0] [] (z, mm_up2 F 120 13 (.int (nI (wN K (8 * (o + l) + a) + 1))), mm_up2 I 130 (wN K (8 * (o + l) + a)) (nI (wC K (o + l) a)), L) = mm_E d mX11_findWalls 15 [.ref 120, .int (nI s), .long R1, uu, .int (nI l), .int (nI (a + m + 1)), .int (nI (cO (o + l) a)), .int (nI m), .int (nI m)] [] (z, mm_up2 F 120 13 (.int (nI (wN K (8 * (o + l) + a) + 1))), mm_up2 I 130 (wN K (8 * (o + l) + a)) (nI (wC K (o + l) a)), L) := by
          rw [g1]
          simp (disch := first | assumption | exact bI_or _ | exact zOK_O hz (by decide) (by decide) rfl | exact zOK_T hz (by decide) (by decide) rfl | (refine ix (zOK_l hz (by decide) (by decide) rfl) ?_; omega) | decide | omega) only [eX11_findWalls_157, eX11_findWalls_159, eX11_findWalls_161, eX11_findWalls_162, eX11_findWalls_163, eX11_findWalls_164, eX11_findWalls_166, Int.cast_ofNat_Int, Nat.reduceLT, Nat.reduceLeDiff, Nat.reduceEqDiff, Nat.reduceAdd, Nat.reduceMul, Int.reduceLE, Int.reduceLT, Int.reduceEq, not_false_iff, nlr, Nat.zero_add, Nat.add_zero, e10f, e01f, eq_self, true_and, and_true, false_and, and_false, and_self, decide_true, decide_false, mm_bd_i, mm_bd_v, if_true, if_false, not_true_eq_false, not_false_eq_true, nI_1, Bool.true_eq_false, Bool.false_eq_true, bI_0, n_le0, n_0lt, n_lt0, n_0le, n_eq0, n_eqm, n_eq1, n_le1, n_1lt, n_1le, n_lt1, nn_le, nI_ltI, nI_eq, nI_clamp, nI_add, pk_mul, i_eq0, i_eqm, i_0le, i_le0, i_0lt, i_lt0, i_mle, i_ltm, ii_le, iI_lt, iI_eq, ni_le, ni_lt, ni_eq, in_le, in_lt, in_eq, ni_add, in_add, ni_sub, in_sub, ni_mul, in_mul, iI_add, iI_sub, iI_mul, i_p1, iI_neg, n_neg]
          rfl
        rw [← g1']
        unfold wC
        rw [← hm]
        rcases h with ⟨r1, r2⟩ | ⟨r1, r2⟩
        · have t : (s = 1) = True := eq_true r2
          rw [if_pos (show o + l < 8 by omega)]
          simp (disch := first | assumption | exact bI_or _ | exact zOK_O hz (by decide) (by decide) rfl | exact zOK_T hz (by decide) (by decide) rfl | (refine ix (zOK_l hz (by decide) (by decide) rfl) ?_; omega) | decide | omega) only [eX11_findWalls_83, eX11_findWalls_85, eX11_findWalls_86, eX11_findWalls_89, eX11_findWalls_90, eX11_findWalls_93, eX11_findWalls_94, eX11_findWalls_97, eX11_findWalls_98, eX11_findWalls_99, eX11_findWalls_102, eX11_findWalls_103, eX11_findWalls_106, eX11_findWalls_109, eX11_findWalls_111, eX11_findWalls_113, eX11_findWalls_114, eX11_findWalls_115, eX11_findWalls_117, eX11_findWalls_118, eX11_findWalls_119, eX11_findWalls_120, eX11_findWalls_121, eX11_findWalls_124, eX11_findWalls_125, eX11_findWalls_126, eX11_findWalls_129, eX11_findWalls_130, Int.cast_ofNat_Int, Nat.reduceLT, Nat.reduceLeDiff, Nat.reduceEqDiff, Nat.reduceAdd, Nat.reduceMul, Int.reduceLE, Int.reduceLT, Int.reduceEq, not_false_iff, nlr, Nat.zero_add, Nat.add_zero, e10f, e01f, eq_self, true_and, and_true, false_and, and_false, and_self, decide_true, decide_false, mm_bd_i, mm_bd_v, if_true, if_false, not_true_eq_false, not_false_eq_true, nI_1, Bool.true_eq_false, Bool.false_eq_true, bI_0, n_le0, n_0lt, n_lt0, n_0le, n_eq0, n_eqm, n_eq1, n_le1, n_1lt, n_1le, n_lt1, nn_le, nI_ltI, nI_eq, nI_clamp, nI_add, pk_mul, i_eq0, i_eqm, i_0le, i_le0, i_0lt, i_lt0, i_mle, i_ltm, ii_le, iI_lt, iI_eq, ni_le, ni_lt, ni_eq, in_le, in_lt, in_eq, ni_add, in_add, ni_sub, in_sub, ni_mul, in_mul, iI_add, iI_sub, iI_mul, i_p1, iI_neg, n_neg, c, fM_14 hF, h13, t, z0]
        · have t : (s = 1) = False := eq_false (by omega)
          rw [if_neg (show ¬ o + l < 8 by omega)]
          simp (disch := first | assumption | exact bI_or _ | exact zOK_O hz (by decide) (by decide) rfl | exact zOK_T hz (by decide) (by decide) rfl | (refine ix (zOK_l hz (by decide) (by decide) rfl) ?_; omega) | decide | omega) only [eX11_findWalls_83, eX11_findWalls_85, eX11_findWalls_86, eX11_findWalls_89, eX11_findWalls_90, eX11_findWalls_93, eX11_findWalls_94, eX11_findWalls_97, eX11_findWalls_98, eX11_findWalls_99, eX11_findWalls_102, eX11_findWalls_103, eX11_findWalls_106, eX11_findWalls_109, eX11_findWalls_111, eX11_findWalls_113, eX11_findWalls_114, eX11_findWalls_115, eX11_findWalls_117, eX11_findWalls_118, eX11_findWalls_119, eX11_findWalls_120, eX11_findWalls_121, eX11_findWalls_124, eX11_findWalls_125, eX11_findWalls_126, eX11_findWalls_129, eX11_findWalls_130, Int.cast_ofNat_Int, Nat.reduceLT, Nat.reduceLeDiff, Nat.reduceEqDiff, Nat.reduceAdd, Nat.reduceMul, Int.reduceLE, Int.reduceLT, Int.reduceEq, not_false_iff, nlr, Nat.zero_add, Nat.add_zero, e10f, e01f, eq_self, true_and, and_true, false_and, and_false, and_self, decide_true, decide_false, mm_bd_i, mm_bd_v, if_true, if_false, not_true_eq_false, not_false_eq_true, nI_1, Bool.true_eq_false, Bool.false_eq_true, bI_0, n_le0, n_0lt, n_lt0, n_0le, n_eq0, n_eqm, n_eq1, n_le1, n_1lt, n_1le, n_lt1, nn_le, nI_ltI, nI_eq, nI_clamp, nI_add, pk_mul, i_eq0, i_eqm, i_0le, i_le0, i_0lt, i_lt0, i_mle, i_ltm, ii_le, iI_lt, iI_eq, ni_le, ni_lt, ni_eq, in_le, in_lt, in_eq, ni_add, in_add, ni_sub, in_sub, ni_mul, in_mul, iI_add, iI_sub, iI_mul, i_p1, iI_neg, n_neg, c, fM_14 hF, h13, t, z0]
      · rw [decide_eq_false c] at wb
        have w1 : wN K (8 * (o + l) + a + 1) = wN K (8 * (o + l) + a) := by rw [wN, if_neg (by rw [wb]; exact Bool.false_ne_true)]; rfl
        obtain ⟨F', I', R', b5, b6, b7, b8, y1, y2, y3, y4, y5, y6, y7⟩ := ih (a + m + 1) (by omega) (by omega) bn F I R (.int (nI (cO (o + l) a))) (.int (nI m)) a8 hF hI (by rw [h13, e1, w1]) (wI_step K (o + l) a m q hm I I hw (fun t => by rw [wb] at t; exact Bool.noConfusion t) (fun _ _ => rfl)) (wR_step K o l a m R R hb hm hR (fun c' hc' => by rw [decide_eq_false c, Bool.false_and, Bool.or_false])) (by rw [e1, w1]; omega)
        refine ⟨F', I', R', b5, b6, b7, b8, ?_, y2, y3, y4, y5, y6, y7⟩
        rw [← y1]
        simp (disch := first | assumption | exact bI_or _ | exact zOK_O hz (by decide) (by decide) rfl | exact zOK_T hz (by decide) (by decide) rfl | (refine ix (zOK_l hz (by decide) (by decide) rfl) ?_; omega) | decide | omega) only [eX11_findWalls_83, eX11_findWalls_85, eX11_findWalls_86, eX11_findWalls_157, eX11_findWalls_159, eX11_findWalls_161, eX11_findWalls_162, eX11_findWalls_163, eX11_findWalls_164, eX11_findWalls_166, Int.cast_ofNat_Int, Nat.reduceLT, Nat.reduceLeDiff, Nat.reduceEqDiff, Nat.reduceAdd, Nat.reduceMul, Int.reduceLE, Int.reduceLT, Int.reduceEq, not_false_iff, nlr, Nat.zero_add, Nat.add_zero, e10f, e01f, eq_self, true_and, and_true, false_and, and_false, and_self, decide_true, decide_false, mm_bd_i, mm_bd_v, if_true, if_false, not_true_eq_false, not_false_eq_true, nI_1, Bool.true_eq_false, Bool.false_eq_true, bI_0, n_le0, n_0lt, n_lt0, n_0le, n_eq0, n_eqm, n_eq1, n_le1, n_1lt, n_1le, n_lt1, nn_le, nI_ltI, nI_eq, nI_clamp, nI_add, pk_mul, i_eq0, i_eqm, i_0le, i_le0, i_0lt, i_lt0, i_mle, i_ltm, ii_le, iI_lt, iI_eq, ni_le, ni_lt, ni_eq, in_le, in_lt, in_eq, ni_add, in_add, ni_sub, in_sub, ni_mul, in_mul, iI_add, iI_sub, iI_mul, i_p1, iI_neg, n_neg, c]
        rfl
    · rw [show 8 * (o + l) + min a 8 = 8 * (o + (l + 1)) by omega] at h13 hw hN
      refine ⟨F, I, R, .int (nI a), a6, a7, a8, ?_, h13, hw, fun c hc => ?_, by omega, fun _ _ _ => rfl, fun _ _ => rfl⟩
      · rw [eX11_findWalls_15]
        simp (disch := first | assumption | exact bI_or _ | exact zOK_O hz (by decide) (by decide) rfl | exact zOK_T hz (by decide) (by decide) rfl | (refine ix (zOK_l hz (by decide) (by decide) rfl) ?_; omega) | decide | omega) only [eX11_findWalls_17, eX11_findWalls_19, eX11_findWalls_169, eX11_findWalls_172, Int.cast_ofNat_Int, Nat.reduceLT, Nat.reduceLeDiff, Nat.reduceEqDiff, Nat.reduceAdd, Nat.reduceMul, Int.reduceLE, Int.reduceLT, Int.reduceEq, not_false_iff, nlr, Nat.zero_add, Nat.add_zero, e10f, e01f, eq_self, true_and, and_true, false_and, and_false, and_self, decide_true, decide_false, mm_bd_i, mm_bd_v, if_true, if_false, not_true_eq_false, not_false_eq_true, nI_1, Bool.true_eq_false, Bool.false_eq_true, bI_0, n_le0, n_0lt, n_lt0, n_0le, n_eq0, n_eqm, n_eq1, n_le1, n_1lt, n_1le, n_lt1, nn_le, nI_ltI, nI_eq, nI_clamp, nI_add, pk_mul, i_eq0, i_eqm, i_0le, i_le0, i_0lt, i_lt0, i_mle, i_ltm, ii_le, iI_lt, iI_eq, ni_le, ni_lt, ni_eq, in_le, in_lt, in_eq, ni_add, in_add, ni_sub, in_sub, ni_mul, in_mul, iI_add, iI_sub, iI_mul, i_p1, iI_neg, n_neg, q]
      · rw [hR c hc]
        congr 1
        have : atO o c < 8 := by unfold atO; split <;> omega
        rw [decide_eq_decide]
        omega
theorem FixM_13 {F F' : Nat → Nat → Value} (h : FixM F) (hf : fr13 F F') : FixM F' := by
  intro q hq
  have e : ∀ q ∈ mm_stM, ¬ (q.1 = 13) := by decide
  rw [hf 120 q.1 (fun a => e q hq a.2)]
  exact h q hq
theorem rM_findWalls (d : Nat) (z : mm_Z) (F : Nat → Nat → Value) (I : Nat → Nat → Int32) (L : Nat → Nat → Int64) (hz : zOK z) (hF : FixM F) (K : Nat → Nat) (kl : ∀ c, K c ≤ 3) (hI : ∀ c, c < 64 → I 127 c = nI (K c)) (o s : Nat) (h : oS o s) (h13 : F 120 13 = .int (nI (wN K (8 * o)))) (hw : wI K (8 * o) I) (hN : wN K (8 * o) ≤ 2 * o) : ∃ F' I', mm_E d mX11_findWalls 0 [.ref 120, .int (nI s), uu, uu, uu, uu, uu, uu, uu] [] (z, F, I, L) = some (some (.long (lOr (fun c => tri K (o + lnO o c) (atO o c)) 64)), (z, F', I', L)) ∧ F' 120 13 = .int (nI (wN K (8 * (o + 8)))) ∧ wI K (8 * (o + 8)) I' ∧ wN K (8 * (o + 8)) ≤ 2 * (o + 8) ∧ fr13 F F' ∧ fr130 I I' := by
  have g : ∀ l, l ≤ 8 → ∀ (F : Nat → Nat → Value) (I : Nat → Nat → Int32) (R : Int64) (a5 a6 a7 a8 : Value), FixM F → (∀ c, c < 64 → I 127 c = nI (K c)) → F 120 13 = .int (nI (wN K (8 * (o + l)))) → wI K (8 * (o + l)) I → wR K o l 0 R → wN K (8 * (o + l)) ≤ 2 * (o + l) → ∃ F' I', mm_E d mX11_findWalls 5 [.ref 120, .int (nI s), .long R, uu, .int (nI l), a5, a6, a7, a8] [] (z, F, I, L) = some (some (.long (lOr (fun c => tri K (o + lnO o c) (atO o c)) 64)), (z, F', I', L)) ∧ F' 120 13 = .int (nI (wN K (8 * (o + 8)))) ∧ wI K (8 * (o + 8)) I' ∧ wN K (8 * (o + 8)) ≤ 2 * (o + 8) ∧ fr13 F F' ∧ fr130 I I' := by
    apply lp
    · intro F I R a5 a6 a7 a8 hF hI h13 hw hR hN
      refine ⟨F, I, ?_, h13, hw, hN, fun _ _ _ => rfl, fun _ _ => rfl⟩
      have e : R = lOr (fun c => tri K (o + lnO o c) (atO o c)) 64 := lOr_eq (fun c hc => by
        have : lnO o c < 8 := by unfold lnO; split <;> omega
        rw [hR c hc, decide_eq_true (Or.inl this), Bool.true_and])
      rw [← e, eX11_findWalls_5]
      simp (disch := first | assumption | exact bI_or _ | exact zOK_O hz (by decide) (by decide) rfl | exact zOK_T hz (by decide) (by decide) rfl | (refine ix (zOK_l hz (by decide) (by decide) rfl) ?_; omega) | decide | omega) only [eX11_findWalls_7, eX11_findWalls_9, eX11_findWalls_175, eX11_findWalls_176, Int.cast_ofNat_Int, Nat.reduceLT, Nat.reduceLeDiff, Nat.reduceEqDiff, Nat.reduceAdd, Nat.reduceMul, Int.reduceLE, Int.reduceLT, Int.reduceEq, not_false_iff, nlr, Nat.zero_add, Nat.add_zero, e10f, e01f, eq_self, true_and, and_true, false_and, and_false, and_self, decide_true, decide_false, mm_bd_i, mm_bd_v, if_true, if_false, not_true_eq_false, not_false_eq_true, nI_1, Bool.true_eq_false, Bool.false_eq_true, bI_0, n_le0, n_0lt, n_lt0, n_0le, n_eq0, n_eqm, n_eq1, n_le1, n_1lt, n_1le, n_lt1, nn_le, nI_ltI, nI_eq, nI_clamp, nI_add, pk_mul, i_eq0, i_eqm, i_0le, i_le0, i_0lt, i_lt0, i_mle, i_ltm, ii_le, iI_lt, iI_eq, ni_le, ni_lt, ni_eq, in_le, in_lt, in_eq, ni_add, in_add, ni_sub, in_sub, ni_mul, in_mul, iI_add, iI_sub, iI_mul, i_p1, iI_neg, n_neg]
    · intro l hl ih F I R a5 a6 a7 a8 hF hI h13 hw hR hN
      obtain ⟨F1, I1, R1, b5, b6, b7, b8, y1, y2, y3, y4, y5, y6, y7⟩ := fw_start d z L hz K kl o s l h hl 9 0 (by omega) (by omega) rfl F I R a6 a7 a8 hF hI h13 hw hR hN
      obtain ⟨F', I', x1, x2, x3, x4, x5, x6⟩ := ih F1 I1 R1 b5 b6 b7 b8 (FixM_13 hF y6) (fun c hc => by rw [y7 127 (by decide)]; exact hI c hc) y2 y3 y4 y5
      refine ⟨F', I', ?_, x2, x3, x4, fun r j q => (x5 r j q).trans (y6 r j q), fun x q => (x6 x q).trans (y7 x q)⟩
      rw [← x1, ← y1, eX11_findWalls_5]
      simp (disch := first | assumption | exact bI_or _ | exact zOK_O hz (by decide) (by decide) rfl | exact zOK_T hz (by decide) (by decide) rfl | (refine ix (zOK_l hz (by decide) (by decide) rfl) ?_; omega) | decide | omega) only [eX11_findWalls_7, eX11_findWalls_9, eX11_findWalls_12, eX11_findWalls_13, Int.cast_ofNat_Int, Nat.reduceLT, Nat.reduceLeDiff, Nat.reduceEqDiff, Nat.reduceAdd, Nat.reduceMul, Int.reduceLE, Int.reduceLT, Int.reduceEq, not_false_iff, nlr, Nat.zero_add, Nat.add_zero, e10f, e01f, eq_self, true_and, and_true, false_and, and_false, and_self, decide_true, decide_false, mm_bd_i, mm_bd_v, if_true, if_false, not_true_eq_false, not_false_eq_true, nI_1, Bool.true_eq_false, Bool.false_eq_true, bI_0, n_le0, n_0lt, n_lt0, n_0le, n_eq0, n_eqm, n_eq1, n_le1, n_1lt, n_1le, n_lt1, nn_le, nI_ltI, nI_eq, nI_clamp, nI_add, pk_mul, i_eq0, i_eqm, i_0le, i_le0, i_0lt, i_lt0, i_mle, i_ltm, ii_le, iI_lt, iI_eq, ni_le, ni_lt, ni_eq, in_le, in_lt, in_eq, ni_add, in_add, ni_sub, in_sub, ni_mul, in_mul, iI_add, iI_sub, iI_mul, i_p1, iI_neg, n_neg, hl]
      rfl
  obtain ⟨F', I', x1, x2⟩ := g 0 (by omega) F I 0 uu uu uu uu hF hI h13 hw (fun c hc => by rw [lb_0, decide_eq_false (by omega), Bool.false_and]) hN
  refine ⟨F', I', ?_, x2⟩
  rw [← x1]
  simp (disch := first | assumption | exact bI_or _ | exact zOK_O hz (by decide) (by decide) rfl | exact zOK_T hz (by decide) (by decide) rfl | (refine ix (zOK_l hz (by decide) (by decide) rfl) ?_; omega) | decide | omega) only [eX11_findWalls_0, eX11_findWalls_1, eX11_findWalls_2, eX11_findWalls_3, Int.cast_ofNat_Int, Nat.reduceLT, Nat.reduceLeDiff, Nat.reduceEqDiff, Nat.reduceAdd, Nat.reduceMul, Int.reduceLE, Int.reduceLT, Int.reduceEq, not_false_iff, nlr, Nat.zero_add, Nat.add_zero, e10f, e01f, eq_self, true_and, and_true, false_and, and_false, and_self, decide_true, decide_false, mm_bd_i, mm_bd_v, if_true, if_false, not_true_eq_false, not_false_eq_true, nI_1, Bool.true_eq_false, Bool.false_eq_true, bI_0, n_le0, n_0lt, n_lt0, n_0le, n_eq0, n_eqm, n_eq1, n_le1, n_1lt, n_1le, n_lt1, nn_le, nI_ltI, nI_eq, nI_clamp, nI_add, pk_mul, i_eq0, i_eqm, i_0le, i_le0, i_0lt, i_lt0, i_mle, i_ltm, ii_le, iI_lt, iI_eq, ni_le, ni_lt, ni_eq, in_le, in_lt, in_eq, ni_add, in_add, ni_sub, in_sub, ni_mul, in_mul, iI_add, iI_sub, iI_mul, i_p1, iI_neg, n_neg]
  rfl
def waFr (F F' : Nat → Nat → Value) (I I' : Nat → Nat → Int32) : Prop := (∀ r j, ¬ (r = 120 ∧ (j = 13 ∨ j = 15 ∨ j = 16)) → F' r j = F r j) ∧ ∀ r, ¬ r = 127 → ¬ r = 128 → ¬ r = 129 → ¬ r = 130 → I' r = I r
theorem rM_allWalls (d : Nat) (z : mm_Z) (F : Nat → Nat → Value) (I : Nat → Nat → Int32) (L : Nat → Nat → Int64) (n : Nat) (hs : Nat → List (Int × Int × Nat)) (st : Nat → Option (Nat × Nat)) (hz : zOK z) (hF : FixM F) (w : wOK n hs st) (h : rmS n hs st F I) : ∃ F' I', mm_E (d + 5) mX11_findAllWalls 0 [.ref 120] [] (z, F, I, L) = some (none, (z, F', I', L)) ∧ FixM F' ∧ F' 120 13 = .int (nI (wN (kd n hs st) 128)) ∧ wI (kd n hs st) 128 I' ∧ wN (kd n hs st) 128 ≤ 32 ∧ (∃ R C, F' 120 15 = .long R ∧ F' 120 16 = .long C ∧ R &&& C = lOr (coC (kd n hs st)) 64) ∧ waFr F F' I I' := by
  obtain ⟨I1, g1, g2, g3⟩ := rM_look d z F I L n hs st hz hF w h
  have kl := kd_le n hs st
  generalize kd n hs st = K at *
  obtain ⟨F2, I2, a1, a2, a3, a4, a5, a6⟩ := rM_findWalls (d + 4) z (mm_up2 F 120 13 (.int 0)) I1 L hz (FixM_up hF (by decide)) K kl g3 0 1 (Or.inl ⟨rfl, rfl⟩) (up_s _ _ _ _) (fun l a _ q => absurd q (by omega)) (Nat.le_refl _)
  have F2x : FixM F2 := FixM_13 (FixM_up hF (by decide)) a5
  have F2y : FixM (mm_up2 F2 120 15 (.long (lOr (fun c => tri K (0 + lnO 0 c) (atO 0 c)) 64))) := FixM_up F2x (by decide)
  obtain ⟨F3, I3, b1, b2, b3, b4, b5, b6⟩ := rM_findWalls (d + 4) z (mm_up2 F2 120 15 (.long (lOr (fun c => tri K (0 + lnO 0 c) (atO 0 c)) 64))) I2 L hz F2y K kl (fun c hc => by rw [a6 127 (by decide)]; exact g3 c hc) 8 8 (Or.inr ⟨rfl, rfl⟩) (by rw [up_k _ _ _ _ (by decide)]; exact a2) a3 a4
  refine ⟨mm_up2 F3 120 16 (.long (lOr (fun c => tri K (8 + lnO 8 c) (atO 8 c)) 64)), I3, ?_, FixM_up (FixM_13 F2y b5) (by decide), ?_, b3, b4, ⟨lOr (fun c => tri K (0 + lnO 0 c) (atO 0 c)) 64, lOr (fun c => tri K (8 + lnO 8 c) (atO 8 c)) 64, ?_, up_s _ _ _ _, ?_⟩, ?_, ?_⟩
  · rw [← sh1] at a1
    simp only [Nat.zero_add] at b1
    simp (disch := first | assumption | exact bI_or _ | exact zOK_O hz (by decide) (by decide) rfl | exact zOK_T hz (by decide) (by decide) rfl | (refine ix (zOK_l hz (by decide) (by decide) rfl) ?_; omega) | decide | omega) only [eX11_findAllWalls_0, eX11_findAllWalls_1, eX11_findAllWalls_4, eX11_findAllWalls_5, eX11_findAllWalls_6, eX11_findAllWalls_9, eX11_findAllWalls_10, eX11_findAllWalls_11, eX11_findAllWalls_12, eX11_findAllWalls_15, eX11_findAllWalls_18, eX11_findAllWalls_19, eX11_findAllWalls_20, eX11_findAllWalls_22, eX11_findAllWalls_25, eX11_findAllWalls_28, Int.cast_ofNat_Int, Nat.reduceLT, Nat.reduceLeDiff, Nat.reduceEqDiff, Nat.reduceAdd, Nat.reduceMul, Int.reduceLE, Int.reduceLT, Int.reduceEq, not_false_iff, nlr, Nat.zero_add, Nat.add_zero, e10f, e01f, eq_self, true_and, and_true, false_and, and_false, and_self, decide_true, decide_false, mm_bd_i, mm_bd_v, if_true, if_false, not_true_eq_false, not_false_eq_true, nI_1, Bool.true_eq_false, Bool.false_eq_true, bI_0, n_le0, n_0lt, n_lt0, n_0le, n_eq0, n_eqm, n_eq1, n_le1, n_1lt, n_1le, n_lt1, nn_le, nI_ltI, nI_eq, nI_clamp, nI_add, pk_mul, i_eq0, i_eqm, i_0le, i_le0, i_0lt, i_lt0, i_mle, i_ltm, ii_le, iI_lt, iI_eq, ni_le, ni_lt, ni_eq, in_le, in_lt, in_eq, ni_add, in_add, ni_sub, in_sub, ni_mul, in_mul, iI_add, iI_sub, iI_mul, i_p1, iI_neg, n_neg, g1, a1, b1]
  · rw [up_k _ _ _ _ (by decide)]; exact b2
  · rw [up_k _ _ _ _ (by decide), b5 _ _ (by decide), up_s]
  · apply lOr_eq
    intro c hc
    rw [lb_and, lb_lOr _ _ 64 (Nat.le_refl _), lb_lOr _ _ 64 (Nat.le_refl _), decide_eq_true hc, Bool.true_and, Bool.true_and]
    show (tri K (0 + lnO 0 c) (atO 0 c) && tri K (8 + lnO 8 c) (atO 8 c)) = coC K c
    unfold coC lnO atO
    rw [if_pos rfl, if_pos rfl, if_neg (by decide), if_neg (by decide), Nat.zero_add]
  · intro r j q
    have e1 : ¬ (r = 120 ∧ j = 16) := by omega
    have e2 : ¬ (r = 120 ∧ j = 15) := by omega
    have e3 : ¬ (r = 120 ∧ j = 13) := by omega
    rw [show mm_up2 F3 120 16 _ r j = F3 r j by unfold mm_up2; rw [if_neg e1], b5 r j e3, show mm_up2 F2 120 15 _ r j = F2 r j by unfold mm_up2; rw [if_neg e2], a5 r j e3, show mm_up2 F 120 13 _ r j = F r j by unfold mm_up2; rw [if_neg e3]]
  · intro r q1 q2 q3 q4
    rw [b6 r q4, a6 r q4, g2 r q1 q2 q3]
theorem rM_wall_out (d : Nat) (z : mm_Z) (F : Nat → Nat → Value) (I : Nat → Nat → Int32) (L : Nat → Nat → Int64) (x : Int32) (hx : x.toInt < -1) : mm_E (d + 4) mX11_wall 0 [.ref 120, .int x] [] (z, F, I, L) = some (some (.int (-3)), (z, F, I, L)) := by
  obtain ⟨b1, b2⟩ := i32_b x
  rw [iI_of x]
  generalize x.toInt = v at *
  simp (disch := first | assumption | exact bI_or _ | exact zOK_O hz (by decide) (by decide) rfl | exact zOK_T hz (by decide) (by decide) rfl | (refine ix (zOK_l hz (by decide) (by decide) rfl) ?_; omega) | decide | omega) only [eX11_wall_0, eX11_wall_1, eX11_wall_2, eX11_wall_5, eX11_wall_7, eX11_wall_8, eX11_wall_9, eX11_wall_12, eX11_wall_13, eX11_wall_14, eX11_wall_17, eX11_wall_18, eX11_wall_21, eX11_wall_24, eX11_wall_25, eX11_wall_26, eX11_wall_29, eX11_wall_32, eX11_wall_33, eX11_wall_36, eX11_wall_37, eX11_wall_38, eX11_wall_41, eX11_wall_42, Int.cast_ofNat_Int, Nat.reduceLT, Nat.reduceLeDiff, Nat.reduceEqDiff, Nat.reduceAdd, Nat.reduceMul, Int.reduceLE, Int.reduceLT, Int.reduceEq, not_false_iff, nlr, Nat.zero_add, Nat.add_zero, e10f, e01f, eq_self, true_and, and_true, false_and, and_false, and_self, decide_true, decide_false, mm_bd_i, mm_bd_v, if_true, if_false, not_true_eq_false, not_false_eq_true, nI_1, Bool.true_eq_false, Bool.false_eq_true, bI_0, n_le0, n_0lt, n_lt0, n_0le, n_eq0, n_eqm, n_eq1, n_le1, n_1lt, n_1le, n_lt1, nn_le, nI_ltI, nI_eq, nI_clamp, nI_add, pk_mul, i_eq0, i_eqm, i_0le, i_le0, i_0lt, i_lt0, i_mle, i_ltm, ii_le, iI_lt, iI_eq, ni_le, ni_lt, ni_eq, in_le, in_lt, in_eq, ni_add, in_add, ni_sub, in_sub, ni_mul, in_mul, iI_add, iI_sub, iI_mul, i_p1, iI_neg, n_neg, hx]
theorem wN_find (K : Nat → Nat) (i : Nat) : ∀ p, i < wN K p → ∃ q, q < p ∧ wB K q = true ∧ wN K q = i := by
  intro p
  induction p with
  | zero => intro h; exact absurd h (by rw [wN]; omega)
  | succ p ih =>
    intro h
    by_cases c : i < wN K p
    · obtain ⟨q, q1, q2⟩ := ih c
      exact ⟨q, by omega, q2⟩
    · rw [wN] at h
      by_cases e : wB K p = true
      · rw [if_pos e] at h
        exact ⟨p, by omega, e, by omega⟩
      · rw [if_neg e] at h
        omega
theorem rM_wall (d : Nat) (z : mm_Z) (F : Nat → Nat → Value) (I : Nat → Nat → Int32) (L : Nat → Nat → Int64) (n : Nat) (hs : Nat → List (Int × Int × Nat)) (st : Nat → Option (Nat × Nat)) (hz : zOK z) (hF : FixM F) (w : wOK n hs st) (h : rmS n hs st F I) (x : Int32) (hx : ¬ x.toInt < -1) : ∃ F' I' r, mm_E (d + 6) mX11_wall 0 [.ref 120, .int x] [] (z, F, I, L) = some (some (.int (iI r)), (z, F', I', L)) ∧ wlP (kd n hs st) x.toInt r ∧ waFr F F' I I' := by
  obtain ⟨b1, b2⟩ := i32_b x
  obtain ⟨F', I', k1, k2, k3, k4, k5, k6, k7⟩ := rM_allWalls d z F I L n hs st hz hF w h
  generalize kd n hs st = K at *
  by_cases c : x.toInt = -1
  · refine ⟨F', I', wN K 128, ?_, Or.inl ⟨c, rfl⟩, k7⟩
    conv => lhs; rw [iI_of x]
    generalize x.toInt = v at *
    rw [← nI_iI]
    simp (disch := first | assumption | exact bI_or _ | exact zOK_O hz (by decide) (by decide) rfl | exact zOK_T hz (by decide) (by decide) rfl | (refine ix (zOK_l hz (by decide) (by decide) rfl) ?_; omega) | decide | omega) only [eX11_wall_0, eX11_wall_1, eX11_wall_2, eX11_wall_5, eX11_wall_7, eX11_wall_8, eX11_wall_9, eX11_wall_12, eX11_wall_13, eX11_wall_14, eX11_wall_17, eX11_wall_18, eX11_wall_21, eX11_wall_24, eX11_wall_25, eX11_wall_26, eX11_wall_29, eX11_wall_32, eX11_wall_33, eX11_wall_36, eX11_wall_37, eX11_wall_38, eX11_wall_41, eX11_wall_42, Int.cast_ofNat_Int, Nat.reduceLT, Nat.reduceLeDiff, Nat.reduceEqDiff, Nat.reduceAdd, Nat.reduceMul, Int.reduceLE, Int.reduceLT, Int.reduceEq, not_false_iff, nlr, Nat.zero_add, Nat.add_zero, e10f, e01f, eq_self, true_and, and_true, false_and, and_false, and_self, decide_true, decide_false, mm_bd_i, mm_bd_v, if_true, if_false, not_true_eq_false, not_false_eq_true, nI_1, Bool.true_eq_false, Bool.false_eq_true, bI_0, n_le0, n_0lt, n_lt0, n_0le, n_eq0, n_eqm, n_eq1, n_le1, n_1lt, n_1le, n_lt1, nn_le, nI_ltI, nI_eq, nI_clamp, nI_add, pk_mul, i_eq0, i_eqm, i_0le, i_le0, i_0lt, i_lt0, i_mle, i_ltm, ii_le, iI_lt, iI_eq, ni_le, ni_lt, ni_eq, in_le, in_lt, in_eq, ni_add, in_add, ni_sub, in_sub, ni_mul, in_mul, iI_add, iI_sub, iI_mul, i_p1, iI_neg, n_neg, hx, k1, c, k3]
  · obtain ⟨i, e, hi⟩ : ∃ i : Nat, x = nI i ∧ x.toInt = i := ⟨x.toInt.toNat, by rw [nI_iI, Int.toNat_of_nonneg (by omega)]; exact iI_of x, by omega⟩
    have ib : i < 2 ^ 31 := by omega
    rw [hi]
    rw [hi] at hx c
    rw [e]
    have mi : (-1 ≤ nI i) = True := eq_true (by rw [nI_iI, i_mle (by omega) (by omega)]; omega)
    by_cases q : i < wN K 128
    · obtain ⟨p, p1, p2, p3⟩ := wN_find K i 128 q
      have e8 : 8 * (p / 8) + p % 8 = p := by omega
      have wv := k4 (p / 8) (p % 8) (by omega) (by omega) (by rw [e8]; exact p2)
      rw [e8, p3] at wv
      refine ⟨F', I', wC K (p / 8) (p % 8), ?_, Or.inr (Or.inl ⟨p / 8, p % 8, by omega, by omega, by rw [e8]; exact p2, by rw [e8, p3], rfl⟩), k7⟩
      rw [← nI_iI]
      simp (disch := first | assumption | exact bI_or _ | exact zOK_O hz (by decide) (by decide) rfl | exact zOK_T hz (by decide) (by decide) rfl | (refine ix (zOK_l hz (by decide) (by decide) rfl) ?_; omega) | decide | omega) only [eX11_wall_0, eX11_wall_1, eX11_wall_2, eX11_wall_5, eX11_wall_7, eX11_wall_8, eX11_wall_9, eX11_wall_12, eX11_wall_13, eX11_wall_14, eX11_wall_17, eX11_wall_18, eX11_wall_21, eX11_wall_24, eX11_wall_25, eX11_wall_26, eX11_wall_29, eX11_wall_32, eX11_wall_33, eX11_wall_36, eX11_wall_37, eX11_wall_38, eX11_wall_41, eX11_wall_42, Int.cast_ofNat_Int, Nat.reduceLT, Nat.reduceLeDiff, Nat.reduceEqDiff, Nat.reduceAdd, Nat.reduceMul, Int.reduceLE, Int.reduceLT, Int.reduceEq, not_false_iff, nlr, Nat.zero_add, Nat.add_zero, e10f, e01f, eq_self, true_and, and_true, false_and, and_false, and_self, decide_true, decide_false, mm_bd_i, mm_bd_v, if_true, if_false, not_true_eq_false, not_false_eq_true, nI_1, Bool.true_eq_false, Bool.false_eq_true, bI_0, n_le0, n_0lt, n_lt0, n_0le, n_eq0, n_eqm, n_eq1, n_le1, n_1lt, n_1le, n_lt1, nn_le, nI_ltI, nI_eq, nI_clamp, nI_add, pk_mul, i_eq0, i_eqm, i_0le, i_le0, i_0lt, i_lt0, i_mle, i_ltm, ii_le, iI_lt, iI_eq, ni_le, ni_lt, ni_eq, in_le, in_lt, in_eq, ni_add, in_add, ni_sub, in_sub, ni_mul, in_mul, iI_add, iI_sub, iI_mul, i_p1, iI_neg, n_neg, mi, k1, k3, q, fM_14 k2, wv]
    · refine ⟨F', I', -1, ?_, Or.inr (Or.inr ⟨c, rfl, fun p hp hb hv => ?_⟩), k7⟩
      · rw [iI_m1]
        simp (disch := first | assumption | exact bI_or _ | exact zOK_O hz (by decide) (by decide) rfl | exact zOK_T hz (by decide) (by decide) rfl | (refine ix (zOK_l hz (by decide) (by decide) rfl) ?_; omega) | decide | omega) only [eX11_wall_0, eX11_wall_1, eX11_wall_2, eX11_wall_5, eX11_wall_7, eX11_wall_8, eX11_wall_9, eX11_wall_12, eX11_wall_13, eX11_wall_14, eX11_wall_17, eX11_wall_18, eX11_wall_21, eX11_wall_24, eX11_wall_25, eX11_wall_26, eX11_wall_29, eX11_wall_32, eX11_wall_33, eX11_wall_36, eX11_wall_37, eX11_wall_38, eX11_wall_41, eX11_wall_42, Int.cast_ofNat_Int, Nat.reduceLT, Nat.reduceLeDiff, Nat.reduceEqDiff, Nat.reduceAdd, Nat.reduceMul, Int.reduceLE, Int.reduceLT, Int.reduceEq, not_false_iff, nlr, Nat.zero_add, Nat.add_zero, e10f, e01f, eq_self, true_and, and_true, false_and, and_false, and_self, decide_true, decide_false, mm_bd_i, mm_bd_v, if_true, if_false, not_true_eq_false, not_false_eq_true, nI_1, Bool.true_eq_false, Bool.false_eq_true, bI_0, n_le0, n_0lt, n_lt0, n_0le, n_eq0, n_eqm, n_eq1, n_le1, n_1lt, n_1le, n_lt1, nn_le, nI_ltI, nI_eq, nI_clamp, nI_add, pk_mul, i_eq0, i_eqm, i_0le, i_le0, i_0lt, i_lt0, i_mle, i_ltm, ii_le, iI_lt, iI_eq, ni_le, ni_lt, ni_eq, in_le, in_lt, in_eq, ni_add, in_add, ni_sub, in_sub, ni_mul, in_mul, iI_add, iI_sub, iI_mul, i_p1, iI_neg, n_neg, mi, k1, k3, q]
      · have e : wN K (p + 1) = wN K p + 1 := by rw [wN, if_pos hb]
        have := wN_mono K (show p + 1 ≤ 128 by omega)
        omega
theorem rM_corners (d : Nat) (z : mm_Z) (F : Nat → Nat → Value) (I : Nat → Nat → Int32) (L : Nat → Nat → Int64) (n : Nat) (hs : Nat → List (Int × Int × Nat)) (st : Nat → Option (Nat × Nat)) (hz : zOK z) (hF : FixM F) (w : wOK n hs st) (h : rmS n hs st F I) : ∃ F' I', mm_E (d + 6) mX11_corners 0 [.ref 120] [] (z, F, I, L) = some (some (.long (lOr (coC (kd n hs st)) 64)), (z, F', I', L)) ∧ waFr F F' I I' := by
  obtain ⟨F', I', k1, k2, k3, k4, k5, ⟨R, C, k6, k7, k8⟩, k9⟩ := rM_allWalls d z F I L n hs st hz hF w h
  refine ⟨F', I', ?_, k9⟩
  rw [← k8]
  simp (disch := first | assumption | exact bI_or _ | exact zOK_O hz (by decide) (by decide) rfl | exact zOK_T hz (by decide) (by decide) rfl | (refine ix (zOK_l hz (by decide) (by decide) rfl) ?_; omega) | decide | omega) only [eX11_corners_0, eX11_corners_1, eX11_corners_4, eX11_corners_5, eX11_corners_8, eX11_corners_9, eX11_corners_12, eX11_corners_13, Int.cast_ofNat_Int, Nat.reduceLT, Nat.reduceLeDiff, Nat.reduceEqDiff, Nat.reduceAdd, Nat.reduceMul, Int.reduceLE, Int.reduceLT, Int.reduceEq, not_false_iff, nlr, Nat.zero_add, Nat.add_zero, e10f, e01f, eq_self, true_and, and_true, false_and, and_false, and_self, decide_true, decide_false, mm_bd_i, mm_bd_v, if_true, if_false, not_true_eq_false, not_false_eq_true, nI_1, Bool.true_eq_false, Bool.false_eq_true, bI_0, n_le0, n_0lt, n_lt0, n_0le, n_eq0, n_eqm, n_eq1, n_le1, n_1lt, n_1le, n_lt1, nn_le, nI_ltI, nI_eq, nI_clamp, nI_add, pk_mul, i_eq0, i_eqm, i_0le, i_le0, i_0lt, i_lt0, i_mle, i_ltm, ii_le, iI_lt, iI_eq, ni_le, ni_lt, ni_eq, in_le, in_lt, in_eq, ni_add, in_add, ni_sub, in_sub, ni_mul, in_mul, iI_add, iI_sub, iI_mul, i_p1, iI_neg, n_neg, k1, k6, k7]
