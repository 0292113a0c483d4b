/-! the reference: common, has, placed; sets of cells as longs -/
theorem rM_common_l (d : Nat) (z : mm_Z) (F : Nat → Nat → Value) (I : Nat → Nat → Int32) (L : Nat → Nat → Int64) (x y : Value) : ∀ b a w, a < 2 ^ 31 → b < 2 ^ 31 → mm_E d mX11_common 22 [x, y, .int (nI a), .int (nI b), w] [] (z, F, I, L) = some (some (.int (nI (Nat.gcd b a))), (z, F, I, L)) := by
  intro b
  induction b using Nat.strongRecOn with
  | ind b ih =>
    intro a w ha hb
    rw [eX11_common_22]
    by_cases h : b = 0
    · subst h
      simp (disch := first | assumption | decide) only [eX11_common_0, eX11_common_1, eX11_common_4, eX11_common_5, eX11_common_6, eX11_common_9, eX11_common_10, eX11_common_11, eX11_common_12, eX11_common_15, eX11_common_16, eX11_common_17, eX11_common_20, eX11_common_21, eX11_common_23, eX11_common_26, eX11_common_27, eX11_common_28, eX11_common_29, eX11_common_31, eX11_common_32, eX11_common_33, eX11_common_35, eX11_common_36, eX11_common_39, eX11_common_40, nI_0, if_true, Nat.gcd_zero_left]
    · have h1 : ¬ nI b = 0 := nI_ne0 (by omega) hb
      simp (disch := first | assumption | decide) only [eX11_common_0, eX11_common_1, eX11_common_4, eX11_common_5, eX11_common_6, eX11_common_9, eX11_common_10, eX11_common_11, eX11_common_12, eX11_common_15, eX11_common_16, eX11_common_17, eX11_common_20, eX11_common_21, eX11_common_23, eX11_common_26, eX11_common_27, eX11_common_28, eX11_common_29, eX11_common_31, eX11_common_32, eX11_common_33, eX11_common_35, eX11_common_36, eX11_common_39, eX11_common_40, h1, if_false]
      rw [pk_rem ha (by omega) hb, ih (a % b) (Nat.mod_lt _ (by omega)) b _ hb (Nat.lt_trans (Nat.mod_lt _ (by omega)) hb), ← Nat.gcd_rec]
theorem rM_common (d : Nat) (z : mm_Z) (F : Nat → Nat → Value) (I : Nat → Nat → Int32) (L : Nat → Nat → Int64) (x y : Int) (hx : -1000000 < x) (hx' : x < 1000000) (hy : -1000000 < y) (hy' : y < 1000000) : mm_E d mX11_common 0 [.int (iI x), .int (iI y), uu, uu, uu] [] (z, F, I, L) = some (some (.int (nI (Int.gcd x y))), (z, F, I, L)) := by
  have e1 : (if (0 : Int32) ≤ iI x then iI x else - iI x) = nI x.natAbs := by
    rw [iI_n (by omega), iI_neg, ← iI_0]
    by_cases h : 0 ≤ x
    · rw [if_pos ((iI_le (by omega) (by omega) (by omega) (by omega)).mpr h)]; congr 1; omega
    · rw [if_neg (fun q => h ((iI_le (by omega) (by omega) (by omega) (by omega)).mp q))]; congr 1; omega
  have e2 : (if (0 : Int32) ≤ iI y then iI y else - iI y) = nI y.natAbs := by
    rw [iI_n (by omega), iI_neg, ← iI_0]
    by_cases h : 0 ≤ y
    · rw [if_pos ((iI_le (by omega) (by omega) (by omega) (by omega)).mpr h)]; congr 1; omega
    · rw [if_neg (fun q => h ((iI_le (by omega) (by omega) (by omega) (by omega)).mp q))]; congr 1; omega
  have g : Nat.gcd y.natAbs x.natAbs = Int.gcd x y := by rw [Nat.gcd_comm]; rfl
  by_cases h1 : (0 : Int32) ≤ iI x <;> by_cases h2 : (0 : Int32) ≤ iI y <;> simp only [h1, h2, if_true, if_false] at e1 e2 <;> simp (disch := first | assumption | decide) only [eX11_common_0, eX11_common_1, eX11_common_4, eX11_common_5, eX11_common_6, eX11_common_9, eX11_common_10, eX11_common_11, eX11_common_12, eX11_common_15, eX11_common_16, eX11_common_17, eX11_common_20, eX11_common_21, h1, h2, if_true, if_false] <;> rw [e1, e2, rM_common_l _ _ _ _ _ _ _ _ _ _ (by omega) (by omega), g]
/-- a set of cells -/
def lb (s : Int64) (i : Nat) : Bool := s.toBitVec.getLsbD i
theorem lb_ext {x y : Int64} (h : ∀ i, i < 64 → lb x i = lb y i) : x = y := Int64.toBitVec_inj.mp (BitVec.eq_of_getLsbD_eq (fun i hi => h i hi))
theorem lb_or (x y : Int64) (i : Nat) : lb (x ||| y) i = (lb x i || lb y i) := by unfold lb; rw [Int64.toBitVec_or, BitVec.getLsbD_or]
theorem lb_and (x y : Int64) (i : Nat) : lb (x &&& y) i = (lb x i && lb y i) := by unfold lb; rw [Int64.toBitVec_and, BitVec.getLsbD_and]
theorem lb_xor (x y : Int64) (i : Nat) : lb (x ^^^ y) i = (lb x i ^^ lb y i) := by unfold lb; rw [Int64.toBitVec_xor, BitVec.getLsbD_xor]
theorem lb_big {x : Int64} {i : Nat} (h : 64 ≤ i) : lb x i = false := BitVec.getLsbD_of_ge _ _ h
theorem lb_0 (i : Nat) : lb 0 i = false := by unfold lb; simp
theorem lb_m1 : ∀ i, i < 64 → lb (-1) i = true := by decide +kernel
theorem lb_1 (i : Nat) : lb 1 i = decide (i = 0) := by
  rcases Nat.lt_or_ge i 64 with h | h
  · exact (by decide +kernel : ∀ i, i < 64 → lb 1 i = decide (i = 0)) i h
  · rw [lb_big h, decide_eq_false (by omega)]
theorem ls_l : ∀ n, n < 64 → (((nI n).toInt64 &&& 63).toBitVec.smod 64).toNat = n := by decide +kernel
theorem lb_shl (n : Nat) (hn : n < 64) (x : Int64) {i : Nat} (hi : i < 64) : lb (x <<< ((nI n).toInt64 &&& 63)) i = (decide (n ≤ i) && lb x (i - n)) := by
  unfold lb
  rw [Int64.toBitVec_shiftLeft]
  show (x.toBitVec <<< (((nI n).toInt64 &&& 63).toBitVec.smod 64).toNat).getLsbD i = _
  rw [ls_l n hn, BitVec.getLsbD_shiftLeft]
  rcases Nat.lt_or_ge i n with h | h
  · simp [h, Nat.not_le.mpr h]
  · simp [hi, h, Nat.not_lt.mpr h]
theorem lb_shr (n : Nat) (hn : n < 64) (x : Int64) {i : Nat} (hi : i < 64) : lb (x >>> ((nI n).toInt64 &&& 63)) i = if n + i < 64 then lb x (n + i) else lb x 63 := by
  unfold lb
  rw [Int64.toBitVec_shiftRight]
  show (x.toBitVec.sshiftRight (((nI n).toInt64 &&& 63).toBitVec.smod 64).toNat).getLsbD i = _
  rw [ls_l n hn, BitVec.getLsbD_sshiftRight, BitVec.msb_eq_getLsbD_last]
  simp [hi]
theorem lb_one (n : Nat) (hn : n < 64) (i : Nat) : lb ((1 : Int64) <<< ((nI n).toInt64 &&& 63)) i = decide (i = n) := by
  rcases Nat.lt_or_ge i 64 with h | h
  · rw [lb_shl n hn 1 h, lb_1]
    by_cases e : i = n
    · subst e; simp
    · by_cases g : n ≤ i
      · have : ¬ i - n = 0 := by omega
        simp [e, this]
      · simp [e, g]
  · rw [lb_big h, decide_eq_false (by omega)]
theorem lb_has (n : Nat) (hn : n < 64) (x : Int64) : (x >>> ((nI n).toInt64 &&& 63) &&& 1) = if lb x n then 1 else 0 := by
  apply lb_ext
  intro i hi
  rw [lb_and, lb_shr n hn x hi, lb_1]
  by_cases h : i = 0
  · subst h
    simp only [Nat.add_zero, hn, if_true, decide_true, Bool.and_true]
    cases lb x n
    · simp [lb_0]
    · simp [lb_1]
  · cases lb x n
    · simp [lb_0, h]
    · simp [lb_1, h]
theorem rM_has (d : Nat) (z : mm_Z) (F : Nat → Nat → Value) (I : Nat → Nat → Int32) (L : Nat → Nat → Int64) (s : Int64) (c : Nat) (hc : c < 64) (w : Value) : mm_E d mX11_has 0 [.long s, w, .int (nI c)] [] (z, F, I, L) = some (some (.int (bI (lb s c))), (z, F, I, L)) := by
  cases h : lb s c
  · have e : ¬ lg_cmp 0 1 = 0 := by decide
    simp (disch := first | assumption | decide) only [eX11_has_0, eX11_has_1, eX11_has_2, eX11_has_3, eX11_has_4, eX11_has_5, eX11_has_6, eX11_has_7, eX11_has_10, eX11_has_11, eX11_has_14, eX11_has_15, lb_has c hc, h, Bool.false_eq_true, if_false, e, not_false_eq_true, if_true, bI_f]
  · have e : lg_cmp 1 1 = 0 := by decide
    simp (disch := first | assumption | decide) only [eX11_has_0, eX11_has_1, eX11_has_2, eX11_has_3, eX11_has_4, eX11_has_5, eX11_has_6, eX11_has_7, eX11_has_10, eX11_has_11, eX11_has_14, eX11_has_15, lb_has c hc, h, if_true, e, not_true_eq_false, if_false, bI_t]
/-- where a hit comes to lie -/
def pX (x y : Int) (c t : Nat) : Int := ((c % 8 : Nat) : Int) + tuX x y t
def pY (x y : Int) (c t : Nat) : Int := ((c / 8 : Nat) : Int) + tuY x y t
def pIn (x y : Int) (c t : Nat) : Bool := decide ((0 ≤ pX x y c t ∧ pX x y c t ≤ 7) ∧ (0 ≤ pY x y c t ∧ pY x y c t ≤ 7))
def pAt (x y : Int) (c t : Nat) : Int := if pIn x y c t = true then 8 * pY x y c t + pX x y c t else -1
theorem tu_b {x y : Int} (t : Nat) (hx : -7 ≤ x ∧ x ≤ 7) (hy : -7 ≤ y ∧ y ≤ 7) : (-7 ≤ tuX x y t ∧ tuX x y t ≤ 7) ∧ (-7 ≤ tuY x y t ∧ tuY x y t ≤ 7) := by
  unfold tuX tuY
  repeat' split
  all_goals omega
theorem rM_placed (d : Nat) (z : mm_Z) (F : Nat → Nat → Value) (I : Nat → Nat → Int32) (L : Nat → Nat → Int64) (x y : Int) (c t : Nat) (hx : -7 ≤ x ∧ x ≤ 7) (hy : -7 ≤ y ∧ y ≤ 7) (hc : c < 64) (ht : t < 4) : mm_E (d + 1) mX11_placed 0 [.int (iI x), .int (iI y), .int (nI c), .int (nI t), uu, uu] [] (z, F, I, L) = some (some (.int (iI (pAt x y c t))), (z, F, I, L)) := by
  have hb := tu_b t hx hy
  have e8 : ¬ nI 8 = 0 := by decide
  have e2 : nI c / nI 8 = iI ((c / 8 : Nat) : Int) := by rw [pk_div (by omega) (by decide) (by decide), iI_n (by omega)]
  have e1 : nI c - iI ((c / 8 : Nat) : Int) * nI 8 = iI ((c % 8 : Nat) : Int) := by rw [← e2, pk_rem (by omega) (by decide) (by decide), iI_n (by omega)]
  have e3 : (iI (pX x y c t)).toInt = pX x y c t := iI_toInt (by unfold pX; omega) (by unfold pX; omega)
  have e4 : (iI (pY x y c t)).toInt = pY x y c t := iI_toInt (by unfold pY; omega) (by unfold pY; omega)
  have e5 : iI ((c % 8 : Nat) : Int) + iI (tuX x y t) = iI (pX x y c t) := iI_add _ _
  have e6 : iI ((c / 8 : Nat) : Int) + iI (tuY x y t) = iI (pY x y c t) := iI_add _ _
  have e7 : (nI 7).toInt = 7 := rfl
  have e0 : (0 : Int32).toInt = 0 := rfl
  have e9 : nI 8 * iI (pY x y c t) + iI (pX x y c t) = iI (8 * pY x y c t + pX x y c t) := by rw [iI_n (by decide), iI_mul, iI_add]; rfl
  unfold pAt pIn
  simp only [decide_eq_true_eq]
  by_cases h1 : 0 ≤ pX x y c t ∧ pX x y c t ≤ 7
  · by_cases h2 : 0 ≤ pY x y c t ∧ pY x y c t ≤ 7
    · simp (disch := first | assumption | decide) only [eX11_placed_0, eX11_placed_1, eX11_placed_3, eX11_placed_4, eX11_placed_5, eX11_placed_6, eX11_placed_7, eX11_placed_10, eX11_placed_11, eX11_placed_13, eX11_placed_14, eX11_placed_16, eX11_placed_17, eX11_placed_18, eX11_placed_19, eX11_placed_20, eX11_placed_23, eX11_placed_24, eX11_placed_26, eX11_placed_28, eX11_placed_29, eX11_placed_31, eX11_placed_34, eX11_placed_37, eX11_placed_39, eX11_placed_40, eX11_placed_42, eX11_placed_45, eX11_placed_48, eX11_placed_50, eX11_placed_52, eX11_placed_53, eX11_placed_55, eX11_placed_56, eX11_placed_59, eX11_placed_60, rM_turnX, rM_turnY, rM_in, mm_bd_i, e1, e2, e3, e4, e5, e6, e7, e0, h1, h2, decide_true, bI_0, Bool.true_eq_false, if_false, and_self, if_true, e9]
    · simp (disch := first | assumption | decide) only [eX11_placed_0, eX11_placed_1, eX11_placed_3, eX11_placed_4, eX11_placed_5, eX11_placed_6, eX11_placed_7, eX11_placed_10, eX11_placed_11, eX11_placed_13, eX11_placed_14, eX11_placed_16, eX11_placed_17, eX11_placed_18, eX11_placed_19, eX11_placed_20, eX11_placed_23, eX11_placed_24, eX11_placed_26, eX11_placed_28, eX11_placed_29, eX11_placed_31, eX11_placed_34, eX11_placed_37, eX11_placed_39, eX11_placed_40, eX11_placed_42, eX11_placed_45, eX11_placed_48, eX11_placed_50, eX11_placed_52, eX11_placed_53, eX11_placed_55, eX11_placed_56, eX11_placed_59, eX11_placed_60, rM_turnX, rM_turnY, rM_in, mm_bd_i, e1, e2, e3, e4, e5, e6, e7, e0, h1, h2, decide_true, decide_false, bI_0, Bool.true_eq_false, if_false, and_self, if_true, and_false, iI_m1]
  · simp (disch := first | assumption | decide) only [eX11_placed_0, eX11_placed_1, eX11_placed_3, eX11_placed_4, eX11_placed_5, eX11_placed_6, eX11_placed_7, eX11_placed_10, eX11_placed_11, eX11_placed_13, eX11_placed_14, eX11_placed_16, eX11_placed_17, eX11_placed_18, eX11_placed_19, eX11_placed_20, eX11_placed_23, eX11_placed_24, eX11_placed_26, eX11_placed_28, eX11_placed_29, eX11_placed_31, eX11_placed_34, eX11_placed_37, eX11_placed_39, eX11_placed_40, eX11_placed_42, eX11_placed_45, eX11_placed_48, eX11_placed_50, eX11_placed_52, eX11_placed_53, eX11_placed_55, eX11_placed_56, eX11_placed_59, eX11_placed_60, rM_turnX, rM_turnY, rM_in, mm_bd_i, e1, e2, e3, e4, e5, e6, e7, e0, h1, decide_false, bI_0, if_false, if_true, false_and, iI_m1]
