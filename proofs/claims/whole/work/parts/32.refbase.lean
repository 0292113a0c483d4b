/-! the reference's small methods -/
theorem rM_in (d : Nat) (z : mm_Z) (F : Nat → Nat → Value) (I : Nat → Nat → Int32) (L : Nat → Nat → Int64) (x a b : Int32) : mm_E d mX11_in 0 [.int x, .int a, .int b] [] (z, F, I, L) = some (some (.int (bI (decide (a.toInt ≤ x.toInt ∧ x.toInt ≤ b.toInt)))), (z, F, I, L)) := by
  by_cases h1 : x < a
  · have e : ¬ (a.toInt ≤ x.toInt ∧ x.toInt ≤ b.toInt) := by rw [Int32.lt_iff_toInt_lt] at h1; omega
    simp (disch := first | assumption | decide) only [eX11_in_0, eX11_in_1, eX11_in_2, eX11_in_5, eX11_in_6, eX11_in_7, eX11_in_10, eX11_in_11, eX11_in_14, eX11_in_15, h1, if_true, e, decide_false, bI_f]
  · by_cases h2 : b < x
    · have e : ¬ (a.toInt ≤ x.toInt ∧ x.toInt ≤ b.toInt) := by rw [Int32.lt_iff_toInt_lt] at h2; omega
      simp (disch := first | assumption | decide) only [eX11_in_0, eX11_in_1, eX11_in_2, eX11_in_5, eX11_in_6, eX11_in_7, eX11_in_10, eX11_in_11, eX11_in_14, eX11_in_15, h1, h2, if_true, if_false, e, decide_false, bI_f]
    · have e : a.toInt ≤ x.toInt ∧ x.toInt ≤ b.toInt := by rw [Int32.lt_iff_toInt_lt] at h1 h2; omega
      simp (disch := first | assumption | decide) only [eX11_in_0, eX11_in_1, eX11_in_2, eX11_in_5, eX11_in_6, eX11_in_7, eX11_in_10, eX11_in_11, eX11_in_14, eX11_in_15, h1, h2, if_true, if_false, e, decide_true, bI_t, and_self]
theorem rM_isSweep (d : Nat) (z : mm_Z) (F : Nat → Nat → Value) (I : Nat → Nat → Int32) (L : Nat → Nat → Int64) (hz : zOK z) (x : Int32) (n : Nat) (hn8 : n ≤ 8) (hn : F 120 0 = .int (nI n)) : mm_E (d + 1) mX11_isSweep 0 [.ref 120, .int x] [] (z, F, I, L) = some (some (.int (bI (decide (0 ≤ x.toInt ∧ x.toInt < n)))), (z, F, I, L)) := by
  have e : (nI n - 1).toInt = (n : Int) - 1 := by rw [iI_n (by omega), ← iI_1, iI_sub, iI_toInt (by omega) (by omega)]
  have e0 : (0 : Int32).toInt = 0 := rfl
  simp (disch := first | assumption | decide | exact zO_120 hz | exact bI_or _) only [eX11_isSweep_0, eX11_isSweep_1, eX11_isSweep_2, eX11_isSweep_3, eX11_isSweep_6, eX11_isSweep_7, eX11_isSweep_8, eX11_isSweep_11, hn, rM_in, mm_bd_i, e, e0]
  rw [bI_d (q := 0 ≤ x.toInt ∧ x.toInt < n) (by omega)]
theorem rM_isCell (d : Nat) (z : mm_Z) (F : Nat → Nat → Value) (I : Nat → Nat → Int32) (L : Nat → Nat → Int64) (x : Int32) : mm_E (d + 1) mX11_isCell 0 [.int x] [] (z, F, I, L) = some (some (.int (bI (decide (0 ≤ x.toInt ∧ x.toInt < 64)))), (z, F, I, L)) := by
  have e : (nI 63).toInt = 63 := rfl
  have e0 : (0 : Int32).toInt = 0 := rfl
  simp (disch := first | assumption | decide | exact bI_or _) only [eX11_isCell_0, eX11_isCell_1, eX11_isCell_2, eX11_isCell_4, eX11_isCell_7, rM_in, mm_bd_i, e, e0]
  rw [bI_d (q := 0 ≤ x.toInt ∧ x.toInt < 64) (by omega)]
def tuX (x y : Int) (t : Nat) : Int := if t = 0 then x else if t = 1 then -y else if t = 2 then -x else y
def tuY (x y : Int) (t : Nat) : Int := if t = 0 then y else if t = 1 then x else if t = 2 then -y else -x
theorem rM_turnX (d : Nat) (z : mm_Z) (F : Nat → Nat → Value) (I : Nat → Nat → Int32) (L : Nat → Nat → Int64) (x y : Int) (t : Nat) (ht : t < 4) : mm_E d mX11_turnX 0 [.int (iI x), .int (iI y), .int (nI t)] [] (z, F, I, L) = some (some (.int (iI (tuX x y t))), (z, F, I, L)) := by
  have h : t = 0 ∨ t = 1 ∨ t = 2 ∨ t = 3 := by omega
  rcases h with rfl | rfl | rfl | rfl <;> simp (disch := decide) only [eX11_turnX_0, eX11_turnX_1, eX11_turnX_4, eX11_turnX_5, eX11_turnX_8, eX11_turnX_9, eX11_turnX_10, eX11_turnX_13, eX11_turnX_14, eX11_turnX_15, eX11_turnX_18, eX11_turnX_19, eX11_turnX_20, eX11_turnX_23, eX11_turnX_24, eX11_turnX_25, eX11_turnX_28, eX11_turnX_29, iI_neg] <;> rfl
theorem rM_turnY (d : Nat) (z : mm_Z) (F : Nat → Nat → Value) (I : Nat → Nat → Int32) (L : Nat → Nat → Int64) (x y : Int) (t : Nat) (ht : t < 4) : mm_E d mX11_turnY 0 [.int (iI x), .int (iI y), .int (nI t)] [] (z, F, I, L) = some (some (.int (iI (tuY x y t))), (z, F, I, L)) := by
  have h : t = 0 ∨ t = 1 ∨ t = 2 ∨ t = 3 := by omega
  rcases h with rfl | rfl | rfl | rfl <;> simp (disch := decide) only [eX11_turnY_0, eX11_turnY_1, eX11_turnY_4, eX11_turnY_5, eX11_turnY_8, eX11_turnY_9, eX11_turnY_10, eX11_turnY_13, eX11_turnY_14, eX11_turnY_17, eX11_turnY_18, eX11_turnY_19, eX11_turnY_22, eX11_turnY_23, eX11_turnY_24, eX11_turnY_27, eX11_turnY_28, eX11_turnY_29, iI_neg] <;> rfl
