/-! small numbers with a sign, truth values, and what steps are common to all methods -/
def iI (a : Int) : Int32 := Int32.ofInt a
theorem iI_toInt {a : Int} (h1 : -2147483648 ≤ a) (h2 : a < 2147483648) : (iI a).toInt = a := Int32.toInt_ofInt_of_le (by simpa using h1) (by simpa using h2)
theorem iI_add (a b : Int) : iI a + iI b = iI (a + b) := (Int32.ofInt_add a b).symm
theorem iI_sub (a b : Int) : iI a - iI b = iI (a - b) := (Int32.ofInt_sub a b).symm
theorem iI_mul (a b : Int) : iI a * iI b = iI (a * b) := (Int32.ofInt_mul a b).symm
theorem iI_neg (a : Int) : - iI a = iI (-a) := (Int32.ofInt_neg a).symm
theorem iI_of (x : Int32) : x = iI x.toInt := (Int32.ofInt_toInt x).symm
theorem iI_n {n : Nat} (h : n < 2 ^ 31) : nI n = iI n := by rw [iI_of (nI n), nI_toInt h]
theorem iI_lt {a b : Int} (ha : -2147483648 ≤ a) (ha' : a < 2147483648) (hb : -2147483648 ≤ b) (hb' : b < 2147483648) : iI a < iI b ↔ a < b := by rw [Int32.lt_iff_toInt_lt, iI_toInt ha ha', iI_toInt hb hb']
theorem iI_le {a b : Int} (ha : -2147483648 ≤ a) (ha' : a < 2147483648) (hb : -2147483648 ≤ b) (hb' : b < 2147483648) : iI a ≤ iI b ↔ a ≤ b := by rw [Int32.le_iff_toInt_le, iI_toInt ha ha', iI_toInt hb hb']
theorem iI_eq {a b : Int} (ha : -2147483648 ≤ a) (ha' : a < 2147483648) (hb : -2147483648 ≤ b) (hb' : b < 2147483648) : iI a = iI b ↔ a = b := by rw [← Int32.toInt_inj, iI_toInt ha ha', iI_toInt hb hb']
theorem iI_0 : iI 0 = 0 := by decide +kernel
theorem iI_1 : iI 1 = 1 := by decide +kernel
theorem iI_m1 : iI (-1) = -1 := by decide +kernel
theorem iI_div {a b : Int} (ha : -2147483648 < a) (ha' : a < 2147483648) (hb : -2147483648 < b) (hb' : b < 2147483648) : iI a / iI b = iI (a.tdiv b) := by
  have h : -2147483648 < a.tdiv b ∧ a.tdiv b < 2147483648 := by
    have h1 : (a.tdiv b).natAbs ≤ a.natAbs := Int.natAbs_tdiv_le_natAbs a b
    omega
  rw [← Int32.toInt_inj, Int32.toInt_div, iI_toInt (by omega) ha', iI_toInt (by omega) hb', iI_toInt (by omega) h.2]
  exact Int.bmod_eq_of_le (by omega) (by omega)
theorem iI_rem {a b : Int} (ha : -2147483648 < a) (ha' : a < 2147483648) (hb : -2147483648 < b) (hb' : b < 2147483648) : iI a - iI a / iI b * iI b = iI (a.tmod b) := by
  rw [iI_div ha ha' hb hb', iI_mul, iI_sub]
  congr 1
  have h := Int.mul_tdiv_add_tmod a b
  have h2 : b * a.tdiv b = a.tdiv b * b := Int.mul_comm _ _
  omega
def bI (b : Bool) : Int32 := if b then 1 else 0
theorem bI_or (b : Bool) : bI b = 0 ∨ bI b = 1 := by cases b <;> simp [bI]
theorem bI_0 (b : Bool) : bI b = 0 ↔ b = false := by cases b <;> decide
theorem bI_n0 (b : Bool) : (¬ bI b = 0) ↔ b = true := by cases b <;> decide
theorem bI_t : bI true = 1 := rfl
theorem bI_f : bI false = 0 := rfl
theorem bI_d {p q : Prop} [Decidable p] [Decidable q] (h : p ↔ q) : bI (decide p) = bI (decide q) := by rw [decide_eq_decide.mpr h]
