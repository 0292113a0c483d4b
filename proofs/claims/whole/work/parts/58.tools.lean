/-! tools: loops that count up; comparisons of small numbers -/
theorem lp {P : Nat → Prop} {n : Nat} (h0 : P n) (hs : ∀ i, i < n → P (i + 1) → P i) : ∀ i, i ≤ n → P i := by
  intro i hi
  obtain ⟨k, hk⟩ : ∃ k, i + k = n := ⟨n - i, by omega⟩
  induction k generalizing i with
  | zero => have e : i = n := by omega
            rw [e]; exact h0
  | succ k ih => exact hs i (by omega) (ih (i + 1) (by omega) (by omega))
theorem nI_iI (n : Nat) : nI n = iI (n : Int) := Int32.ofInt_eq_ofNat.symm
theorem iI_nn {a : Int} (h : 0 ≤ a) : iI a = nI a.toNat := by rw [nI_iI, Int.toNat_of_nonneg h]
theorem n_le0 {a : Nat} (h : a < 2 ^ 31) : nI a ≤ 0 ↔ a = 0 := by rw [← nI_0, nI_leI h (by decide)]; omega
theorem n_0lt {a : Nat} (h : a < 2 ^ 31) : 0 < nI a ↔ ¬ a = 0 := by rw [← nI_0, nI_ltI (by decide) h]; omega
theorem n_lt0 {a : Nat} (h : a < 2 ^ 31) : nI a < 0 ↔ False := ⟨fun q => nI_pos h q, False.elim⟩
theorem n_0le {a : Nat} (h : a < 2 ^ 31) : 0 ≤ nI a ↔ True := ⟨fun _ => trivial, fun _ => nI_pos' h⟩
theorem n_eq0 {a : Nat} (h : a < 2 ^ 31) : nI a = 0 ↔ a = 0 := by rw [← nI_0, nI_eq h (by decide)]
theorem n_eqm {a : Nat} (h : a < 2 ^ 31) : nI a = -1 ↔ False := ⟨fun q => nI_nm1 h q, False.elim⟩
theorem n1e : (1 : Int32) = nI 1 := by decide +kernel
theorem n_eq1 {a : Nat} (h : a < 2 ^ 31) : nI a = 1 ↔ a = 1 := by rw [n1e, nI_eq h (by decide)]
theorem n_le1 {a : Nat} (h : a < 2 ^ 31) : nI a ≤ 1 ↔ ¬ 1 < a := by rw [n1e, nI_leI h (by decide)]; omega
theorem n_1lt {a : Nat} (h : a < 2 ^ 31) : 1 < nI a ↔ 1 < a := by rw [n1e, nI_ltI (by decide) h]
theorem n_1le {a : Nat} (h : a < 2 ^ 31) : 1 ≤ nI a ↔ ¬ a = 0 := by rw [n1e, nI_leI (by decide) h]; omega
theorem n_lt1 {a : Nat} (h : a < 2 ^ 31) : nI a < 1 ↔ a = 0 := by rw [n1e, nI_ltI h (by decide)]; omega
theorem i_eq0 {a : Int} (h : -2147483648 ≤ a) (h' : a < 2147483648) : iI a = 0 ↔ a = 0 := by rw [← iI_0, iI_eq h h' (by decide) (by decide)]
theorem i_eqm {a : Int} (h : -2147483648 ≤ a) (h' : a < 2147483648) : iI a = -1 ↔ a = -1 := by rw [← iI_m1, iI_eq h h' (by decide) (by decide)]
theorem i_0le {a : Int} (h : -2147483648 ≤ a) (h' : a < 2147483648) : 0 ≤ iI a ↔ ¬ a < 0 := by rw [← iI_0, iI_le (by decide) (by decide) h h']; omega
theorem i_le0 {a : Int} (h : -2147483648 ≤ a) (h' : a < 2147483648) : iI a ≤ 0 ↔ ¬ 0 < a := by rw [← iI_0, iI_le h h' (by decide) (by decide)]; omega
theorem i_0lt {a : Int} (h : -2147483648 ≤ a) (h' : a < 2147483648) : 0 < iI a ↔ 0 < a := by rw [← iI_0, iI_lt (by decide) (by decide) h h']
theorem i_lt0 {a : Int} (h : -2147483648 ≤ a) (h' : a < 2147483648) : iI a < 0 ↔ a < 0 := by rw [← iI_0, iI_lt h h' (by decide) (by decide)]
theorem i_mle {a : Int} (h : -2147483648 ≤ a) (h' : a < 2147483648) : -1 ≤ iI a ↔ ¬ a < -1 := by rw [← iI_m1, iI_le (by decide) (by decide) h h']; omega
theorem i_ltm {a : Int} (h : -2147483648 ≤ a) (h' : a < 2147483648) : iI a < -1 ↔ a < -1 := by rw [← iI_m1, iI_lt h h' (by decide) (by decide)]
theorem ni_le {a : Nat} {b : Int} (h : a < 2 ^ 31) (h1 : -2147483648 ≤ b) (h2 : b < 2147483648) : nI a ≤ iI b ↔ ¬ b < (a : Int) := by rw [nI_iI, iI_le (by omega) (by omega) h1 h2]; omega
theorem ni_lt {a : Nat} {b : Int} (h : a < 2 ^ 31) (h1 : -2147483648 ≤ b) (h2 : b < 2147483648) : nI a < iI b ↔ (a : Int) < b := by rw [nI_iI, iI_lt (by omega) (by omega) h1 h2]
theorem ni_eq {a : Nat} {b : Int} (h : a < 2 ^ 31) (h1 : -2147483648 ≤ b) (h2 : b < 2147483648) : nI a = iI b ↔ (a : Int) = b := by rw [nI_iI, iI_eq (by omega) (by omega) h1 h2]
theorem in_le {a : Int} {b : Nat} (h1 : -2147483648 ≤ a) (h2 : a < 2147483648) (h : b < 2 ^ 31) : iI a ≤ nI b ↔ ¬ (b : Int) < a := by rw [nI_iI, iI_le h1 h2 (by omega) (by omega)]; omega
theorem in_lt {a : Int} {b : Nat} (h1 : -2147483648 ≤ a) (h2 : a < 2147483648) (h : b < 2 ^ 31) : iI a < nI b ↔ a < (b : Int) := by rw [nI_iI, iI_lt h1 h2 (by omega) (by omega)]
theorem in_eq {a : Int} {b : Nat} (h1 : -2147483648 ≤ a) (h2 : a < 2147483648) (h : b < 2 ^ 31) : iI a = nI b ↔ a = (b : Int) := by rw [nI_iI, iI_eq h1 h2 (by omega) (by omega)]
theorem ni_add (a : Nat) (b : Int) : nI a + iI b = iI (a + b) := by rw [nI_iI, iI_add]
theorem in_add (a : Int) (b : Nat) : iI a + nI b = iI (a + b) := by rw [nI_iI, iI_add]
theorem ni_sub (a : Nat) (b : Int) : nI a - iI b = iI (a - b) := by rw [nI_iI, iI_sub]
theorem in_sub (a : Int) (b : Nat) : iI a - nI b = iI (a - b) := by rw [nI_iI, iI_sub]
theorem nn_sub (a b : Nat) : nI a - nI b = iI ((a : Int) - b) := by rw [nI_iI, nI_iI, iI_sub]
theorem ni_mul (a : Nat) (b : Int) : nI a * iI b = iI (a * b) := by rw [nI_iI, iI_mul]
theorem in_mul (a : Int) (b : Nat) : iI a * nI b = iI (a * b) := by rw [nI_iI, iI_mul]
theorem i1e : (1 : Int32) = iI 1 := by decide +kernel
theorem i_p1 (a : Int) : iI a + 1 = iI (a + 1) := iI_p1 a
theorem i_s1 (a : Int) : iI a - 1 = iI (a - 1) := by rw [i1e, iI_sub]
theorem n_s1 (a : Nat) : nI a - 1 = iI ((a : Int) - 1) := by rw [nI_iI, i1e, iI_sub]
theorem n_neg (a : Nat) : - nI a = iI (- (a : Int)) := by rw [nI_iI, iI_neg]
theorem i_0s (a : Int) : 0 - iI a = iI (- a) := by rw [← iI_0, iI_sub]; congr 1; omega
theorem ix {z : mm_Z} {r N i : Nat} (h : mm_zl z r = N) (hi : i < N ∧ N < 2 ^ 31) : vp_in (nI i) (mm_zl z r) := vi h hi.1 hi.2
theorem ite_bI (b : Bool) {α : Type} (x y : α) : (if bI b = 0 then x else y) = if b = true then y else x := by cases b <;> rfl
theorem bI_if (b : Bool) : (if b = true then (1 : Int32) else 0) = bI b := by cases b <;> rfl
theorem bI_e1 (b : Bool) : bI b = 1 ↔ b = true := by cases b <;> decide
theorem bI_tt : (1 : Int32) = bI true := rfl
theorem bI_ff : (0 : Int32) = bI false := rfl
theorem tI0 : (0 : Int32).toInt = 0 := rfl
theorem tI1 : (1 : Int32).toInt = 1 := rfl
theorem tIm1 : (-1 : Int32).toInt = -1 := rfl
theorem tIm7 : (-7 : Int32).toInt = -7 := rfl
theorem e10f : ((1 : Int32) = 0) = False := by decide
theorem e01f : ((0 : Int32) = 1) = False := by decide
theorem nn_le {a b : Nat} (ha : a < 2 ^ 31) (hb : b < 2 ^ 31) : nI a ≤ nI b ↔ ¬ b < a := by rw [nI_leI ha hb]; omega
theorem ii_le {a b : Int} (ha : -2147483648 ≤ a) (ha' : a < 2147483648) (hb : -2147483648 ≤ b) (hb' : b < 2147483648) : iI a ≤ iI b ↔ ¬ b < a := by rw [iI_le ha ha' hb hb']; omega
theorem nlr (n : Nat) : (n < n) = False := by simp
