/-! small sets as ints; weights of sets -/
theorem sh_i : ∀ j, j < 32 → ((nI j &&& 31).toBitVec.smod 32).toNat = j := by decide +kernel
theorem n_shl1 {j : Nat} (hj : j < 31) : (1 : Int32) <<< (nI j &&& 31) = nI (2 ^ j) := by
  have h : 1 * 2 ^ j < 2 ^ 32 := by rw [Nat.one_mul]; exact Nat.pow_lt_pow_right (by decide) (by omega)
  have := pk_shlN (n := 1) (nI j &&& 31) j (sh_i j (by omega)) h
  rw [Nat.one_mul] at this
  rw [← this]; rfl
theorem n_bit {S j : Nat} (hS : S < 2 ^ 31) (hj : j < 31) : nI S >>> (nI j &&& 31) &&& 1 = bI (S.testBit j) := by
  rw [pk_shrN hS (nI j &&& 31) j (sh_i j (by omega))]
  have h2 : S / 2 ^ j < 2 ^ 32 := Nat.lt_of_le_of_lt (Nat.div_le_self _ _) (by omega)
  rw [pk_andN h2 (m := 1) 1 (by decide), Nat.testBit_eq_decide_div_mod_eq]
  have : S / 2 ^ j % 2 < 2 := Nat.mod_lt _ (by decide)
  by_cases e : S / 2 ^ j % 2 = 1
  · rw [decide_eq_true e, Nat.pow_one, e]; rfl
  · have e' : S / 2 ^ j % 2 = 0 := by omega
    rw [decide_eq_false e, Nat.pow_one, e']; rfl
theorem n_or (a b : Nat) : nI a ||| nI b = nI (a ||| b) := Int32.toBitVec_inj.mp (by rw [Int32.toBitVec_or]; exact (BitVec.ofNat_or).symm)
theorem tb_add {S E lv : Nat} (hS : S % 2 ^ lv = 0) (hE : E < 2 ^ lv) (i : Nat) : (S + E).testBit i = if i < lv then E.testBit i else S.testBit i := by
  have e : S = 2 ^ lv * (S / 2 ^ lv) := by have := Nat.div_add_mod S (2 ^ lv); omega
  rw [e, Nat.testBit_two_pow_mul_add _ hE]
  split
  · rfl
  · rename_i h
    have := Nat.testBit_two_pow_mul_add (S / 2 ^ lv) (b := 0) (i := lv) (Nat.two_pow_pos lv) i
    rw [Nat.add_zero, if_neg h] at this
    rw [this]
theorem tb_low {S lv i : Nat} (hS : S % 2 ^ lv = 0) (hi : i < lv) : S.testBit i = false := by
  have := tb_add hS (Nat.two_pow_pos lv) i
  rw [Nat.add_zero, if_pos hi, Nat.zero_testBit] at this
  exact this
theorem n_orp {S j : Nat} (hS : S % 2 ^ (j + 1) = 0) : S ||| 2 ^ j = S + 2 ^ j := by
  have e : S = 2 ^ (j + 1) * (S / 2 ^ (j + 1)) := by have := Nat.div_add_mod S (2 ^ (j + 1)); omega
  have h := Nat.two_pow_add_eq_or_of_lt (i := j + 1) (b := 2 ^ j) (Nat.pow_lt_pow_right (by decide) (by omega)) (S / 2 ^ (j + 1))
  rw [← e] at h
  exact h.symm
theorem mod_dn {S j : Nat} (hS : S % 2 ^ (j + 1) = 0) : S % 2 ^ j = 0 ∧ (S + 2 ^ j) % 2 ^ j = 0 := by
  have e : S = 2 ^ j * (2 * (S / 2 ^ (j + 1))) := by
    have := Nat.div_add_mod S (2 ^ (j + 1))
    rw [hS, Nat.add_zero] at this
    have e2 : 2 ^ (j + 1) * (S / 2 ^ (j + 1)) = 2 ^ j * (2 * (S / 2 ^ (j + 1))) := by rw [Nat.pow_succ, Nat.mul_assoc]
    rw [← e2]; exact this.symm
  have h : S % 2 ^ j = 0 := by rw [e]; exact Nat.mul_mod_right _ _
  exact ⟨h, by rw [Nat.add_mod_right]; exact h⟩
/-- the weight of a set -/
def wtS (m : Nat) (jw : Nat → Nat) (S : Nat) : Nat := sumT (fun j => if S.testBit j = true then jw j else 0) m
theorem sumT_add (f g : Nat → Nat) : ∀ k, sumT (fun j => f j + g j) k = sumT f k + sumT g k := by
  intro k
  induction k with
  | zero => rfl
  | succ k ih => rw [sumT, sumT, sumT, ih]; omega
theorem sumT_mono {f g : Nat → Nat} : ∀ k, (∀ j, j < k → f j ≤ g j) → sumT f k ≤ sumT g k := by
  intro k
  induction k with
  | zero => intro _; exact Nat.le_refl _
  | succ k ih => intro h; rw [sumT, sumT]; exact Nat.add_le_add (ih (fun j hj => h j (by omega))) (h k (by omega))
theorem sumT_zero {f : Nat → Nat} : ∀ k, (∀ j, j < k → f j = 0) → sumT f k = 0 := by
  intro k
  induction k with
  | zero => intro _; rfl
  | succ k ih => intro h; rw [sumT, ih (fun j hj => h j (by omega)), h k (by omega)]
/-- a sum over places below lv alone -/
theorem sumT_cut {f : Nat → Nat} {lv : Nat} : ∀ k, lv ≤ k → (∀ j, lv ≤ j → j < k → f j = 0) → sumT f k = sumT f lv := by
  intro k
  induction k with
  | zero => intro h _; have : lv = 0 := by omega
            rw [this]
  | succ k ih =>
    intro h hf
    by_cases e : lv = k + 1
    · rw [e]
    · rw [sumT, ih (by omega) (fun j a b => hf j a (by omega)), hf k (by omega) (by omega)]; rfl
theorem wt_le {m lv : Nat} (jw : Nat → Nat) {S E : Nat} (hlv : lv ≤ m) (hS : S % 2 ^ lv = 0) (hE : E < 2 ^ lv) : wtS m jw (S + E) ≤ wtS m jw S + sumT jw lv := by
  unfold wtS
  have e : sumT jw lv = sumT (fun j => if j < lv then jw j else 0) m := by
    rw [sumT_cut (f := fun j => if j < lv then jw j else 0) m hlv (fun j a _ => if_neg (by omega))]
    exact sumT_congr lv (fun j hj => (if_pos hj).symm)
  rw [e, ← sumT_add]
  apply sumT_mono
  intro j hj
  rw [tb_add hS hE j]
  by_cases c : j < lv
  · rw [if_pos c, if_pos c]; split <;> omega
  · rw [if_neg c, if_neg c]; omega
theorem wt_bit {m j : Nat} (jw : Nat → Nat) {S : Nat} (hj : j < m) (hS : S % 2 ^ (j + 1) = 0) : wtS m jw (S + 2 ^ j) = wtS m jw S + jw j := by
  unfold wtS
  have h2 : 2 ^ j < 2 ^ (j + 1) := Nat.pow_lt_pow_right (by decide) (by omega)
  have e : sumT (fun i => if i = j then jw i else 0) m = jw j := by
    rw [sumT_cut (lv := j + 1) m (by omega) (fun i a _ => if_neg (by omega)), sumT, sumT_zero j (fun i hi => if_neg (by omega)), if_pos rfl, Nat.zero_add]
  rw [← e, ← sumT_add]
  apply sumT_congr
  intro i hi
  rw [tb_add hS h2 i, Nat.testBit_two_pow]
  by_cases c : i = j
  · subst c
    rw [if_pos (Nat.lt_succ_self i), tb_low hS (Nat.lt_succ_self i)]; simp
  · have c' : ¬ j = i := fun q => c q.symm
    by_cases c2 : i < j + 1
    · rw [if_pos c2, tb_low hS c2]; simp [c, c']
    · rw [if_neg c2]; simp [c]
theorem wt_le600 {m S : Nat} (jw : Nat → Nat) (hm : m ≤ 12) (hw : ∀ j, j < m → jw j ≤ 50) : wtS m jw S ≤ 600 := by
  have h1 : wtS m jw S ≤ sumT (fun _ => 50) m := sumT_mono m (fun j hj => by have := hw j hj; split <;> omega)
  have h2 := sumT_le (fun _ => 50) 50 (fun _ => Nat.le_refl _) m
  omega
