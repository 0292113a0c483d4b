/-! what is seen from a cell: lines over cells; see and next of the class -/
def dX (a c : Nat) : Int := ((c % 8 : Nat) : Int) - ((a % 8 : Nat) : Int)
def dY (a c : Nat) : Int := ((c / 8 : Nat) : Int) - ((a / 8 : Nat) : Int)
def gA (a c : Nat) : Nat := Int.gcd (dX a c) (dY a c)
def uX (a c : Nat) : Int := (dX a c).tdiv (gA a c)
def uY (a c : Nat) : Int := (dY a c).tdiv (gA a c)
theorem gA_of {a c : Nat} {u v : Int} {g : Nat} (hx : dX a c = g * u) (hy : dY a c = g * v) (h1 : Int.gcd u v = 1) (hg : 0 < g) : gA a c = g ∧ uX a c = u ∧ uY a c = v := by
  have e : gA a c = g := by unfold gA; rw [hx, hy, Int.gcd_mul_left, h1, Int.natAbs_natCast, Nat.mul_one]
  have g0 : (g : Int) ≠ 0 := by omega
  refine ⟨e, ?_, ?_⟩
  · unfold uX; rw [e, hx, Int.mul_tdiv_cancel_left _ g0]
  · unfold uY; rw [e, hy, Int.mul_tdiv_cancel_left _ g0]
theorem gA_spec {a c : Nat} (h : 0 < gA a c) : dX a c = gA a c * uX a c ∧ dY a c = gA a c * uY a c ∧ Int.gcd (uX a c) (uY a c) = 1 := by
  obtain ⟨u, hu⟩ := Int.gcd_dvd_left (dX a c) (dY a c)
  obtain ⟨v, hv⟩ := Int.gcd_dvd_right (dX a c) (dY a c)
  have g0 : ((gA a c : Nat) : Int) ≠ 0 := by omega
  have e1 : uX a c = u := by unfold uX; conv => lhs; rw [hu]
                             exact Int.mul_tdiv_cancel_left _ g0
  have e2 : uY a c = v := by unfold uY; conv => lhs; rw [hv]
                             exact Int.mul_tdiv_cancel_left _ g0
  refine ⟨by rw [e1]; exact hu, by rw [e2]; exact hv, ?_⟩
  have e3 : gA a c = gA a c * Int.gcd u v := by
    have : Int.gcd (dX a c) (dY a c) = Int.gcd (((gA a c : Nat) : Int) * u) (((gA a c : Nat) : Int) * v) := by
      have h1 : dX a c = ((gA a c : Nat) : Int) * u := hu
      have h2 : dY a c = ((gA a c : Nat) : Int) * v := hv
      rw [← h1, ← h2]
    rw [Int.gcd_mul_left, Int.natAbs_natCast] at this
    exact this
  rw [e1, e2]
  have := Nat.eq_of_mul_eq_mul_left h (show gA a c * Int.gcd u v = gA a c * 1 by rw [Nat.mul_one]; exact e3.symm)
  exact this
theorem gA_pos {a c : Nat} (h : ¬ c = a) : 0 < gA a c := by
  apply Nat.pos_of_ne_zero
  intro e
  have := Int.gcd_eq_zero_iff.mp e
  unfold dX dY at this
  omega
theorem gA_self (a : Nat) : gA a a = 0 := by unfold gA dX dY; rw [Int.sub_self, Int.sub_self]; rfl
theorem cvx {p u : Int} {i g : Nat} (h0 : 0 ≤ p ∧ p ≤ 7) (h1 : 0 ≤ p + g * u ∧ p + g * u ≤ 7) (hi : i ≤ g) : 0 ≤ p + i * u ∧ p + i * u ≤ 7 := by
  by_cases c : 0 ≤ u
  · have a : (i : Int) * u ≤ g * u := Int.mul_le_mul_of_nonneg_right (by omega) c
    have b : 0 ≤ (i : Int) * u := Int.mul_nonneg (by omega) c
    omega
  · have a : (i : Int) * (-u) ≤ g * (-u) := Int.mul_le_mul_of_nonneg_right (by omega) (by omega)
    have b : 0 ≤ (i : Int) * (-u) := Int.mul_nonneg (by omega) (by omega)
    rw [Int.mul_neg] at a b
    rw [Int.mul_neg] at a
    omega
def rc (a t i : Nat) : Nat := ((a : Int) + i * uX a t + 8 * (i * uY a t)).toNat
def bhP (a c t : Nat) : Prop := ∃ i : Nat, 1 ≤ i ∧ dX c t = i * uX a c ∧ dY c t = i * uY a c
def snB (K : Nat → Nat) (a t : Nat) : Bool := (List.range (gA a t)).all (fun i => decide (i = 0) || decide (K (rc a t i) < 2))
theorem snB_f {K : Nat → Nat} {a t : Nat} : snB K a t = false ↔ ∃ i, 1 ≤ i ∧ i < gA a t ∧ ¬ K (rc a t i) < 2 := by
  unfold snB
  rw [List.all_eq_false]
  constructor
  · rintro ⟨i, i1, i2⟩
    rw [List.mem_range] at i1
    rw [Bool.or_eq_true, decide_eq_true_eq, decide_eq_true_eq] at i2
    exact ⟨i, by omega, i1, fun q => i2 (Or.inr q)⟩
  · rintro ⟨i, i1, i2, i3⟩
    refine ⟨i, List.mem_range.mpr i2, ?_⟩
    rw [Bool.or_eq_true, decide_eq_true_eq, decide_eq_true_eq]
    rintro (q | q)
    · omega
    · exact i3 q
theorem rc_in {a t i : Nat} (ha : a < 64) (ht : t < 64) (hi : i ≤ gA a t) (hg : 0 < gA a t) : rc a t i < 64 ∧ dX a (rc a t i) = i * uX a t ∧ dY a (rc a t i) = i * uY a t ∧ ((rc a t i : Nat) : Int) = (a : Int) + i * uX a t + 8 * (i * uY a t) := by
  obtain ⟨s1, s2, s3⟩ := gA_spec hg
  have x0 : 0 ≤ ((a % 8 : Nat) : Int) ∧ ((a % 8 : Nat) : Int) ≤ 7 := by omega
  have y0 : 0 ≤ ((a / 8 : Nat) : Int) ∧ ((a / 8 : Nat) : Int) ≤ 7 := by omega
  have x1 := cvx x0 (by rw [← s1]; unfold dX; omega) hi
  have y1 := cvx y0 (by rw [← s2]; unfold dY; omega) hi
  unfold rc dX dY
  generalize (i : Int) * uX a t = p at *
  generalize (i : Int) * uY a t = q at *
  omega
theorem sn_iff (K : Nat → Nat) {a t : Nat} (ha : a < 64) (ht : t < 64) : (∃ c, c < 64 ∧ ¬ K c < 2 ∧ ¬ c = a ∧ bhP a c t) ↔ snB K a t = false := by
  rw [snB_f]
  constructor
  · rintro ⟨c, c1, c2, c3, j, j1, j2, j3⟩
    have gp := gA_pos c3
    obtain ⟨s1, s2, s3⟩ := gA_spec gp
    have tx : dX a t = ((gA a c + j : Nat) : Int) * uX a c := by
      have : dX a t = dX a c + dX c t := by unfold dX; omega
      rw [this, s1, j2, Int.natCast_add, Int.add_mul]
    have ty : dY a t = ((gA a c + j : Nat) : Int) * uY a c := by
      have : dY a t = dY a c + dY c t := by unfold dY; omega
      rw [this, s2, j3, Int.natCast_add, Int.add_mul]
    obtain ⟨e1, e2, e3⟩ := gA_of tx ty s3 (by omega)
    refine ⟨gA a c, gp, by omega, ?_⟩
    have : rc a t (gA a c) = c := by
      unfold rc
      rw [e2, e3, ← s1, ← s2]
      unfold dX dY
      omega
    rw [this]; exact c2
  · rintro ⟨i, i1, i2, i3⟩
    have hg : 0 < gA a t := by omega
    obtain ⟨r1, r2, r3, r4⟩ := rc_in ha ht (Nat.le_of_lt i2) hg
    obtain ⟨s1, s2, s3⟩ := gA_spec hg
    obtain ⟨e1, e2, e3⟩ := gA_of r2 r3 s3 (by omega)
    refine ⟨rc a t i, r1, i3, fun e => ?_, gA a t - i, by omega, ?_, ?_⟩
    · rw [e, gA_self] at e1; omega
    · rw [e2, show ((gA a t - i : Nat) : Int) = (gA a t : Int) - i by omega, Int.sub_mul, ← s1, ← r2]; unfold dX; omega
    · rw [e3, show ((gA a t - i : Nat) : Int) = (gA a t : Int) - i by omega, Int.sub_mul, ← s2, ← r3]; unfold dY; omega
theorem uB {a c : Nat} (ha : a < 64) (hc : c < 64) (h : ¬ c = a) : (-7 ≤ uX a c ∧ uX a c ≤ 7) ∧ (-7 ≤ uY a c ∧ uY a c ≤ 7) ∧ ¬ (uX a c = 0 ∧ uY a c = 0) ∧ gA a c ≤ 7 := by
  have gp := gA_pos h
  obtain ⟨s1, s2, s3⟩ := gA_spec gp
  have n1 : (dX a c).natAbs = gA a c * (uX a c).natAbs := (congrArg Int.natAbs s1).trans (by rw [Int.natAbs_mul, Int.natAbs_natCast])
  have n2 : (dY a c).natAbs = gA a c * (uY a c).natAbs := (congrArg Int.natAbs s2).trans (by rw [Int.natAbs_mul, Int.natAbs_natCast])
  have b1 : (dX a c).natAbs ≤ 7 := by unfold dX; omega
  have b2 : (dY a c).natAbs ≤ 7 := by unfold dY; omega
  have l1 : (uX a c).natAbs ≤ gA a c * (uX a c).natAbs := Nat.le_mul_of_pos_left _ gp
  have l2 : (uY a c).natAbs ≤ gA a c * (uY a c).natAbs := Nat.le_mul_of_pos_left _ gp
  have nz : ¬ (uX a c = 0 ∧ uY a c = 0) := fun q => by rw [q.1, q.2] at s3; exact absurd s3 (by decide)
  refine ⟨by omega, by omega, nz, ?_⟩
  by_cases q : uX a c = 0
  · have : 1 ≤ (uY a c).natAbs := by omega
    have := Nat.le_mul_of_pos_right (gA a c) this
    omega
  · have : 1 ≤ (uX a c).natAbs := by omega
    have := Nat.le_mul_of_pos_right (gA a c) this
    omega
