/-! what is seen from a cell: lines over cells; see and next of the class -/
def dX (a c : Nat) : Int := ((c % 8 : Nat) : Int) - ((a % 8 : Nat) : Int)
def dY (a c : Nat) : Int := ((c / 8 : Nat) : Int) - ((a / 8 : Nat) : Int)
def gA (a c : Nat) : Nat := Int.gcd (dX a c) (dY a c)
def uX (a c : Nat) : Int := (dX a c).tdiv (gA a c)
def uY (a c : Nat) : Int := (dY a c).tdiv (gA a c)
theorem gA_of {a c : Nat} {u v : Int} {g : Nat} (hx : dX a c = g * u) (hy : dY a c = g * v) (h1 : Int.gcd u v = 1) (hg : 0 < g) : gA a c = g ∧ uX a c = u ∧ uY a c = v := by
  have e : gA a c = g := by unfold gA; rw [hx, hy, Int.gcd_mul_left, h1, Int.natAbs_natCast, Nat.mul_one]
  have g0 : (g : Int) ≠ 0 := by omega
  refine ⟨e, ?_, ?_⟩
  · unfold uX; rw [e, hx, Int.mul_tdiv_cancel_left _ g0]
  · unfold uY; rw [e, hy, Int.mul_tdiv_cancel_left _ g0]
theorem gA_spec {a c : Nat} (h : 0 < gA a c) : dX a c = gA a c * uX a c ∧ dY a c = gA a c * uY a c ∧ Int.gcd (uX a c) (uY a c) = 1 := by
  obtain ⟨u, hu⟩ := Int.gcd_dvd_left (dX a c) (dY a c)
  obtain ⟨v, hv⟩ := Int.gcd_dvd_right (dX a c) (dY a c)
  have g0 : ((gA a c : Nat) : Int) ≠ 0 := by omega
  have e1 : uX a c = u := by unfold uX; conv => lhs; rw [hu]
                             exact Int.mul_tdiv_cancel_left _ g0
  have e2 : uY a c = v := by unfold uY; conv => lhs; rw [hv]
                             exact Int.mul_tdiv_cancel_left _ g0
  refine ⟨by rw [e1]; exact hu, by rw [e2]; exact hv, ?_⟩
  have e3 : gA a c = gA a c * Int.gcd u v := by
    have : Int.gcd (dX a c) (dY a c) = Int.gcd (((gA a c : Nat) : Int) * u) (((gA a c : Nat) : Int) * v) := by
      have h1 : dX a c = ((gA a c : Nat) : Int) * u := hu
      have h2 : dY a c = ((gA a c : Nat) : Int) * v := hv
      rw [← h1, ← h2]
    rw [Int.gcd_mul_left, Int.natAbs_natCast] at this
    exact this
  rw [e1, e2]
  have := Nat.eq_of_mul_eq_mul_left h (show gA a c * Int.gcd u v = gA a c * 1 by rw [Nat.mul_one]; exact e3.symm)
  exact this
theorem gA_pos {a c : Nat} (h : ¬ c = a) : 0 < gA a c := by
  apply Nat.pos_of_ne_zero
  intro e
  have := Int.gcd_eq_zero_iff.mp e
  unfold dX dY at this
  omega
theorem gA_self (a : Nat) : gA a a = 0 := by unfold gA dX dY; rw [Int.sub_self, Int.sub_self]; rfl
theorem cvx {p u : Int} {i g : Nat} (h0 : 0 ≤ p ∧ p ≤ 7) (h1 : 0 ≤ p + g * u ∧ p + g * u ≤ 7) (hi : i ≤ g) : 0 ≤ p + i * u ∧ p + i * u ≤ 7 := by
  by_cases c : 0 ≤ u
  · have a : (i : Int) * u ≤ g * u := Int.mul_le_mul_of_nonneg_right (by omega) c
    have b : 0 ≤ (i : Int) * u := Int.mul_nonneg (by omega) c
    omega
  · have a : (i : Int) * (-u) ≤ g * (-u) := Int.mul_le_mul_of_nonneg_right (by omega) (by omega)
    have b : 0 ≤ (i : Int) * (-u) := Int.mul_nonneg (by omega) (by omega)
    rw [Int.mul_neg] at a b
    rw [Int.mul_neg] at a
    omega
def rc (a t i : Nat) : Nat := ((a : Int) + i * uX a t + 8 * (i * uY a t)).toNat
def bhP (a c t : Nat) : Prop := ∃ i : Nat, 1 ≤ i ∧ dX c t = i * uX a c ∧ dY c t = i * uY a c
def snB (K : Nat → Nat) (a t : Nat) : Bool := (List.range (gA a t)).all (fun i => decide (i = 0) || decide (K (rc a t i) < 2))
theorem snB_f {K : Nat → Nat} {a t : Nat} : snB K a t = false ↔ ∃ i, 1 ≤ i ∧ i < gA a t ∧ ¬ K (rc a t i) < 2 := by
  unfold snB
  rw [List.all_eq_false]
  constructor
  · rintro ⟨i, i1, i2⟩
    rw [List.mem_range] at i1
    rw [Bool.or_eq_true, decide_eq_true_eq, decide_eq_true_eq] at i2
    exact ⟨i, by omega, i1, fun q => i2 (Or.inr q)⟩
  · rintro ⟨i, i1, i2, i3⟩
    refine ⟨i, List.mem_range.mpr i2, ?_⟩
    rw [Bool.or_eq_true, decide_eq_true_eq, decide_eq_true_eq]
    rintro (q | q)
    · omega
    · exact i3 q
theorem rc_in {a t i : Nat} (ha : a < 64) (ht : t < 64) (hi : i ≤ gA a t) (hg : 0 < gA a t) : rc a t i < 64 ∧ dX a (rc a t i) = i * uX a t ∧ dY a (rc a t i) = i * uY a t ∧ ((rc a t i : Nat) : Int) = (a : Int) + i * uX a t + 8 * (i * uY a t) := by
  obtain ⟨s1, s2, s3⟩ := gA_spec hg
  have x0 : 0 ≤ ((a % 8 : Nat) : Int) ∧ ((a % 8 : Nat) : Int) ≤ 7 := by omega
  have y0 : 0 ≤ ((a / 8 : Nat) : Int) ∧ ((a / 8 : Nat) : Int) ≤ 7 := by omega
  have x1 := cvx x0 (by rw [← s1]; unfold dX; omega) hi
  have y1 := cvx y0 (by rw [← s2]; unfold dY; omega) hi
  unfold rc dX dY
  generalize (i : Int) * uX a t = p at *
  generalize (i : Int) * uY a t = q at *
  omega
theorem sn_iff (K : Nat → Nat) {a t : Nat} (ha : a < 64) (ht : t < 64) : (∃ c, c < 64 ∧ ¬ K c < 2 ∧ ¬ c = a ∧ bhP a c t) ↔ snB K a t = false := by
  rw [snB_f]
  constructor
  · rintro ⟨c, c1, c2, c3, j, j1, j2, j3⟩
    have gp := gA_pos c3
    obtain ⟨s1, s2, s3⟩ := gA_spec gp
    have tx : dX a t = ((gA a c + j : Nat) : Int) * uX a c := by
      have : dX a t = dX a c + dX c t := by unfold dX; omega
      rw [this, s1, j2, Int.natCast_add, Int.add_mul]
    have ty : dY a t = ((gA a c + j : Nat) : Int) * uY a c := by
      have : dY a t = dY a c + dY c t := by unfold dY; omega
      rw [this, s2, j3, Int.natCast_add, Int.add_mul]
    obtain ⟨e1, e2, e3⟩ := gA_of tx ty s3 (by omega)
    refine ⟨gA a c, gp, by omega, ?_⟩
    have : rc a t (gA a c) = c := by
      unfold rc
      rw [e2, e3, ← s1, ← s2]
      unfold dX dY
      omega
    rw [this]; exact c2
  · rintro ⟨i, i1, i2, i3⟩
    have hg : 0 < gA a t := by omega
    obtain ⟨r1, r2, r3, r4⟩ := rc_in ha ht (Nat.le_of_lt i2) hg
    obtain ⟨s1, s2, s3⟩ := gA_spec hg
    obtain ⟨e1, e2, e3⟩ := gA_of r2 r3 s3 (by omega)
    refine ⟨rc a t i, r1, i3, fun e => ?_, gA a t - i, by omega, ?_, ?_⟩
    · rw [e, gA_self] at e1; omega
    · rw [e2, show ((gA a t - i : Nat) : Int) = (gA a t : Int) - i by omega, Int.sub_mul, ← s1, ← r2]; unfold dX; omega
    · rw [e3, show ((gA a t - i : Nat) : Int) = (gA a t : Int) - i by omega, Int.sub_mul, ← s2, ← r3]; unfold dY; omega
theorem uB {a c : Nat} (ha : a < 64) (hc : c < 64) (h : ¬ c = a) : (-7 ≤ uX a c ∧ uX a c ≤ 7) ∧ (-7 ≤ uY a c ∧ uY a c ≤ 7) ∧ ¬ (uX a c = 0 ∧ uY a c = 0) ∧ gA a c ≤ 7 := by
  have gp := gA_pos h
  obtain ⟨s1, s2, s3⟩ := gA_spec gp
  have n1 : (dX a c).natAbs = gA a c * (uX a c).natAbs := (congrArg Int.natAbs s1).trans (by rw [Int.natAbs_mul, Int.natAbs_natCast])
  have n2 : (dY a c).natAbs = gA a c * (uY a c).natAbs := (congrArg Int.natAbs s2).trans (by rw [Int.natAbs_mul, Int.natAbs_natCast])
  have b1 : (dX a c).natAbs ≤ 7 := by unfold dX; omega
  have b2 : (dY a c).natAbs ≤ 7 := by unfold dY; omega
  have l1 : (uX a c).natAbs ≤ gA a c * (uX a c).natAbs := Nat.le_mul_of_pos_left _ gp
  have l2 : (uY a c).natAbs ≤ gA a c * (uY a c).natAbs := Nat.le_mul_of_pos_left _ gp
  have nz : ¬ (uX a c = 0 ∧ uY a c = 0) := fun q => by rw [q.1, q.2] at s3; exact absurd s3 (by decide)
  refine ⟨by omega, by omega, nz, ?_⟩
  by_cases q : uX a c = 0
  · have : 1 ≤ (uY a c).natAbs := by omega
    have := Nat.le_mul_of_pos_right (gA a c) this
    omega
  · have : 1 ≤ (uX a c).natAbs := by omega
    have := Nat.le_mul_of_pos_right (gA a c) this
    omega
theorem cX_behind (d : Nat) (z : mm_Z) (F : Nat → Nat → Value) (I : Nat → Nat → Int32) (L : Nat → Nat → Int64) (a c : Nat) (ha : a < 64) (hc : c < 64) (h : ¬ c = a) : ∃ R, mm_E (d + 2) mX10_behind 0 [.int (nI a), .int (nI c), uu, uu, uu, uu, uu, uu, uu, uu] [] (z, F, I, L) = some (some (.long R), (z, F, I, L)) ∧ ∀ t, t < 64 → (lb R t = true ↔ bhP a c t) := by
  have gp := gA_pos h
  obtain ⟨s1, s2, s3⟩ := gA_spec gp
  obtain ⟨u1, u2, u3, u4⟩ := uB ha hc h
  have d1 : -7 ≤ dX a c ∧ dX a c ≤ 7 := by unfold dX; omega
  have d2 : -7 ≤ dY a c ∧ dY a c ≤ 7 := by unfold dY; omega
  have dn : ¬ (dX a c = 0 ∧ dY a c = 0) := by unfold dX dY; omega
  have sx : nI (c % 8) - nI (a % 8) = iI (dX a c) := nn_sub _ _
  have sy : nI (c / 8) - nI (a / 8) = iI (dY a c) := nn_sub _ _
  have st : ∀ d', mm_E (d' + 1) mX10_stepsOf 0 [.int (iI (dX a c)), .int (iI (dY a c)), uu, uu] [] (z, F, I, L) = some (some (.int (nI (gA a c))), (z, F, I, L)) := fun d' => cX_steps d' z F I L (dX a c) (dY a c) d1 d2 dn
  have vx : iI (dX a c) / nI (gA a c) = iI (uX a c) := in_div (by omega) (by omega) (by omega)
  have vy : iI (dY a c) / nI (gA a c) = iI (uY a c) := in_div (by omega) (by omega) (by omega)
  have g0 : ¬ nI (gA a c) = 0 := fun e => by rw [n_eq0 (by omega)] at e; omega
  obtain ⟨px, hpx⟩ : ∃ px : Nat → Int, ∀ i, px i = ((c % 8 : Nat) : Int) + i * uX a c := ⟨_, fun _ => rfl⟩
  obtain ⟨py, hpy⟩ : ∃ py : Nat → Int, ∀ i, py i = ((c / 8 : Nat) : Int) + i * uY a c := ⟨_, fun _ => rfl⟩
  have pxs : ∀ i, px i + uX a c = px (i + 1) := fun i => by rw [hpx, hpx, Int.natCast_add, Int.add_mul]; omega
  have pys : ∀ i, py i + uY a c = py (i + 1) := fun i => by rw [hpy, hpy, Int.natCast_add, Int.add_mul]; omega
  have p0 : px 0 = ((c % 8 : Nat) : Int) ∧ py 0 = ((c / 8 : Nat) : Int) := by rw [hpx, hpy]; omega
  have c8 : (0 ≤ px 0 ∧ px 0 ≤ 7) ∧ (0 ≤ py 0 ∧ py 0 ≤ 7) := by omega
  have at' : ∀ (t i : Nat), (dX c t = i * uX a c ∧ dY c t = i * uY a c) ↔ (((t % 8 : Nat) : Int) = px i ∧ ((t / 8 : Nat) : Int) = py i) := fun t i => by rw [hpx, hpy]; unfold dX dY; omega
  have l : ∀ k, k ≤ 8 → (0 ≤ px k ∧ px k ≤ 7) → (0 ≤ py k ∧ py k ≤ 7) → ∀ R : Int64, (∀ t, t < 64 → (lb R t = true ↔ ∃ i : Nat, 1 ≤ i ∧ i ≤ k ∧ dX c t = i * uX a c ∧ dY c t = i * uY a c)) → ∃ R', mm_E (d + 2) mX10_behind 55 [.int (nI a), .int (nI c), .int (iI (dX a c)), .int (iI (dY a c)), .int (nI (gA a c)), .int (iI (px (k + 1))), .int (iI (py (k + 1))), .long R, uu, .int (nI k)] [] (z, F, I, L) = some (some (.long R'), (z, F, I, L)) ∧ ∀ t, t < 64 → (lb R' t = true ↔ bhP a c t) := by
    apply lp
    · intro hx hy R hR
      exfalso
      rw [hpx] at hx
      rw [hpy] at hy
      have e8 : (((8 : Nat) : Int)) = 8 := rfl
      rw [e8] at hx hy
      omega
    · intro k hk ih hx hy R hR
      have qx := pxs k
      have qy := pys k
      have ihl := fun d' => cX_inHall d' z F I L (px (k + 1)) (py (k + 1)) (by omega) (by omega)
      rw [eX10_behind_55]
      by_cases g : (0 ≤ px (k + 1) ∧ px (k + 1) ≤ 7) ∧ (0 ≤ py (k + 1) ∧ py (k + 1) ≤ 7)
      · rw [decide_eq_true g] at ihl
        have bo := fun d' => cX_bitOf d' z F I L (px (k + 1)) (py (k + 1)) g.1 g.2
        obtain ⟨R', r1, r2⟩ := ih g.1 g.2 (R ||| b1 (8 * py (k + 1) + px (k + 1)).toNat) (fun t ht => by
          rw [lb_or, lb_b1 (by omega), Bool.or_eq_true, decide_eq_true_eq, hR t ht]
          constructor
          · rintro (⟨i, i1, i2, i3⟩ | e)
            · exact ⟨i, i1, by omega, i3⟩
            · exact ⟨k + 1, by omega, by omega, (at' t (k + 1)).mpr (by omega)⟩
          · rintro ⟨i, i1, i2, i3⟩
            by_cases e : i = k + 1
            · right
              rw [e] at i3
              have := (at' t (k + 1)).mp i3
              omega
            · exact Or.inl ⟨i, i1, by omega, i3⟩)
        refine ⟨R', ?_, r2⟩
        rw [← r1]
        simp (disch := first | assumption | exact bI_or _ | exact zOK_O hz (by decide) (by decide) rfl | exact zOK_T hz (by decide) (by decide) rfl | (refine ix (zOK_l hz (by decide) (by decide) rfl) ?_; omega) | decide | omega) only [eX10_behind_57, eX10_behind_59, eX10_behind_62, eX10_behind_64, eX10_behind_66, eX10_behind_69, eX10_behind_72, eX10_behind_74, eX10_behind_76, eX10_behind_78, eX10_behind_81, eX10_behind_82, eX10_behind_84, eX10_behind_86, eX10_behind_87, eX10_behind_89, eX10_behind_90, eX10_behind_91, eX10_behind_93, eX10_behind_95, eX10_behind_96, eX10_behind_98, eX10_behind_99, eX10_behind_100, eX10_behind_102, eX10_behind_105, eX10_behind_108, eX10_behind_110, Int.cast_ofNat_Int, Nat.reduceLT, Nat.reduceLeDiff, Nat.reduceEqDiff, Nat.reduceAdd, Nat.reduceMul, Int.reduceLE, Int.reduceLT, Int.reduceEq, not_false_iff, nlr, Nat.zero_add, Nat.add_zero, e10f, e01f, eq_self, true_and, and_true, false_and, and_false, and_self, decide_true, decide_false, mm_bd_i, mm_bd_v, if_true, if_false, not_true_eq_false, not_false_eq_true, nI_1, Bool.true_eq_false, Bool.false_eq_true, bI_0, n_le0, n_0lt, n_lt0, n_0le, n_eq0, n_eqm, n_eq1, n_le1, n_1lt, n_1le, n_lt1, nn_le, nI_ltI, nI_eq, nI_clamp, nI_add, pk_mul, i_eq0, i_eqm, i_0le, i_le0, i_0lt, i_lt0, i_mle, i_ltm, ii_le, iI_lt, iI_eq, ni_le, ni_lt, ni_eq, in_le, in_lt, in_eq, ni_add, in_add, ni_sub, in_sub, ni_mul, in_mul, iI_add, iI_sub, iI_mul, i_p1, iI_neg, n_neg, hk, ihl, bI_t, bo, vx, vy, pxs, pys]
      · rw [decide_eq_false g] at ihl
        refine ⟨R, ?_, fun t ht => ?_⟩
        · simp (disch := first | assumption | exact bI_or _ | exact zOK_O hz (by decide) (by decide) rfl | exact zOK_T hz (by decide) (by decide) rfl | (refine ix (zOK_l hz (by decide) (by decide) rfl) ?_; omega) | decide | omega) only [eX10_behind_57, eX10_behind_59, eX10_behind_62, eX10_behind_64, eX10_behind_66, eX10_behind_69, eX10_behind_72, eX10_behind_74, eX10_behind_76, eX10_behind_78, eX10_behind_81, eX10_behind_82, eX10_behind_84, eX10_behind_86, eX10_behind_87, eX10_behind_89, eX10_behind_90, eX10_behind_91, eX10_behind_93, eX10_behind_95, eX10_behind_96, eX10_behind_98, eX10_behind_99, eX10_behind_100, eX10_behind_102, eX10_behind_105, eX10_behind_108, eX10_behind_110, Int.cast_ofNat_Int, Nat.reduceLT, Nat.reduceLeDiff, Nat.reduceEqDiff, Nat.reduceAdd, Nat.reduceMul, Int.reduceLE, Int.reduceLT, Int.reduceEq, not_false_iff, nlr, Nat.zero_add, Nat.add_zero, e10f, e01f, eq_self, true_and, and_true, false_and, and_false, and_self, decide_true, decide_false, mm_bd_i, mm_bd_v, if_true, if_false, not_true_eq_false, not_false_eq_true, nI_1, Bool.true_eq_false, Bool.false_eq_true, bI_0, n_le0, n_0lt, n_lt0, n_0le, n_eq0, n_eqm, n_eq1, n_le1, n_1lt, n_1le, n_lt1, nn_le, nI_ltI, nI_eq, nI_clamp, nI_add, pk_mul, i_eq0, i_eqm, i_0le, i_le0, i_0lt, i_lt0, i_mle, i_ltm, ii_le, iI_lt, iI_eq, ni_le, ni_lt, ni_eq, in_le, in_lt, in_eq, ni_add, in_add, ni_sub, in_sub, ni_mul, in_mul, iI_add, iI_sub, iI_mul, i_p1, iI_neg, n_neg, hk, ihl, bI_f]
        · rw [hR t ht]
          constructor
          · rintro ⟨i, i1, i2, i3⟩
            exact ⟨i, i1, i3⟩
          · rintro ⟨i, i1, i3⟩
            refine ⟨i, i1, ?_, i3⟩
            apply Decidable.byContradiction
            intro n
            apply g
            have := (at' t i).mp i3
            have c1 := cvx (p := ((c % 8 : Nat) : Int)) (u := uX a c) (i := k + 1) (g := i) (by omega) (by rw [← hpx]; omega) (by omega)
            have c2 := cvx (p := ((c / 8 : Nat) : Int)) (u := uY a c) (i := k + 1) (g := i) (by omega) (by rw [← hpy]; omega) (by omega)
            rw [← hpx] at c1
            rw [← hpy] at c2
            exact ⟨c1, c2⟩
  obtain ⟨R', r1, r2⟩ := l 0 (by omega) c8.1 c8.2 0 (fun t ht => by
    rw [lb_0]
    exact ⟨fun q => Bool.noConfusion q, fun ⟨i, i1, i2, _⟩ => absurd i1 (by omega)⟩)
  refine ⟨R', ?_, r2⟩
  have ax : ((c % 8 : Nat) : Int) + uX a c = px (0 + 1) := by rw [← pxs 0, p0.1]
  have ay : ((c / 8 : Nat) : Int) + uY a c = py (0 + 1) := by rw [← pys 0, p0.2]
  rw [← r1, ← ax, ← ay]
  simp (disch := first | assumption | exact bI_or _ | exact zOK_O hz (by decide) (by decide) rfl | exact zOK_T hz (by decide) (by decide) rfl | (refine ix (zOK_l hz (by decide) (by decide) rfl) ?_; omega) | decide | omega) only [eX10_behind_0, eX10_behind_1, eX10_behind_3, eX10_behind_4, eX10_behind_5, eX10_behind_7, eX10_behind_8, eX10_behind_9, eX10_behind_10, eX10_behind_11, eX10_behind_13, eX10_behind_14, eX10_behind_15, eX10_behind_17, eX10_behind_18, eX10_behind_19, eX10_behind_20, eX10_behind_21, eX10_behind_22, eX10_behind_25, eX10_behind_27, eX10_behind_28, eX10_behind_30, eX10_behind_31, eX10_behind_32, eX10_behind_34, eX10_behind_35, eX10_behind_36, eX10_behind_38, eX10_behind_39, eX10_behind_41, eX10_behind_42, eX10_behind_43, eX10_behind_45, eX10_behind_46, eX10_behind_47, eX10_behind_49, eX10_behind_50, eX10_behind_52, eX10_behind_53, Int.cast_ofNat_Int, Nat.reduceLT, Nat.reduceLeDiff, Nat.reduceEqDiff, Nat.reduceAdd, Nat.reduceMul, Int.reduceLE, Int.reduceLT, Int.reduceEq, not_false_iff, nlr, Nat.zero_add, Nat.add_zero, e10f, e01f, eq_self, true_and, and_true, false_and, and_false, and_self, decide_true, decide_false, mm_bd_i, mm_bd_v, if_true, if_false, not_true_eq_false, not_false_eq_true, nI_1, Bool.true_eq_false, Bool.false_eq_true, bI_0, n_le0, n_0lt, n_lt0, n_0le, n_eq0, n_eqm, n_eq1, n_le1, n_1lt, n_1le, n_lt1, nn_le, nI_ltI, nI_eq, nI_clamp, nI_add, pk_mul, i_eq0, i_eqm, i_0le, i_le0, i_0lt, i_lt0, i_mle, i_ltm, ii_le, iI_lt, iI_eq, ni_le, ni_lt, ni_eq, in_le, in_lt, in_eq, ni_add, in_add, ni_sub, in_sub, ni_mul, in_mul, iI_add, iI_sub, iI_mul, i_p1, iI_neg, n_neg, pk_div, n_m8, sx, sy, st, vx, vy]
  rfl
theorem cX_hidden (d : Nat) (z : mm_Z) (F : Nat → Nat → Value) (I : Nat → Nat → Int32) (L : Nat → Nat → Int64) (K : Nat → Nat) (bl : Int64) (w : Value) (hb : ∀ c, c < 64 → lb bl c = decide (¬ K c < 2)) (a : Nat) (ha : a < 64) (hK : K a < 2) : ∃ R, mm_E (d + 3) mX10_hiddenFrom 0 [.int (nI a), .long bl, w, uu, uu, uu] [] (z, F, I, L) = some (some (.long R), (z, F, I, L)) ∧ ∀ t, t < 64 → lb R t = !snB K a t := by
  have l : ∀ c, c ≤ 64 → ∀ R : Int64, (∀ t, t < 64 → (lb R t = true ↔ ∃ e, e < c ∧ ¬ K e < 2 ∧ ¬ e = a ∧ bhP a e t)) → ∃ R', mm_E (d + 3) mX10_hiddenFrom 5 [.int (nI a), .long bl, w, .long R, uu, .int (nI c)] [] (z, F, I, L) = some (some (.long R'), (z, F, I, L)) ∧ ∀ t, t < 64 → lb R' t = !snB K a t := by
    apply lp
    · intro R hR
      refine ⟨R, ?_, fun t ht => ?_⟩
      · rw [eX10_hiddenFrom_5]
        simp (disch := first | assumption | exact bI_or _ | exact zOK_O hz (by decide) (by decide) rfl | exact zOK_T hz (by decide) (by decide) rfl | (refine ix (zOK_l hz (by decide) (by decide) rfl) ?_; omega) | decide | omega) only [eX10_hiddenFrom_7, eX10_hiddenFrom_9, eX10_hiddenFrom_12, eX10_hiddenFrom_13, eX10_hiddenFrom_15, eX10_hiddenFrom_18, eX10_hiddenFrom_21, eX10_hiddenFrom_22, eX10_hiddenFrom_23, eX10_hiddenFrom_25, eX10_hiddenFrom_28, eX10_hiddenFrom_29, eX10_hiddenFrom_30, eX10_hiddenFrom_33, eX10_hiddenFrom_36, eX10_hiddenFrom_37, Int.cast_ofNat_Int, Nat.reduceLT, Nat.reduceLeDiff, Nat.reduceEqDiff, Nat.reduceAdd, Nat.reduceMul, Int.reduceLE, Int.reduceLT, Int.reduceEq, not_false_iff, nlr, Nat.zero_add, Nat.add_zero, e10f, e01f, eq_self, true_and, and_true, false_and, and_false, and_self, decide_true, decide_false, mm_bd_i, mm_bd_v, if_true, if_false, not_true_eq_false, not_false_eq_true, nI_1, Bool.true_eq_false, Bool.false_eq_true, bI_0, n_le0, n_0lt, n_lt0, n_0le, n_eq0, n_eqm, n_eq1, n_le1, n_1lt, n_1le, n_lt1, nn_le, nI_ltI, nI_eq, nI_clamp, nI_add, pk_mul, i_eq0, i_eqm, i_0le, i_le0, i_0lt, i_lt0, i_mle, i_ltm, ii_le, iI_lt, iI_eq, ni_le, ni_lt, ni_eq, in_le, in_lt, in_eq, ni_add, in_add, ni_sub, in_sub, ni_mul, in_mul, iI_add, iI_sub, iI_mul, i_p1, iI_neg, n_neg]
      · have q := (hR t ht).trans (sn_iff K ha ht)
        cases e : snB K a t with
        | false => exact q.mpr e
        | true =>
          cases e2 : lb R t with
          | false => rfl
          | true => rw [q.mp e2] at e; exact Bool.noConfusion e
    · intro c hc ih R hR
      have hs := fun d' w => cX_has d' z F I L bl w c hc
      rw [hb c hc] at hs
      rw [eX10_hiddenFrom_5]
      by_cases q : K c < 2
      · rw [decide_eq_false (show ¬ ¬ K c < 2 by omega)] at hs
        obtain ⟨R', r1, r2⟩ := ih R (fun t ht => by
          rw [hR t ht]
          constructor
          · rintro ⟨e, e1, e2⟩; exact ⟨e, by omega, e2⟩
          · rintro ⟨e, e1, e2, e3⟩
            by_cases k : e = c
            · rw [k] at e2; exact absurd q e2
            · exact ⟨e, by omega, e2, e3⟩)
        refine ⟨R', ?_, r2⟩
        rw [← r1]
        simp (disch := first | assumption | exact bI_or _ | exact zOK_O hz (by decide) (by decide) rfl | exact zOK_T hz (by decide) (by decide) rfl | (refine ix (zOK_l hz (by decide) (by decide) rfl) ?_; omega) | decide | omega) only [eX10_hiddenFrom_7, eX10_hiddenFrom_9, eX10_hiddenFrom_12, eX10_hiddenFrom_13, eX10_hiddenFrom_15, eX10_hiddenFrom_18, eX10_hiddenFrom_21, eX10_hiddenFrom_22, eX10_hiddenFrom_23, eX10_hiddenFrom_25, eX10_hiddenFrom_28, eX10_hiddenFrom_29, eX10_hiddenFrom_30, eX10_hiddenFrom_33, eX10_hiddenFrom_36, eX10_hiddenFrom_37, Int.cast_ofNat_Int, Nat.reduceLT, Nat.reduceLeDiff, Nat.reduceEqDiff, Nat.reduceAdd, Nat.reduceMul, Int.reduceLE, Int.reduceLT, Int.reduceEq, not_false_iff, nlr, Nat.zero_add, Nat.add_zero, e10f, e01f, eq_self, true_and, and_true, false_and, and_false, and_self, decide_true, decide_false, mm_bd_i, mm_bd_v, if_true, if_false, not_true_eq_false, not_false_eq_true, nI_1, Bool.true_eq_false, Bool.false_eq_true, bI_0, n_le0, n_0lt, n_lt0, n_0le, n_eq0, n_eqm, n_eq1, n_le1, n_1lt, n_1le, n_lt1, nn_le, nI_ltI, nI_eq, nI_clamp, nI_add, pk_mul, i_eq0, i_eqm, i_0le, i_le0, i_0lt, i_lt0, i_mle, i_ltm, ii_le, iI_lt, iI_eq, ni_le, ni_lt, ni_eq, in_le, in_lt, in_eq, ni_add, in_add, ni_sub, in_sub, ni_mul, in_mul, iI_add, iI_sub, iI_mul, i_p1, iI_neg, n_neg, hc, hs, bI_f]
      · rw [decide_eq_true q] at hs
        have ne : ¬ c = a := fun k => by rw [k] at q; exact q hK
        obtain ⟨B, b1', b2⟩ := cX_behind d z F I L a c ha hc ne
        obtain ⟨R', r1, r2⟩ := ih (R ||| B) (fun t ht => by
          rw [lb_or, Bool.or_eq_true, hR t ht, b2 t ht]
          constructor
          · rintro (⟨e, e1, e2⟩ | k)
            · exact ⟨e, by omega, e2⟩
            · exact ⟨c, by omega, q, ne, k⟩
          · rintro ⟨e, e1, e2, e3, e4⟩
            by_cases k : e = c
            · rw [k] at e4; exact Or.inr e4
            · exact Or.inl ⟨e, by omega, e2, e3, e4⟩)
        refine ⟨R', ?_, r2⟩
        rw [← r1]
        simp (disch := first | assumption | exact bI_or _ | exact zOK_O hz (by decide) (by decide) rfl | exact zOK_T hz (by decide) (by decide) rfl | (refine ix (zOK_l hz (by decide) (by decide) rfl) ?_; omega) | decide | omega) only [eX10_hiddenFrom_7, eX10_hiddenFrom_9, eX10_hiddenFrom_12, eX10_hiddenFrom_13, eX10_hiddenFrom_15, eX10_hiddenFrom_18, eX10_hiddenFrom_21, eX10_hiddenFrom_22, eX10_hiddenFrom_23, eX10_hiddenFrom_25, eX10_hiddenFrom_28, eX10_hiddenFrom_29, eX10_hiddenFrom_30, eX10_hiddenFrom_33, eX10_hiddenFrom_36, eX10_hiddenFrom_37, Int.cast_ofNat_Int, Nat.reduceLT, Nat.reduceLeDiff, Nat.reduceEqDiff, Nat.reduceAdd, Nat.reduceMul, Int.reduceLE, Int.reduceLT, Int.reduceEq, not_false_iff, nlr, Nat.zero_add, Nat.add_zero, e10f, e01f, eq_self, true_and, and_true, false_and, and_false, and_self, decide_true, decide_false, mm_bd_i, mm_bd_v, if_true, if_false, not_true_eq_false, not_false_eq_true, nI_1, Bool.true_eq_false, Bool.false_eq_true, bI_0, n_le0, n_0lt, n_lt0, n_0le, n_eq0, n_eqm, n_eq1, n_le1, n_1lt, n_1le, n_lt1, nn_le, nI_ltI, nI_eq, nI_clamp, nI_add, pk_mul, i_eq0, i_eqm, i_0le, i_le0, i_0lt, i_lt0, i_mle, i_ltm, ii_le, iI_lt, iI_eq, ni_le, ni_lt, ni_eq, in_le, in_lt, in_eq, ni_add, in_add, ni_sub, in_sub, ni_mul, in_mul, iI_add, iI_sub, iI_mul, i_p1, iI_neg, n_neg, hc, hs, bI_t, b1']
  obtain ⟨R', r1, r2⟩ := l 0 (by omega) 0 (fun t ht => by
    rw [lb_0]
    exact ⟨fun q => Bool.noConfusion q, fun ⟨e, e1, _⟩ => absurd e1 (by omega)⟩)
  refine ⟨R', ?_, r2⟩
  rw [← r1]
  simp (disch := first | assumption | exact bI_or _ | exact zOK_O hz (by decide) (by decide) rfl | exact zOK_T hz (by decide) (by decide) rfl | (refine ix (zOK_l hz (by decide) (by decide) rfl) ?_; omega) | decide | omega) only [eX10_hiddenFrom_0, eX10_hiddenFrom_1, eX10_hiddenFrom_2, eX10_hiddenFrom_3, Int.cast_ofNat_Int, Nat.reduceLT, Nat.reduceLeDiff, Nat.reduceEqDiff, Nat.reduceAdd, Nat.reduceMul, Int.reduceLE, Int.reduceLT, Int.reduceEq, not_false_iff, nlr, Nat.zero_add, Nat.add_zero, e10f, e01f, eq_self, true_and, and_true, false_and, and_false, and_self, decide_true, decide_false, mm_bd_i, mm_bd_v, if_true, if_false, not_true_eq_false, not_false_eq_true, nI_1, Bool.true_eq_false, Bool.false_eq_true, bI_0, n_le0, n_0lt, n_lt0, n_0le, n_eq0, n_eqm, n_eq1, n_le1, n_1lt, n_1le, n_lt1, nn_le, nI_ltI, nI_eq, nI_clamp, nI_add, pk_mul, i_eq0, i_eqm, i_0le, i_le0, i_0lt, i_lt0, i_mle, i_ltm, ii_le, iI_lt, iI_eq, ni_le, ni_lt, ni_eq, in_le, in_lt, in_eq, ni_add, in_add, ni_sub, in_sub, ni_mul, in_mul, iI_add, iI_sub, iI_mul, i_p1, iI_neg, n_neg]
  rfl
theorem kd_hit (n : Nat) (hs : Nat → List (Int × Int × Nat)) (st : Nat → Option (Nat × Nat)) (a : Nat) : exA st (sH hs st) a n = decide (¬ kd n hs st a < 2) := by
  unfold kd
  cases e : exA st (sH hs st) a n with
  | true => rw [if_pos rfl]; exact (decide_eq_true (by omega)).symm
  | false =>
    rw [if_neg Bool.false_ne_true]
    refine (decide_eq_false ?_).symm
    split <;> omega
theorem cX_see_unk (d : Nat) (z : mm_Z) (F : Nat → Nat → Value) (I : Nat → Nat → Int32) (L : Nat → Nat → Int64) (x y : Int32) (h : ¬ ((0 ≤ x.toInt ∧ x.toInt < 64) ∧ (0 ≤ y.toInt ∧ y.toInt < 64))) : mm_E (d + 4) mX10_see 0 [.ref 2, .int x, .int y] [] (z, F, I, L) = some (some (.int (-2)), (z, F, I, L)) := by
  by_cases c1 : 0 ≤ x.toInt ∧ x.toInt ≤ 63
  · have c2 : ¬ (0 ≤ y.toInt ∧ y.toInt ≤ 63) := by omega
    simp (disch := first | assumption | exact bI_or _ | exact zOK_O hz (by decide) (by decide) rfl | exact zOK_T hz (by decide) (by decide) rfl | (refine ix (zOK_l hz (by decide) (by decide) rfl) ?_; omega) | decide | omega) only [eX10_see_0, eX10_see_1, eX10_see_4, eX10_see_7, eX10_see_8, eX10_see_11, eX10_see_14, eX10_see_16, eX10_see_17, eX10_see_18, eX10_see_21, eX10_see_24, eX10_see_25, eX10_see_28, eX10_see_31, eX10_see_33, eX10_see_34, eX10_see_35, eX10_see_36, eX10_see_39, eX10_see_42, eX10_see_45, eX10_see_46, eX10_see_49, eX10_see_52, eX10_see_53, eX10_see_56, eX10_see_57, Int.cast_ofNat_Int, Nat.reduceLT, Nat.reduceLeDiff, Nat.reduceEqDiff, Nat.reduceAdd, Nat.reduceMul, Int.reduceLE, Int.reduceLT, Int.reduceEq, not_false_iff, nlr, Nat.zero_add, Nat.add_zero, e10f, e01f, eq_self, true_and, and_true, false_and, and_false, and_self, decide_true, decide_false, mm_bd_i, mm_bd_v, if_true, if_false, not_true_eq_false, not_false_eq_true, nI_1, Bool.true_eq_false, Bool.false_eq_true, bI_0, n_le0, n_0lt, n_lt0, n_0le, n_eq0, n_eqm, n_eq1, n_le1, n_1lt, n_1le, n_lt1, nn_le, nI_ltI, nI_eq, nI_clamp, nI_add, pk_mul, i_eq0, i_eqm, i_0le, i_le0, i_0lt, i_lt0, i_mle, i_ltm, ii_le, iI_lt, iI_eq, ni_le, ni_lt, ni_eq, in_le, in_lt, in_eq, ni_add, in_add, ni_sub, in_sub, ni_mul, in_mul, iI_add, iI_sub, iI_mul, i_p1, iI_neg, n_neg, cX_isCell, c1, c2]
  · simp (disch := first | assumption | exact bI_or _ | exact zOK_O hz (by decide) (by decide) rfl | exact zOK_T hz (by decide) (by decide) rfl | (refine ix (zOK_l hz (by decide) (by decide) rfl) ?_; omega) | decide | omega) only [eX10_see_0, eX10_see_1, eX10_see_4, eX10_see_7, eX10_see_8, eX10_see_11, eX10_see_14, eX10_see_16, eX10_see_17, eX10_see_18, eX10_see_21, eX10_see_24, eX10_see_25, eX10_see_28, eX10_see_31, eX10_see_33, eX10_see_34, eX10_see_35, eX10_see_36, eX10_see_39, eX10_see_42, eX10_see_45, eX10_see_46, eX10_see_49, eX10_see_52, eX10_see_53, eX10_see_56, eX10_see_57, Int.cast_ofNat_Int, Nat.reduceLT, Nat.reduceLeDiff, Nat.reduceEqDiff, Nat.reduceAdd, Nat.reduceMul, Int.reduceLE, Int.reduceLT, Int.reduceEq, not_false_iff, nlr, Nat.zero_add, Nat.add_zero, e10f, e01f, eq_self, true_and, and_true, false_and, and_false, and_self, decide_true, decide_false, mm_bd_i, mm_bd_v, if_true, if_false, not_true_eq_false, not_false_eq_true, nI_1, Bool.true_eq_false, Bool.false_eq_true, bI_0, n_le0, n_0lt, n_lt0, n_0le, n_eq0, n_eqm, n_eq1, n_le1, n_1lt, n_1le, n_lt1, nn_le, nI_ltI, nI_eq, nI_clamp, nI_add, pk_mul, i_eq0, i_eqm, i_0le, i_le0, i_0lt, i_lt0, i_mle, i_ltm, ii_le, iI_lt, iI_eq, ni_le, ni_lt, ni_eq, in_le, in_lt, in_eq, ni_add, in_add, ni_sub, in_sub, ni_mul, in_mul, iI_add, iI_sub, iI_mul, i_p1, iI_neg, n_neg, cX_isCell, c1]
theorem cX_see_not (d : Nat) (z : mm_Z) (F : Nat → Nat → Value) (I : Nat → Nat → Int32) (L : Nat → Nat → Int64) (n : Nat) (hs : Nat → List (Int × Int × Nat)) (st : Nat → Option (Nat × Nat)) (hz : zOK z) (hT : cTop F) (hb : cHb n hs st F) (a t : Nat) (ha : a < 64) (ht : t < 64) (hK : ¬ kd n hs st a < 2) : mm_E (d + 4) mX10_see 0 [.ref 2, .int (nI a), .int (nI t)] [] (z, F, I, L) = some (some (.int (-4)), (z, F, I, L)) := by
  obtain ⟨vh, vb, h5, h6, hh, hbb⟩ := hb
  have q1 : 0 ≤ (a : Int) ∧ (a : Int) ≤ 63 := by omega
  have q2 : 0 ≤ (t : Int) ∧ (t : Int) ≤ 63 := by omega
  have hs' := fun d' w => cX_has d' z F I L vh w a ha
  rw [hh a ha, kd_hit, decide_eq_true hK] at hs'
  simp (disch := first | assumption | exact bI_or _ | exact zOK_O hz (by decide) (by decide) rfl | exact zOK_T hz (by decide) (by decide) rfl | (refine ix (zOK_l hz (by decide) (by decide) rfl) ?_; omega) | decide | omega) only [eX10_see_0, eX10_see_1, eX10_see_4, eX10_see_7, eX10_see_8, eX10_see_11, eX10_see_14, eX10_see_16, eX10_see_17, eX10_see_18, eX10_see_21, eX10_see_24, eX10_see_25, eX10_see_28, eX10_see_31, eX10_see_33, eX10_see_34, eX10_see_35, eX10_see_36, eX10_see_39, eX10_see_42, eX10_see_45, eX10_see_46, eX10_see_49, eX10_see_52, eX10_see_53, eX10_see_56, eX10_see_57, Int.cast_ofNat_Int, Nat.reduceLT, Nat.reduceLeDiff, Nat.reduceEqDiff, Nat.reduceAdd, Nat.reduceMul, Int.reduceLE, Int.reduceLT, Int.reduceEq, not_false_iff, nlr, Nat.zero_add, Nat.add_zero, e10f, e01f, eq_self, true_and, and_true, false_and, and_false, and_self, decide_true, decide_false, mm_bd_i, mm_bd_v, if_true, if_false, not_true_eq_false, not_false_eq_true, nI_1, Bool.true_eq_false, Bool.false_eq_true, bI_0, n_le0, n_0lt, n_lt0, n_0le, n_eq0, n_eqm, n_eq1, n_le1, n_1lt, n_1le, n_lt1, nn_le, nI_ltI, nI_eq, nI_clamp, nI_add, pk_mul, i_eq0, i_eqm, i_0le, i_le0, i_0lt, i_lt0, i_mle, i_ltm, ii_le, iI_lt, iI_eq, ni_le, ni_lt, ni_eq, in_le, in_lt, in_eq, ni_add, in_add, ni_sub, in_sub, ni_mul, in_mul, iI_add, iI_sub, iI_mul, i_p1, iI_neg, n_neg, cX_isCell, tI0, tI1, tIm1, tIm7, nI_toInt, iI_toInt, Int.cast_ofNat_Int, q1, q2, hT.1, h5, hs', bI_t]
theorem cX_see (d : Nat) (z : mm_Z) (F : Nat → Nat → Value) (I : Nat → Nat → Int32) (L : Nat → Nat → Int64) (n : Nat) (hs : Nat → List (Int × Int × Nat)) (st : Nat → Option (Nat × Nat)) (hz : zOK z) (hT : cTop F) (hb : cHb n hs st F) (a t : Nat) (ha : a < 64) (ht : t < 64) (hK : kd n hs st a < 2) : mm_E (d + 4) mX10_see 0 [.ref 2, .int (nI a), .int (nI t)] [] (z, F, I, L) = some (some (.int (bI (snB (kd n hs st) a t))), (z, F, I, L)) := by
  obtain ⟨vh, vb, h5, h6, hh, hbb⟩ := hb
  have q1 : 0 ≤ (a : Int) ∧ (a : Int) ≤ 63 := by omega
  have q2 : 0 ≤ (t : Int) ∧ (t : Int) ≤ 63 := by omega
  have hs' := fun d' w => cX_has d' z F I L vh w a ha
  rw [hh a ha, kd_hit, decide_eq_false (show ¬ ¬ kd n hs st a < 2 by omega)] at hs'
  obtain ⟨R, r1, r2⟩ := cX_hidden d z F I L (kd n hs st) vh uu (fun c hc => by rw [hh c hc, kd_hit]) a ha hK
  have ht' := fun d' w => cX_has d' z F I L R w t ht
  rw [r2 t ht] at ht'
  cases e : snB (kd n hs st) a t with
  | true =>
    rw [e] at ht'
    simp (disch := first | assumption | exact bI_or _ | exact zOK_O hz (by decide) (by decide) rfl | exact zOK_T hz (by decide) (by decide) rfl | (refine ix (zOK_l hz (by decide) (by decide) rfl) ?_; omega) | decide | omega) only [eX10_see_0, eX10_see_1, eX10_see_4, eX10_see_7, eX10_see_8, eX10_see_11, eX10_see_14, eX10_see_16, eX10_see_17, eX10_see_18, eX10_see_21, eX10_see_24, eX10_see_25, eX10_see_28, eX10_see_31, eX10_see_33, eX10_see_34, eX10_see_35, eX10_see_36, eX10_see_39, eX10_see_42, eX10_see_45, eX10_see_46, eX10_see_49, eX10_see_52, eX10_see_53, eX10_see_56, eX10_see_57, Int.cast_ofNat_Int, Nat.reduceLT, Nat.reduceLeDiff, Nat.reduceEqDiff, Nat.reduceAdd, Nat.reduceMul, Int.reduceLE, Int.reduceLT, Int.reduceEq, not_false_iff, nlr, Nat.zero_add, Nat.add_zero, e10f, e01f, eq_self, true_and, and_true, false_and, and_false, and_self, decide_true, decide_false, mm_bd_i, mm_bd_v, if_true, if_false, not_true_eq_false, not_false_eq_true, nI_1, Bool.true_eq_false, Bool.false_eq_true, bI_0, n_le0, n_0lt, n_lt0, n_0le, n_eq0, n_eqm, n_eq1, n_le1, n_1lt, n_1le, n_lt1, nn_le, nI_ltI, nI_eq, nI_clamp, nI_add, pk_mul, i_eq0, i_eqm, i_0le, i_le0, i_0lt, i_lt0, i_mle, i_ltm, ii_le, iI_lt, iI_eq, ni_le, ni_lt, ni_eq, in_le, in_lt, in_eq, ni_add, in_add, ni_sub, in_sub, ni_mul, in_mul, iI_add, iI_sub, iI_mul, i_p1, iI_neg, n_neg, cX_isCell, tI0, tI1, tIm1, tIm7, nI_toInt, iI_toInt, Int.cast_ofNat_Int, q1, q2, hT.1, h5, hs', bI_f, bI_t, r1, ht', Bool.not_true]
  | false =>
    rw [e] at ht'
    simp (disch := first | assumption | exact bI_or _ | exact zOK_O hz (by decide) (by decide) rfl | exact zOK_T hz (by decide) (by decide) rfl | (refine ix (zOK_l hz (by decide) (by decide) rfl) ?_; omega) | decide | omega) only [eX10_see_0, eX10_see_1, eX10_see_4, eX10_see_7, eX10_see_8, eX10_see_11, eX10_see_14, eX10_see_16, eX10_see_17, eX10_see_18, eX10_see_21, eX10_see_24, eX10_see_25, eX10_see_28, eX10_see_31, eX10_see_33, eX10_see_34, eX10_see_35, eX10_see_36, eX10_see_39, eX10_see_42, eX10_see_45, eX10_see_46, eX10_see_49, eX10_see_52, eX10_see_53, eX10_see_56, eX10_see_57, Int.cast_ofNat_Int, Nat.reduceLT, Nat.reduceLeDiff, Nat.reduceEqDiff, Nat.reduceAdd, Nat.reduceMul, Int.reduceLE, Int.reduceLT, Int.reduceEq, not_false_iff, nlr, Nat.zero_add, Nat.add_zero, e10f, e01f, eq_self, true_and, and_true, false_and, and_false, and_self, decide_true, decide_false, mm_bd_i, mm_bd_v, if_true, if_false, not_true_eq_false, not_false_eq_true, nI_1, Bool.true_eq_false, Bool.false_eq_true, bI_0, n_le0, n_0lt, n_lt0, n_0le, n_eq0, n_eqm, n_eq1, n_le1, n_1lt, n_1le, n_lt1, nn_le, nI_ltI, nI_eq, nI_clamp, nI_add, pk_mul, i_eq0, i_eqm, i_0le, i_le0, i_0lt, i_lt0, i_mle, i_ltm, ii_le, iI_lt, iI_eq, ni_le, ni_lt, ni_eq, in_le, in_lt, in_eq, ni_add, in_add, ni_sub, in_sub, ni_mul, in_mul, iI_add, iI_sub, iI_mul, i_p1, iI_neg, n_neg, cX_isCell, tI0, tI1, tIm1, tIm7, nI_toInt, iI_toInt, Int.cast_ofNat_Int, q1, q2, hT.1, h5, hs', bI_f, bI_t, r1, ht', Bool.not_false]
def nxN (K : Nat → Nat) (A : Int64) (c : Nat) : Nat := cnt (fun t => lb A t && decide (K t = 0) && snB K c t)
def nxF (K : Nat → Nat) (A P : Int64) : Nat → Int × Int
  | 0 => (-1, -1)
  | c + 1 => if lb P c = true ∧ K c < 2 ∧ (nxF K A P c).2 < nxN K A c then ((c : Int), (nxN K A c : Int)) else nxF K A P c
theorem nxF_b (K : Nat → Nat) (A P : Int64) : ∀ c, (-1 ≤ (nxF K A P c).1 ∧ (nxF K A P c).1 < c) ∧ (-1 ≤ (nxF K A P c).2 ∧ (nxF K A P c).2 ≤ 64) := by
  intro c
  induction c with
  | zero => rw [nxF]; exact ⟨⟨by decide, by decide⟩, ⟨by decide, by decide⟩⟩
  | succ c ih =>
    rw [nxF]
    split
    · have : nxN K A c ≤ 64 := sumT_le1 _ (fun j => by split <;> omega) 64
      refine ⟨⟨?_, ?_⟩, ?_, ?_⟩ <;> dsimp only <;> omega
    · omega
theorem cX_next (d : Nat) (z : mm_Z) (F : Nat → Nat → Value) (I : Nat → Nat → Int32) (L : Nat → Nat → Int64) (n : Nat) (hs : Nat → List (Int × Int × Nat)) (st : Nat → Option (Nat × Nat)) (hz : zOK z) (hT : cTop F) (hb : cHb n hs st F) (A P : Int64) : mm_E (d + 4) mX10_next 0 [.ref 2, .long A, uu, .long P, uu, uu, uu, uu, uu, uu, uu] [] (z, F, I, L) = some (some (.int (iI (nxF (kd n hs st) A P 64).1)), (z, F, I, L)) := by
  obtain ⟨W, w1, w2⟩ := cH_allOf (d + 3) z F I L n hs st hz hb 0 (by decide)
  rw [nI_0] at w1
  obtain ⟨vh, vb, h5, h6, hh, hbb⟩ := hb
  have hit : ∀ c, c < 64 → lb vh c = decide (¬ kd n hs st c < 2) := fun c hc => by rw [hh c hc, kd_hit]
  generalize kd n hs st = K at *
  have l : ∀ c, c ≤ 64 → ∀ a10 : Value, mm_E (d + 4) mX10_next 21 [.ref 2, .long A, uu, .long P, uu, .long (A &&& W), uu, .int (iI (nxF K A P c).1), .int (iI (nxF K A P c).2), .int (nI c), a10] [] (z, F, I, L) = some (some (.int (iI (nxF K A P 64).1)), (z, F, I, L)) := by
    apply lp
    · intro a10
      rw [eX10_next_21]
      simp (disch := first | assumption | exact bI_or _ | exact zOK_O hz (by decide) (by decide) rfl | exact zOK_T hz (by decide) (by decide) rfl | (refine ix (zOK_l hz (by decide) (by decide) rfl) ?_; omega) | decide | omega) only [eX10_next_23, eX10_next_25, eX10_next_28, eX10_next_29, eX10_next_30, eX10_next_33, eX10_next_36, eX10_next_39, eX10_next_40, eX10_next_41, eX10_next_43, eX10_next_46, eX10_next_49, eX10_next_51, eX10_next_53, eX10_next_54, eX10_next_57, eX10_next_60, eX10_next_63, eX10_next_66, eX10_next_67, eX10_next_68, eX10_next_71, eX10_next_73, eX10_next_75, eX10_next_77, eX10_next_80, eX10_next_82, eX10_next_84, eX10_next_86, eX10_next_88, eX10_next_91, eX10_next_94, eX10_next_96, Int.cast_ofNat_Int, Nat.reduceLT, Nat.reduceLeDiff, Nat.reduceEqDiff, Nat.reduceAdd, Nat.reduceMul, Int.reduceLE, Int.reduceLT, Int.reduceEq, not_false_iff, nlr, Nat.zero_add, Nat.add_zero, e10f, e01f, eq_self, true_and, and_true, false_and, and_false, and_self, decide_true, decide_false, mm_bd_i, mm_bd_v, if_true, if_false, not_true_eq_false, not_false_eq_true, nI_1, Bool.true_eq_false, Bool.false_eq_true, bI_0, n_le0, n_0lt, n_lt0, n_0le, n_eq0, n_eqm, n_eq1, n_le1, n_1lt, n_1le, n_lt1, nn_le, nI_ltI, nI_eq, nI_clamp, nI_add, pk_mul, i_eq0, i_eqm, i_0le, i_le0, i_0lt, i_lt0, i_mle, i_ltm, ii_le, iI_lt, iI_eq, ni_le, ni_lt, ni_eq, in_le, in_lt, in_eq, ni_add, in_add, ni_sub, in_sub, ni_mul, in_mul, iI_add, iI_sub, iI_mul, i_p1, iI_neg, n_neg]
    · intro c hc ih a10
      obtain ⟨f1, f2⟩ := nxF_b K A P c
      have hs' := fun d' w => cX_has d' z F I L (P &&& (vh ^^^ -1)) w c hc
      rw [lb_and, lb_xor, lb_m1 c hc, Bool.xor_true, hit c hc] at hs'
      have no : ¬ (lb P c = true ∧ K c < 2) → mm_E (d + 4) mX10_next 21 [.ref 2, .long A, uu, .long P, uu, .long (A &&& W), uu, .int (iI (nxF K A P c).1), .int (iI (nxF K A P c).2), .int (nI c), a10] [] (z, F, I, L) = some (some (.int (iI (nxF K A P 64).1)), (z, F, I, L)) := by
        intro q
        have e : (lb P c && !decide (¬ K c < 2)) = false := by
          cases e1 : lb P c with
          | false => rfl
          | true =>
            have : ¬ K c < 2 := fun k => q ⟨e1, k⟩
            rw [decide_eq_true this]; rfl
        rw [e] at hs'
        have nf : nxF K A P (c + 1) = nxF K A P c := by rw [nxF, if_neg (fun k => q ⟨k.1, k.2.1⟩)]
        have ih' := ih a10
        rw [nf] at ih'
        rw [← ih', eX10_next_21]
        simp (disch := first | assumption | exact bI_or _ | exact zOK_O hz (by decide) (by decide) rfl | exact zOK_T hz (by decide) (by decide) rfl | (refine ix (zOK_l hz (by decide) (by decide) rfl) ?_; omega) | decide | omega) only [eX10_next_23, eX10_next_25, eX10_next_28, eX10_next_29, eX10_next_30, eX10_next_33, eX10_next_36, eX10_next_39, eX10_next_40, eX10_next_41, eX10_next_43, eX10_next_46, eX10_next_49, eX10_next_51, eX10_next_53, eX10_next_54, eX10_next_57, eX10_next_60, eX10_next_63, eX10_next_66, eX10_next_67, eX10_next_68, eX10_next_71, eX10_next_73, eX10_next_75, eX10_next_77, eX10_next_80, eX10_next_82, eX10_next_84, eX10_next_86, eX10_next_88, eX10_next_91, eX10_next_94, eX10_next_96, Int.cast_ofNat_Int, Nat.reduceLT, Nat.reduceLeDiff, Nat.reduceEqDiff, Nat.reduceAdd, Nat.reduceMul, Int.reduceLE, Int.reduceLT, Int.reduceEq, not_false_iff, nlr, Nat.zero_add, Nat.add_zero, e10f, e01f, eq_self, true_and, and_true, false_and, and_false, and_self, decide_true, decide_false, mm_bd_i, mm_bd_v, if_true, if_false, not_true_eq_false, not_false_eq_true, nI_1, Bool.true_eq_false, Bool.false_eq_true, bI_0, n_le0, n_0lt, n_lt0, n_0le, n_eq0, n_eqm, n_eq1, n_le1, n_1lt, n_1le, n_lt1, nn_le, nI_ltI, nI_eq, nI_clamp, nI_add, pk_mul, i_eq0, i_eqm, i_0le, i_le0, i_0lt, i_lt0, i_mle, i_ltm, ii_le, iI_lt, iI_eq, ni_le, ni_lt, ni_eq, in_le, in_lt, in_eq, ni_add, in_add, ni_sub, in_sub, ni_mul, in_mul, iI_add, iI_sub, iI_mul, i_p1, iI_neg, n_neg, hc, hT.1, h5, hs', bI_f]
      by_cases q1 : lb P c = true
      · by_cases q2 : K c < 2
        · rw [q1, decide_eq_false (show ¬ ¬ K c < 2 by omega)] at hs'
          have e : (true && !false) = true := rfl
          rw [e] at hs'
          obtain ⟨R, r1, r2⟩ := cX_hidden d z F I L K vh uu hit c hc q2
          have bc := fun d' => cJ_bits d' z F I L ((A &&& W) &&& (R ^^^ -1))
          have cn : cnt (lb ((A &&& W) &&& (R ^^^ -1))) = nxN K A c := by
            unfold nxN cnt
            apply sumT_congr
            intro t ht
            rw [lb_and, lb_and, lb_xor, lb_m1 t ht, Bool.xor_true, w2 t ht, r2 t ht, Bool.not_not]
          rw [cn] at bc
          have nl : nxN K A c ≤ 64 := sumT_le1 _ (fun j => by split <;> omega) 64
          by_cases g : (nxF K A P c).2 < nxN K A c
          · have nf : nxF K A P (c + 1) = ((c : Int), (nxN K A c : Int)) := by rw [nxF, if_pos ⟨q1, q2, g⟩]
            have ih' := ih (.int (nI (nxN K A c)))
            rw [nf] at ih'
            simp only [← nI_iI] at ih'
            rw [← ih', eX10_next_21]
            simp (disch := first | assumption | exact bI_or _ | exact zOK_O hz (by decide) (by decide) rfl | exact zOK_T hz (by decide) (by decide) rfl | (refine ix (zOK_l hz (by decide) (by decide) rfl) ?_; omega) | decide | omega) only [eX10_next_23, eX10_next_25, eX10_next_28, eX10_next_29, eX10_next_30, eX10_next_33, eX10_next_36, eX10_next_39, eX10_next_40, eX10_next_41, eX10_next_43, eX10_next_46, eX10_next_49, eX10_next_51, eX10_next_53, eX10_next_54, eX10_next_57, eX10_next_60, eX10_next_63, eX10_next_66, eX10_next_67, eX10_next_68, eX10_next_71, eX10_next_73, eX10_next_75, eX10_next_77, eX10_next_80, eX10_next_82, eX10_next_84, eX10_next_86, eX10_next_88, eX10_next_91, eX10_next_94, eX10_next_96, Int.cast_ofNat_Int, Nat.reduceLT, Nat.reduceLeDiff, Nat.reduceEqDiff, Nat.reduceAdd, Nat.reduceMul, Int.reduceLE, Int.reduceLT, Int.reduceEq, not_false_iff, nlr, Nat.zero_add, Nat.add_zero, e10f, e01f, eq_self, true_and, and_true, false_and, and_false, and_self, decide_true, decide_false, mm_bd_i, mm_bd_v, if_true, if_false, not_true_eq_false, not_false_eq_true, nI_1, Bool.true_eq_false, Bool.false_eq_true, bI_0, n_le0, n_0lt, n_lt0, n_0le, n_eq0, n_eqm, n_eq1, n_le1, n_1lt, n_1le, n_lt1, nn_le, nI_ltI, nI_eq, nI_clamp, nI_add, pk_mul, i_eq0, i_eqm, i_0le, i_le0, i_0lt, i_lt0, i_mle, i_ltm, ii_le, iI_lt, iI_eq, ni_le, ni_lt, ni_eq, in_le, in_lt, in_eq, ni_add, in_add, ni_sub, in_sub, ni_mul, in_mul, iI_add, iI_sub, iI_mul, i_p1, iI_neg, n_neg, hc, hT.1, h5, hs', bI_t, r1, bc, g]
          · have nf : nxF K A P (c + 1) = nxF K A P c := by rw [nxF, if_neg (fun k => g k.2.2)]
            have ih' := ih (.int (nI (nxN K A c)))
            rw [nf] at ih'
            rw [← ih', eX10_next_21]
            simp (disch := first | assumption | exact bI_or _ | exact zOK_O hz (by decide) (by decide) rfl | exact zOK_T hz (by decide) (by decide) rfl | (refine ix (zOK_l hz (by decide) (by decide) rfl) ?_; omega) | decide | omega) only [eX10_next_23, eX10_next_25, eX10_next_28, eX10_next_29, eX10_next_30, eX10_next_33, eX10_next_36, eX10_next_39, eX10_next_40, eX10_next_41, eX10_next_43, eX10_next_46, eX10_next_49, eX10_next_51, eX10_next_53, eX10_next_54, eX10_next_57, eX10_next_60, eX10_next_63, eX10_next_66, eX10_next_67, eX10_next_68, eX10_next_71, eX10_next_73, eX10_next_75, eX10_next_77, eX10_next_80, eX10_next_82, eX10_next_84, eX10_next_86, eX10_next_88, eX10_next_91, eX10_next_94, eX10_next_96, Int.cast_ofNat_Int, Nat.reduceLT, Nat.reduceLeDiff, Nat.reduceEqDiff, Nat.reduceAdd, Nat.reduceMul, Int.reduceLE, Int.reduceLT, Int.reduceEq, not_false_iff, nlr, Nat.zero_add, Nat.add_zero, e10f, e01f, eq_self, true_and, and_true, false_and, and_false, and_self, decide_true, decide_false, mm_bd_i, mm_bd_v, if_true, if_false, not_true_eq_false, not_false_eq_true, nI_1, Bool.true_eq_false, Bool.false_eq_true, bI_0, n_le0, n_0lt, n_lt0, n_0le, n_eq0, n_eqm, n_eq1, n_le1, n_1lt, n_1le, n_lt1, nn_le, nI_ltI, nI_eq, nI_clamp, nI_add, pk_mul, i_eq0, i_eqm, i_0le, i_le0, i_0lt, i_lt0, i_mle, i_ltm, ii_le, iI_lt, iI_eq, ni_le, ni_lt, ni_eq, in_le, in_lt, in_eq, ni_add, in_add, ni_sub, in_sub, ni_mul, in_mul, iI_add, iI_sub, iI_mul, i_p1, iI_neg, n_neg, hc, hT.1, h5, hs', bI_t, r1, bc, g]
        · exact no (fun k => q2 k.2)
      · exact no (fun k => q1 k.1)
  have l0 := l 0 (by omega) uu
  have e0 : nxF K A P 0 = (-1, -1) := rfl
  rw [e0] at l0
  simp only [iI_m1] at l0
  rw [← l0]
  simp (disch := first | assumption | exact bI_or _ | exact zOK_O hz (by decide) (by decide) rfl | exact zOK_T hz (by decide) (by decide) rfl | (refine ix (zOK_l hz (by decide) (by decide) rfl) ?_; omega) | decide | omega) only [eX10_next_0, eX10_next_1, eX10_next_2, eX10_next_5, eX10_next_6, eX10_next_9, eX10_next_10, eX10_next_12, eX10_next_13, eX10_next_15, eX10_next_16, eX10_next_18, eX10_next_19, Int.cast_ofNat_Int, Nat.reduceLT, Nat.reduceLeDiff, Nat.reduceEqDiff, Nat.reduceAdd, Nat.reduceMul, Int.reduceLE, Int.reduceLT, Int.reduceEq, not_false_iff, nlr, Nat.zero_add, Nat.add_zero, e10f, e01f, eq_self, true_and, and_true, false_and, and_false, and_self, decide_true, decide_false, mm_bd_i, mm_bd_v, if_true, if_false, not_true_eq_false, not_false_eq_true, nI_1, Bool.true_eq_false, Bool.false_eq_true, bI_0, n_le0, n_0lt, n_lt0, n_0le, n_eq0, n_eqm, n_eq1, n_le1, n_1lt, n_1le, n_lt1, nn_le, nI_ltI, nI_eq, nI_clamp, nI_add, pk_mul, i_eq0, i_eqm, i_0le, i_le0, i_0lt, i_lt0, i_mle, i_ltm, ii_le, iI_lt, iI_eq, ni_le, ni_lt, ni_eq, in_le, in_lt, in_eq, ni_add, in_add, ni_sub, in_sub, ni_mul, in_mul, iI_add, iI_sub, iI_mul, i_p1, iI_neg, n_neg, hT.1, w1]
  rfl
