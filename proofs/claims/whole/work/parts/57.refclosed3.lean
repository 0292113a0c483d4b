/-! the reference: isClosed, whole -/
def clA (K : Nat → Nat) (s : Int64) : Nat → Bool
  | 0 => true
  | c + 1 => clA K s c && (!lb s c || cl4 K c 4)
theorem rM_isClosed (d : Nat) (z : mm_Z) (F : Nat → Nat → Value) (I : Nat → Nat → Int32) (L : Nat → Nat → Int64) (hz : zOK z) (hF : FixM F) (K : Nat → Nat) (hK : ∀ c, c < 64 → I 127 c = nI (K c) ∧ K c ≤ 3) (s : Int64) : mm_E (d + 2) mX11_isClosed 0 [.ref 120, .long s, uu, uu, uu, uu, uu] [] (z, F, I, L) = some (some (.int (bI (clA K s 64))), (z, F, I, L)) := by
  have lp : ∀ k i, i + k = 64 → ∀ b5 b6, mm_E (d + 2) mX11_isClosed 5 [.ref 120, .long s, uu, .int (bI (clA K s i)), .int (nI i), b5, b6] [] (z, F, I, L) = some (some (.int (bI (clA K s 64))), (z, F, I, L)) := by
    intro k
    induction k with
    | zero =>
      intro i hi b5 b6
      have e : i = 64 := by omega
      subst e
      rw [eX11_isClosed_5]
      simp (disch := first | assumption | decide | exact zO_120 hz | exact bI_or _) only [eX11_isClosed_7, eX11_isClosed_9, eX11_isClosed_90, eX11_isClosed_91, nI_le (Nat.le_refl 64) (by decide), if_true]
    | succ k ih =>
      intro i hi b5 b6
      have h1 : ¬ nI 64 ≤ nI i := nI_ge (by omega) (by decide)
      have ha := fun d' w => rM_has d' z F I L s i (by omega) w
      rw [eX11_isClosed_5]
      cases x : lb s i with
      | false =>
        simp only [x] at ha
        have t : clA K s (i + 1) = clA K s i := by rw [clA, x, Bool.not_false, Bool.true_or, Bool.and_true]
        have n4 : ¬ nI 4 ≤ 0 := by decide
        rw [← ih (i + 1) (by omega) (.int 0) b6, t]
        simp (disch := first | assumption | decide | exact zO_120 hz | exact bI_or _) only [eX11_isClosed_7, eX11_isClosed_9, eX11_isClosed_12, eX11_isClosed_13, h1, if_false]
        rw [eX11_isClosed_15]
        simp (disch := first | assumption | decide | exact zO_120 hz | exact bI_or _) only [eX11_isClosed_17, eX11_isClosed_18, eX11_isClosed_21, eX11_isClosed_22, eX11_isClosed_24, eX11_isClosed_27, eX11_isClosed_84, eX11_isClosed_87, n4, if_false, ha, mm_bd_i, bI_0, if_true, nI_1]
      | true =>
        have t : clA K s (i + 1) = (clA K s i && cl4 K i 4) := by rw [clA, x, Bool.not_true, Bool.false_or]
        obtain ⟨b6', g⟩ := rM_closed_in d z F I L hz hF K hK s i (by omega) x (clA K s i) uu 4 0 (by omega) b6
        have q : cl4 K i 0 = true := rfl
        have n0 : nI 0 = 0 := rfl
        rw [q, Bool.and_true, n0] at g
        rw [← ih (i + 1) (by omega) (.int (nI 4)) b6', t]
        simp (disch := first | assumption | decide | exact zO_120 hz | exact bI_or _) only [eX11_isClosed_7, eX11_isClosed_9, eX11_isClosed_12, eX11_isClosed_13, h1, if_false]
        rw [g]
        simp (disch := first | assumption | decide | exact zO_120 hz | exact bI_or _) only [eX11_isClosed_84, eX11_isClosed_87, nI_1]
  rw [← lp 64 0 (by omega) uu uu]
  simp (disch := first | assumption | decide | exact zO_120 hz | exact bI_or _) only [eX11_isClosed_0, eX11_isClosed_1, eX11_isClosed_2, eX11_isClosed_3]
  rfl
