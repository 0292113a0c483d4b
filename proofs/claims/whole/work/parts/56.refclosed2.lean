/-! the reference: isClosed -/
def cl4 (K : Nat → Nat) (c : Nat) : Nat → Bool
  | 0 => true
  | k + 1 => cl4 K c k && clS K c k
theorem rM_closed_in (d : Nat) (z : mm_Z) (F : Nat → Nat → Value) (I : Nat → Nat → Int32) (L : Nat → Nat → Int64) (hz : zOK z) (hF : FixM F) (K : Nat → Nat) (hK : ∀ c, c < 64 → I 127 c = nI (K c) ∧ K c ≤ 3) (s : Int64) (c : Nat) (hc : c < 64) (hb : lb s c = true) (a : Bool) (b2 : Value) : ∀ k i, i + k = 4 → ∀ b6, ∃ b6' : Value, mm_E (d + 2) mX11_isClosed 15 [.ref 120, .long s, b2, .int (bI (a && cl4 K c i)), .int (nI c), .int (nI i), b6] [] (z, F, I, L) = mm_E (d + 2) mX11_isClosed 84 [.ref 120, .long s, b2, .int (bI (a && cl4 K c 4)), .int (nI c), .int (nI 4), b6'] [] (z, F, I, L) := by
  intro k
  induction k with
  | zero =>
    intro i hi b6
    have e : i = 4 := by omega
    subst e
    refine ⟨b6, ?_⟩
    rw [eX11_isClosed_15]
    simp (disch := first | assumption | decide | exact zO_120 hz | exact bI_or _) only [eX11_isClosed_17, eX11_isClosed_18, nI_le (Nat.le_refl 4) (by decide), if_true]
  | succ k ih =>
    intro i hi b6
    have h1 : ¬ nI 4 ≤ nI i := nI_ge (by omega) (by decide)
    have ha := fun d' w => rM_has d' z F I L s c hc w
    simp only [hb] at ha
    obtain ⟨b6', g⟩ := ih (i + 1) (by omega) (.int (iI (bsI c i)))
    refine ⟨b6', ?_⟩
    rw [← g, eX11_isClosed_15, cl4, ← Bool.and_assoc, ← rM_closed_s d z F I L hz hF K hK c i hc (by omega) (a && cl4 K c i) (.long s) b2 b6]
    simp (disch := first | assumption | decide | exact zO_120 hz | exact bI_or _) only [eX11_isClosed_17, eX11_isClosed_18, eX11_isClosed_21, eX11_isClosed_22, eX11_isClosed_24, eX11_isClosed_27, h1, if_false, ha, mm_bd_i, bI_0, Bool.true_eq_false]
