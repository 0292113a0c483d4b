/-! the reference: findDoors, doors -/
theorem rM_doors_s5 (d : Nat) (z : mm_Z) (F : Nat → Nat → Value) (I : Nat → Nat → Int32) (L : Nat → Nat → Int64) (hz : zOK z) (hF : FixM F) (K : Nat → Nat) (hK : ∀ c, c < 64 → I 127 c = nI (K c) ∧ K c ≤ 3) (i : Nat) (hi : i < 64) (p q r t : Bool) (a6 : Value) : mm_E d mX11_findDoors 111 [.ref 120, .int (nI i), .int (bI p), .int (bI q), .int (bI r), .int (bI t), a6] [] (z, F, I, L) = mm_E d mX11_findDoors 146 [.ref 120, .int (nI i), .int (bI p), .int (bI q), .int (bI r), .int (bI t), .int (bI (decide (K i = 1) && ((p && t) || (q && r))))] [] (z, F, I, L) := by
  have e10 : ¬ (1 : Int32) = 0 := by decide
  have v1 : vp_in (nI i) (mm_zl z 127) := vi (zl_127 hz) (by omega) (by decide)
  have c1 : (nI i).toNatClampNeg = i := nI_clamp (by omega)
  have g := hK i hi
  by_cases k : K i = 1
  · have k' : (nI (K i) = 1) = True := by rw [k]; exact eq_true (by decide)
    rw [decide_eq_true k]
    cases p <;> cases q <;> cases r <;> cases t <;> simp (disch := first | assumption | decide | exact zO_120 hz | exact zT_127 hz | exact bI_or _) only [eX11_findDoors_111, eX11_findDoors_112, eX11_findDoors_115, eX11_findDoors_116, eX11_findDoors_117, eX11_findDoors_118, eX11_findDoors_121, eX11_findDoors_122, eX11_findDoors_125, eX11_findDoors_127, eX11_findDoors_130, eX11_findDoors_131, eX11_findDoors_134, eX11_findDoors_136, eX11_findDoors_139, eX11_findDoors_140, eX11_findDoors_143, eX11_findDoors_144, fM_10 hF, c1, g.1, k', bI_t, bI_f, e10, not_true_eq_false, not_false_eq_true, if_true, if_false, Bool.and_true, Bool.true_and, Bool.and_false, Bool.false_and, Bool.and_self, Bool.or_self, Bool.or_false, Bool.false_or, Bool.true_or, Bool.or_true]
  · have k' : ¬ nI (K i) = 1 := fun e => k ((nI_eq (a := K i) (b := 1) (by omega) (by decide)).mp e)
    rw [decide_eq_false k, Bool.false_and, bI_f]
    simp (disch := first | assumption | decide | exact zO_120 hz | exact zT_127 hz | exact bI_or _) only [eX11_findDoors_111, eX11_findDoors_112, eX11_findDoors_115, eX11_findDoors_116, eX11_findDoors_117, eX11_findDoors_118, eX11_findDoors_121, eX11_findDoors_122, eX11_findDoors_125, eX11_findDoors_127, eX11_findDoors_130, eX11_findDoors_131, eX11_findDoors_134, eX11_findDoors_136, eX11_findDoors_139, eX11_findDoors_140, eX11_findDoors_143, eX11_findDoors_144, fM_10 hF, c1, g.1, k', not_false_eq_true, if_true]
theorem rM_doors_s6 (d : Nat) (z : mm_Z) (F : Nat → Nat → Value) (I : Nat → Nat → Int32) (L : Nat → Nat → Int64) (hz : zOK z) (f : Nat → Bool) (i : Nat) (h17 : F 120 17 = .long (lOr f i)) (a2 a3 a4 a5 : Value) : mm_E d mX11_findDoors 146 [.ref 120, .int (nI i), a2, a3, a4, a5, .int (bI (f i))] [] (z, F, I, L) = mm_E d mX11_findDoors 7 [.ref 120, .int (nI (i + 1)), a2, a3, a4, a5, .int (bI (f i))] [] (z, mm_up2 F 120 17 (.long (lOr f (i + 1))), I, L) := by
  have e10 : ¬ (1 : Int32) = 0 := by decide
  rw [lOr]
  cases x : f i <;> simp (disch := first | assumption | decide | exact zO_120 hz | exact zT_127 hz | exact bI_or _) only [eX11_findDoors_146, eX11_findDoors_147, eX11_findDoors_148, eX11_findDoors_151, eX11_findDoors_153, eX11_findDoors_156, eX11_findDoors_157, eX11_findDoors_158, eX11_findDoors_159, eX11_findDoors_162, eX11_findDoors_163, eX11_findDoors_164, eX11_findDoors_167, eX11_findDoors_170, h17, bI_t, bI_f, e10, if_true, if_false, nI_1, Bool.false_eq_true]
theorem rM_doors_l (d : Nat) (z : mm_Z) (I : Nat → Nat → Int32) (L : Nat → Nat → Int64) (hz : zOK z) (K : Nat → Nat) (hK : ∀ c, c < 64 → I 127 c = nI (K c) ∧ K c ≤ 3) : ∀ k i F, i + k = 64 → FixM F → F 120 17 = .long (lOr (drC K) i) → ∀ a2 a3 a4 a5 a6 : Value, ∃ F', mm_E (d + 3) mX11_findDoors 7 [.ref 120, .int (nI i), a2, a3, a4, a5, a6] [] (z, F, I, L) = some (none, (z, F', I, L)) ∧ FixM F' ∧ F' 120 17 = .long (lOr (drC K) 64) ∧ ∀ r j, ¬ (r = 120 ∧ j = 17) → F' r j = F r j := by
  intro k
  induction k with
  | zero =>
    intro i F hi hF h17 a2 a3 a4 a5 a6
    have e : i = 64 := by omega
    subst e
    refine ⟨F, ?_, hF, h17, fun _ _ _ => rfl⟩
    rw [eX11_findDoors_7]
    simp (disch := first | assumption | decide | exact zO_120 hz | exact zT_127 hz | exact bI_or _) only [eX11_findDoors_8, eX11_findDoors_10, eX11_findDoors_173, nI_le (Nat.le_refl 64) (by decide), if_true]
  | succ k ih =>
    intro i F hi hF h17 a2 a3 a4 a5 a6
    have h1 : ¬ nI 64 ≤ nI i := nI_ge (by omega) (by decide)
    obtain ⟨F', g1, g2, g3, g4⟩ := ih (i + 1) (mm_up2 F 120 17 (.long (lOr (drC K) (i + 1)))) (by omega) (FixM_up hF (by decide)) (up_s _ _ _ _) (.int (bI (hb K i 0 && hb K i 2))) (.int (bI (hb K i 1 && hb K i 3))) (.int (bI (!hb K i 0 && !hb K i 2))) (.int (bI (!hb K i 1 && !hb K i 3))) (.int (bI (drC K i)))
    refine ⟨F', ?_, g2, g3, ?_⟩
    · rw [← g1, eX11_findDoors_7]
      simp (disch := first | assumption | decide | exact zO_120 hz | exact zT_127 hz | exact bI_or _) only [eX11_findDoors_8, eX11_findDoors_10, h1, if_false]
      rw [rM_doors_s1 d z F I L hz hF K hK i (by omega), rM_doors_s2 d z F I L hz hF K hK i (by omega), rM_doors_s3 d z F I L hz hF K hK i (by omega), rM_doors_s4 d z F I L hz hF K hK i (by omega), rM_doors_s5 (d + 3) z F I L hz hF K hK i (by omega)]
      exact rM_doors_s6 (d + 3) z F I L hz (drC K) i h17 _ _ _ _
    · intro r j hn
      rw [g4 r j hn]
      unfold mm_up2
      rw [if_neg hn]
