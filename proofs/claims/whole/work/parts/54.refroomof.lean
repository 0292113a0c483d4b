/-! the reference: roomOf -/
/-- the last of the first r rooms that has c, or -1 -/
def roF (rm : Nat → Int64) (c : Nat) : Nat → Int
  | 0 => -1
  | r + 1 => if lb (rm r) c = true then (r : Int) else roF rm c r
theorem rM_roomOf (d : Nat) (z : mm_Z) (F : Nat → Nat → Value) (I : Nat → Nat → Int32) (L : Nat → Nat → Int64) (hz : zOK z) (hF : FixM F) (R : Nat) (hR : R ≤ 64) (h18 : F 120 18 = .int (nI R)) (c : Nat) (hc : c < 64) : mm_E (d + 1) mX11_roomOf 0 [.ref 120, .int (nI c), uu, uu] [] (z, F, I, L) = some (some (.int (iI (roF (L 131) c R))), (z, F, I, L)) := by
  have lp : ∀ k i, i + k = R → mm_E (d + 1) mX11_roomOf 4 [.ref 120, .int (nI c), .int (iI (roF (L 131) c i)), .int (nI i)] [] (z, F, I, L) = some (some (.int (iI (roF (L 131) c R))), (z, F, I, L)) := by
    intro k
    induction k with
    | zero =>
      intro i hi
      have e : i = R := by omega
      subst e
      rw [eX11_roomOf_4]
      simp (disch := first | assumption | decide | exact zO_120 hz | exact zT_131 hz | exact bI_or _) only [eX11_roomOf_5, eX11_roomOf_6, eX11_roomOf_9, eX11_roomOf_37, eX11_roomOf_38, h18, nI_le (Nat.le_refl i) (by omega), if_true]
    | succ k ih =>
      intro i hi
      have h1 : ¬ nI R ≤ nI i := nI_ge (by omega) (by omega)
      have v1 : vp_in (nI i) (mm_zl z 131) := vi (zl_131 hz) (by omega) (by decide)
      have c1 : (nI i).toNatClampNeg = i := nI_clamp (by omega)
      have ha := fun d' w => rM_has d' z F I L (L 131 i) c hc w
      rw [← ih (i + 1) (by omega), eX11_roomOf_4, roF]
      cases x : lb (L 131 i) c with
      | false =>
        simp only [x] at ha
        simp (disch := first | assumption | decide | exact zO_120 hz | exact zT_131 hz | exact bI_or _) only [eX11_roomOf_5, eX11_roomOf_6, eX11_roomOf_9, eX11_roomOf_12, eX11_roomOf_13, eX11_roomOf_16, eX11_roomOf_17, eX11_roomOf_18, eX11_roomOf_19, eX11_roomOf_22, eX11_roomOf_25, eX11_roomOf_26, eX11_roomOf_29, eX11_roomOf_30, eX11_roomOf_31, eX11_roomOf_34, h18, h1, if_false, fM_19 hF, c1, ha, mm_bd_i, bI_0, if_true, nI_1, Bool.false_eq_true]
      | true =>
        simp only [x] at ha
        simp (disch := first | assumption | decide | exact zO_120 hz | exact zT_131 hz | exact bI_or _) only [eX11_roomOf_5, eX11_roomOf_6, eX11_roomOf_9, eX11_roomOf_12, eX11_roomOf_13, eX11_roomOf_16, eX11_roomOf_17, eX11_roomOf_18, eX11_roomOf_19, eX11_roomOf_22, eX11_roomOf_25, eX11_roomOf_26, eX11_roomOf_29, eX11_roomOf_30, eX11_roomOf_31, eX11_roomOf_34, h18, h1, if_false, fM_19 hF, c1, ha, mm_bd_i, bI_0, Bool.true_eq_false, if_true, nI_1]
        rw [iI_n (n := i) (by omega)]
  rw [← lp R 0 (by omega)]
  simp (disch := first | assumption | decide | exact zO_120 hz | exact zT_131 hz | exact bI_or _) only [eX11_roomOf_0, eX11_roomOf_1, eX11_roomOf_2, eX11_roomOf_3]
  rfl
