/-! the reference: beside, isHitBeside -/
def sdX (k : Nat) : Int := if k = 0 then 1 else if k = 2 then -1 else 0
def sdY (k : Nat) : Int := if k = 1 then 1 else if k = 3 then -1 else 0
def bsX (c k : Nat) : Int := ((c % 8 : Nat) : Int) + sdX k
def bsY (c k : Nat) : Int := ((c / 8 : Nat) : Int) + sdY k
/-- the cell beside c on side k, or -1 -/
def bsI (c k : Nat) : Int := if (0 ≤ bsX c k ∧ bsX c k ≤ 7) ∧ (0 ≤ bsY c k ∧ bsY c k ≤ 7) then 8 * bsY c k + bsX c k else -1
theorem bsI_b (c k : Nat) : -1 ≤ bsI c k ∧ bsI c k < 64 := by
  unfold bsI
  split <;> omega
theorem iI_p1 (a : Int) : iI a + 1 = iI (a + 1) := by rw [← iI_1, iI_add]
theorem iI_pm1 (a : Int) : iI a + -1 = iI (a + -1) := by rw [← iI_m1, iI_add]
theorem rM_beside_t (d : Nat) (z : mm_Z) (F : Nat → Nat → Value) (I : Nat → Nat → Int32) (L : Nat → Nat → Int64) (b0 b1 b2 : Value) (X Y : Int) (hX : -100 < X ∧ X < 100) (hY : -100 < Y ∧ Y < 100) : mm_E (d + 1) mX11_beside 50 [b0, b1, b2, .int (iI X), .int (iI Y)] [] (z, F, I, L) = some (some (.int (iI (if (0 ≤ X ∧ X ≤ 7) ∧ (0 ≤ Y ∧ Y ≤ 7) then 8 * Y + X else -1))), (z, F, I, L)) := by
  have e3 : (iI X).toInt = X := iI_toInt (by omega) (by omega)
  have e4 : (iI Y).toInt = Y := iI_toInt (by omega) (by omega)
  have e7 : (nI 7).toInt = 7 := rfl
  have e0 : (0 : Int32).toInt = 0 := rfl
  have e9 : nI 8 * iI Y + iI X = iI (8 * Y + X) := by rw [iI_n (by decide), iI_mul, iI_add]; rfl
  by_cases h1 : 0 ≤ X ∧ X ≤ 7
  · have c1 : decide (0 ≤ X ∧ X ≤ 7) = true := decide_eq_true h1
    by_cases h2 : 0 ≤ Y ∧ Y ≤ 7
    · have c2 : decide (0 ≤ Y ∧ Y ≤ 7) = true := decide_eq_true h2
      rw [if_pos ⟨h1, h2⟩]
      simp (disch := first | assumption | decide) only [eX11_beside_50, eX11_beside_51, eX11_beside_52, eX11_beside_54, eX11_beside_57, eX11_beside_60, eX11_beside_62, eX11_beside_63, eX11_beside_65, eX11_beside_68, eX11_beside_71, eX11_beside_73, eX11_beside_75, eX11_beside_76, eX11_beside_77, eX11_beside_78, eX11_beside_81, eX11_beside_82, rM_in, mm_bd_i, e3, e4, e7, e0, c1, c2, bI_0, Bool.true_eq_false, if_false, e9]
    · have c2 : decide (0 ≤ Y ∧ Y ≤ 7) = false := decide_eq_false h2
      rw [if_neg (fun q => h2 q.2)]
      simp (disch := first | assumption | decide) only [eX11_beside_50, eX11_beside_51, eX11_beside_52, eX11_beside_54, eX11_beside_57, eX11_beside_60, eX11_beside_62, eX11_beside_63, eX11_beside_65, eX11_beside_68, eX11_beside_71, eX11_beside_73, eX11_beside_75, eX11_beside_76, eX11_beside_77, eX11_beside_78, eX11_beside_81, eX11_beside_82, rM_in, mm_bd_i, e3, e4, e7, e0, c1, c2, bI_0, Bool.true_eq_false, if_false, if_true, iI_m1]
  · have c1 : decide (0 ≤ X ∧ X ≤ 7) = false := decide_eq_false h1
    rw [if_neg (fun q => h1 q.1)]
    simp (disch := first | assumption | decide) only [eX11_beside_50, eX11_beside_51, eX11_beside_52, eX11_beside_54, eX11_beside_57, eX11_beside_60, eX11_beside_62, eX11_beside_63, eX11_beside_65, eX11_beside_68, eX11_beside_71, eX11_beside_73, eX11_beside_75, eX11_beside_76, eX11_beside_77, eX11_beside_78, eX11_beside_81, eX11_beside_82, rM_in, mm_bd_i, e3, e4, e7, e0, c1, bI_0, if_true, iI_m1]
theorem rM_beside (d : Nat) (z : mm_Z) (F : Nat → Nat → Value) (I : Nat → Nat → Int32) (L : Nat → Nat → Int64) (b0 : Value) (c k : Nat) (hc : c < 64) (hk : k < 4) : mm_E (d + 1) mX11_beside 0 [b0, .int (nI c), .int (nI k), uu, uu] [] (z, F, I, L) = some (some (.int (iI (bsI c k))), (z, F, I, L)) := by
  have e8 : ¬ nI 8 = 0 := by decide
  have e2 : nI c / nI 8 = iI ((c / 8 : Nat) : Int) := by rw [pk_div (by omega) (by decide) (by decide), iI_n (by omega)]
  have e1 : nI c - iI ((c / 8 : Nat) : Int) * nI 8 = iI ((c % 8 : Nat) : Int) := by rw [← e2, pk_rem (by omega) (by decide) (by decide), iI_n (by omega)]
  have tl := fun b1 b2 X Y hX hY => rM_beside_t d z F I L b0 b1 b2 X Y hX hY
  have z1 : ¬ (1 : Int32) = 0 := by decide
  unfold bsI
  have h : k = 0 ∨ k = 1 ∨ k = 2 ∨ k = 3 := by omega
  rcases h with rfl | rfl | rfl | rfl
  · have q1 : (nI 0 = 0) = True := by decide
    have q2 : ¬ nI 0 = 1 := by decide
    have q3 : ¬ nI 0 = nI 3 := by decide
    rw [← tl (.int (nI c)) (.int (nI 0)) (bsX c 0) (bsY c 0) (by unfold bsX sdX; simp only [if_true]; omega) (by unfold bsY sdY; simp; omega)]
    simp (disch := first | assumption | decide) only [eX11_beside_0, eX11_beside_1, eX11_beside_3, eX11_beside_4, eX11_beside_5, eX11_beside_8, eX11_beside_9, eX11_beside_12, eX11_beside_13, eX11_beside_14, eX11_beside_17, eX11_beside_18, eX11_beside_21, eX11_beside_22, eX11_beside_23, eX11_beside_24, eX11_beside_25, eX11_beside_27, eX11_beside_28, eX11_beside_29, eX11_beside_30, eX11_beside_33, eX11_beside_34, eX11_beside_37, eX11_beside_38, eX11_beside_39, eX11_beside_42, eX11_beside_43, eX11_beside_46, eX11_beside_47, eX11_beside_48, e1, e2, q1, q2, q3, not_true_eq_false, not_false_eq_true, if_true, if_false, iI_p1, iI_pm1, Int32.add_zero]
    unfold bsX bsY sdX sdY
    simp
  · have q1 : ¬ nI 1 = 0 := by decide
    have q2 : (nI 1 = 1) = True := by decide
    have q3 : ¬ nI 1 = nI 2 := by decide
    rw [← tl (.int (nI c)) (.int (nI 1)) (bsX c 1) (bsY c 1) (by unfold bsX sdX; simp; omega) (by unfold bsY sdY; simp; omega)]
    simp (disch := first | assumption | decide) only [eX11_beside_0, eX11_beside_1, eX11_beside_3, eX11_beside_4, eX11_beside_5, eX11_beside_8, eX11_beside_9, eX11_beside_12, eX11_beside_13, eX11_beside_14, eX11_beside_17, eX11_beside_18, eX11_beside_21, eX11_beside_22, eX11_beside_23, eX11_beside_24, eX11_beside_25, eX11_beside_27, eX11_beside_28, eX11_beside_29, eX11_beside_30, eX11_beside_33, eX11_beside_34, eX11_beside_37, eX11_beside_38, eX11_beside_39, eX11_beside_42, eX11_beside_43, eX11_beside_46, eX11_beside_47, eX11_beside_48, e1, e2, q1, q2, q3, not_true_eq_false, not_false_eq_true, if_true, if_false, iI_p1, iI_pm1, Int32.add_zero]
    unfold bsX bsY sdX sdY
    simp
  · have q1 : ¬ nI 2 = 0 := by decide
    have q2 : ¬ nI 2 = 1 := by decide
    have q3 : ¬ nI 2 = nI 3 := by decide
    have q4 : (nI 2 = nI 2) = True := by decide
    rw [← tl (.int (nI c)) (.int (nI 2)) (bsX c 2) (bsY c 2) (by unfold bsX sdX; simp; omega) (by unfold bsY sdY; simp; omega)]
    simp (disch := first | assumption | decide) only [eX11_beside_0, eX11_beside_1, eX11_beside_3, eX11_beside_4, eX11_beside_5, eX11_beside_8, eX11_beside_9, eX11_beside_12, eX11_beside_13, eX11_beside_14, eX11_beside_17, eX11_beside_18, eX11_beside_21, eX11_beside_22, eX11_beside_23, eX11_beside_24, eX11_beside_25, eX11_beside_27, eX11_beside_28, eX11_beside_29, eX11_beside_30, eX11_beside_33, eX11_beside_34, eX11_beside_37, eX11_beside_38, eX11_beside_39, eX11_beside_42, eX11_beside_43, eX11_beside_46, eX11_beside_47, eX11_beside_48, e1, e2, q1, q2, q3, not_true_eq_false, not_false_eq_true, if_true, if_false, iI_p1, iI_pm1, Int32.add_zero]
    unfold bsX bsY sdX sdY
    simp
  · have q1 : ¬ nI 3 = 0 := by decide
    have q2 : ¬ nI 3 = 1 := by decide
    have q3 : ¬ nI 3 = nI 2 := by decide
    rw [← tl (.int (nI c)) (.int (nI 3)) (bsX c 3) (bsY c 3) (by unfold bsX sdX; simp; omega) (by unfold bsY sdY; simp; omega)]
    simp (disch := first | assumption | decide) only [eX11_beside_0, eX11_beside_1, eX11_beside_3, eX11_beside_4, eX11_beside_5, eX11_beside_8, eX11_beside_9, eX11_beside_12, eX11_beside_13, eX11_beside_14, eX11_beside_17, eX11_beside_18, eX11_beside_21, eX11_beside_22, eX11_beside_23, eX11_beside_24, eX11_beside_25, eX11_beside_27, eX11_beside_28, eX11_beside_29, eX11_beside_30, eX11_beside_33, eX11_beside_34, eX11_beside_37, eX11_beside_38, eX11_beside_39, eX11_beside_42, eX11_beside_43, eX11_beside_46, eX11_beside_47, eX11_beside_48, e1, e2, q1, q2, q3, not_true_eq_false, not_false_eq_true, if_true, if_false, iI_p1, iI_pm1, Int32.add_zero]
    unfold bsX bsY sdX sdY
    simp
/-- whether the cell beside c on side k is a hit (kinds K) -/
def hb (K : Nat → Nat) (c k : Nat) : Bool := decide (¬ bsI c k = -1 ∧ K (bsI c k).toNat = 2)
theorem rM_isHitBeside (d : Nat) (z : mm_Z) (F : Nat → Nat → Value) (I : Nat → Nat → Int32) (L : Nat → Nat → Int64) (hz : zOK z) (hF : FixM F) (K : Nat → Nat) (hK : ∀ c, c < 64 → I 127 c = nI (K c) ∧ K c ≤ 3) (c k : Nat) (hc : c < 64) (hk : k < 4) : mm_E (d + 2) mX11_isHitBeside 0 [.ref 120, .int (nI c), .int (nI k), uu] [] (z, F, I, L) = some (some (.int (bI (hb K c k))), (z, F, I, L)) := by
  have bb := bsI_b c k
  have be := fun d' => rM_beside d' z F I L (.ref 120) c k hc hk
  unfold hb
  by_cases e : bsI c k = -1
  · have e1 : (iI (bsI c k) = -1) = True := by rw [e, iI_m1]; exact eq_self _
    rw [decide_eq_false (fun q => q.1 e), bI_f]
    simp (disch := first | assumption | decide | exact zO_120 hz) only [eX11_isHitBeside_0, eX11_isHitBeside_1, eX11_isHitBeside_2, eX11_isHitBeside_3, eX11_isHitBeside_6, eX11_isHitBeside_7, eX11_isHitBeside_8, eX11_isHitBeside_9, eX11_isHitBeside_12, eX11_isHitBeside_13, eX11_isHitBeside_16, eX11_isHitBeside_17, eX11_isHitBeside_18, eX11_isHitBeside_19, eX11_isHitBeside_22, eX11_isHitBeside_23, eX11_isHitBeside_26, eX11_isHitBeside_27, be, mm_bd_i, e1, if_true]
  · have e2 : iI (bsI c k) = nI (bsI c k).toNat := by rw [iI_n (by omega)]; congr 1; omega
    have e1 : ¬ nI (bsI c k).toNat = -1 := nI_nm1 (by omega)
    have v1 : vp_in (nI (bsI c k).toNat) (mm_zl z 127) := vi (zl_127 hz) (by omega) (by decide)
    have c1 : (nI (bsI c k).toNat).toNatClampNeg = (bsI c k).toNat := nI_clamp (by omega)
    have g := hK (bsI c k).toNat (by omega)
    by_cases e3 : K (bsI c k).toNat = 2
    · have e4 : (nI (K (bsI c k).toNat) = nI 2) = True := by rw [e3]; exact eq_self _
      rw [decide_eq_true ⟨e, e3⟩, bI_t]
      simp (disch := first | assumption | decide | exact zO_120 hz | exact zT_127 hz) only [eX11_isHitBeside_0, eX11_isHitBeside_1, eX11_isHitBeside_2, eX11_isHitBeside_3, eX11_isHitBeside_6, eX11_isHitBeside_7, eX11_isHitBeside_8, eX11_isHitBeside_9, eX11_isHitBeside_12, eX11_isHitBeside_13, eX11_isHitBeside_16, eX11_isHitBeside_17, eX11_isHitBeside_18, eX11_isHitBeside_19, eX11_isHitBeside_22, eX11_isHitBeside_23, eX11_isHitBeside_26, eX11_isHitBeside_27, be, mm_bd_i, e2, e1, if_false, fM_10 hF, c1, g.1, e4, not_true_eq_false]
    · have e4 : ¬ nI (K (bsI c k).toNat) = nI 2 := fun q => e3 ((nI_eq (by omega) (by decide)).mp q)
      rw [decide_eq_false (fun q => e3 q.2), bI_f]
      simp (disch := first | assumption | decide | exact zO_120 hz | exact zT_127 hz) only [eX11_isHitBeside_0, eX11_isHitBeside_1, eX11_isHitBeside_2, eX11_isHitBeside_3, eX11_isHitBeside_6, eX11_isHitBeside_7, eX11_isHitBeside_8, eX11_isHitBeside_9, eX11_isHitBeside_12, eX11_isHitBeside_13, eX11_isHitBeside_16, eX11_isHitBeside_17, eX11_isHitBeside_18, eX11_isHitBeside_19, eX11_isHitBeside_22, eX11_isHitBeside_23, eX11_isHitBeside_26, eX11_isHitBeside_27, be, mm_bd_i, e2, e1, if_false, fM_10 hF, c1, g.1, e4, not_false_eq_true, if_true]
