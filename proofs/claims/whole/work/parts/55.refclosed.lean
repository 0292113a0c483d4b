/-! the reference: isClosed, a step of its inner loop -/
/-- whether the cell beside c on side k is there and is seen empty or hit -/
def clS (K : Nat → Nat) (c k : Nat) : Bool := decide (¬ bsI c k = -1 ∧ (K (bsI c k).toNat = 1 ∨ K (bsI c k).toNat = 2))
theorem rM_closed_s (d : Nat) (z : mm_Z) (F : Nat → Nat → Value) (I : Nat → Nat → Int32) (L : Nat → Nat → Int64) (hz : zOK z) (hF : FixM F) (K : Nat → Nat) (hK : ∀ c, c < 64 → I 127 c = nI (K c) ∧ K c ≤ 3) (c k : Nat) (hc : c < 64) (hk : k < 4) (a : Bool) (b1 b2 b6 : Value) : mm_E (d + 2) mX11_isClosed 30 [.ref 120, b1, b2, .int (bI a), .int (nI c), .int (nI k), b6] [] (z, F, I, L) = mm_E (d + 2) mX11_isClosed 15 [.ref 120, b1, b2, .int (bI (a && clS K c k)), .int (nI c), .int (nI (k + 1)), .int (iI (bsI c k))] [] (z, F, I, L) := by
  have e10 : ¬ (1 : Int32) = 0 := by decide
  have bb := bsI_b c k
  have be := fun d' => rM_beside d' z F I L (.ref 120) c k hc hk
  cases a with
  | false => simp (disch := first | assumption | decide | exact zO_120 hz | exact zT_127 hz | exact bI_or _) only [eX11_isClosed_30, eX11_isClosed_31, eX11_isClosed_33, eX11_isClosed_35, eX11_isClosed_38, eX11_isClosed_40, eX11_isClosed_41, eX11_isClosed_44, eX11_isClosed_46, eX11_isClosed_47, eX11_isClosed_50, eX11_isClosed_51, eX11_isClosed_54, eX11_isClosed_56, eX11_isClosed_57, eX11_isClosed_58, eX11_isClosed_61, eX11_isClosed_62, eX11_isClosed_65, eX11_isClosed_67, eX11_isClosed_68, eX11_isClosed_69, eX11_isClosed_72, eX11_isClosed_73, eX11_isClosed_76, eX11_isClosed_77, eX11_isClosed_78, eX11_isClosed_81, be, mm_bd_i, bI_f, if_true, Bool.false_and, nI_1]
  | true =>
    rw [Bool.true_and]
    unfold clS
    by_cases e : bsI c k = -1
    · have e1 : (iI (bsI c k) = -1) = True := by rw [e, iI_m1]; exact eq_self _
      rw [decide_eq_false (fun q => q.1 e)]
      simp (disch := first | assumption | decide | exact zO_120 hz | exact zT_127 hz | exact bI_or _) only [eX11_isClosed_30, eX11_isClosed_31, eX11_isClosed_33, eX11_isClosed_35, eX11_isClosed_38, eX11_isClosed_40, eX11_isClosed_41, eX11_isClosed_44, eX11_isClosed_46, eX11_isClosed_47, eX11_isClosed_50, eX11_isClosed_51, eX11_isClosed_54, eX11_isClosed_56, eX11_isClosed_57, eX11_isClosed_58, eX11_isClosed_61, eX11_isClosed_62, eX11_isClosed_65, eX11_isClosed_67, eX11_isClosed_68, eX11_isClosed_69, eX11_isClosed_72, eX11_isClosed_73, eX11_isClosed_76, eX11_isClosed_77, eX11_isClosed_78, eX11_isClosed_81, be, mm_bd_i, bI_t, bI_f, e10, if_false, e1, if_true, nI_1]
    · have e2 : iI (bsI c k) = nI (bsI c k).toNat := by rw [iI_n (by omega)]; congr 1; omega
      have e1 : ¬ nI (bsI c k).toNat = -1 := nI_nm1 (by omega)
      have v1 : vp_in (nI (bsI c k).toNat) (mm_zl z 127) := vi (zl_127 hz) (by omega) (by decide)
      have c1 : (nI (bsI c k).toNat).toNatClampNeg = (bsI c k).toNat := nI_clamp (by omega)
      have g := hK (bsI c k).toNat (by omega)
      by_cases e3 : K (bsI c k).toNat = 1
      · have e4 : (nI (K (bsI c k).toNat) = 1) = True := by rw [e3]; exact eq_true (by decide)
        rw [decide_eq_true ⟨e, Or.inl e3⟩]
        simp (disch := first | assumption | decide | exact zO_120 hz | exact zT_127 hz | exact bI_or _) only [eX11_isClosed_30, eX11_isClosed_31, eX11_isClosed_33, eX11_isClosed_35, eX11_isClosed_38, eX11_isClosed_40, eX11_isClosed_41, eX11_isClosed_44, eX11_isClosed_46, eX11_isClosed_47, eX11_isClosed_50, eX11_isClosed_51, eX11_isClosed_54, eX11_isClosed_56, eX11_isClosed_57, eX11_isClosed_58, eX11_isClosed_61, eX11_isClosed_62, eX11_isClosed_65, eX11_isClosed_67, eX11_isClosed_68, eX11_isClosed_69, eX11_isClosed_72, eX11_isClosed_73, eX11_isClosed_76, eX11_isClosed_77, eX11_isClosed_78, eX11_isClosed_81, be, mm_bd_i, bI_t, e10, e2, e1, if_false, fM_10 hF, c1, g.1, e4, if_true, nI_1]
      · have e4 : ¬ nI (K (bsI c k).toNat) = 1 := fun q => e3 ((nI_eq (a := K (bsI c k).toNat) (b := 1) (by omega) (by decide)).mp q)
        by_cases e5 : K (bsI c k).toNat = 2
        · have e6 : (nI (K (bsI c k).toNat) = nI 2) = True := by rw [e5]; exact eq_self _
          rw [decide_eq_true ⟨e, Or.inr e5⟩]
          simp (disch := first | assumption | decide | exact zO_120 hz | exact zT_127 hz | exact bI_or _) only [eX11_isClosed_30, eX11_isClosed_31, eX11_isClosed_33, eX11_isClosed_35, eX11_isClosed_38, eX11_isClosed_40, eX11_isClosed_41, eX11_isClosed_44, eX11_isClosed_46, eX11_isClosed_47, eX11_isClosed_50, eX11_isClosed_51, eX11_isClosed_54, eX11_isClosed_56, eX11_isClosed_57, eX11_isClosed_58, eX11_isClosed_61, eX11_isClosed_62, eX11_isClosed_65, eX11_isClosed_67, eX11_isClosed_68, eX11_isClosed_69, eX11_isClosed_72, eX11_isClosed_73, eX11_isClosed_76, eX11_isClosed_77, eX11_isClosed_78, eX11_isClosed_81, be, mm_bd_i, bI_t, e10, e2, e1, if_false, fM_10 hF, c1, g.1, e4, e6, not_true_eq_false, nI_1]
        · have e6 : ¬ nI (K (bsI c k).toNat) = nI 2 := fun q => e5 ((nI_eq (by omega) (by decide)).mp q)
          rw [decide_eq_false (fun q => by rcases q.2 with r | r; exact e3 r; exact e5 r)]
          simp (disch := first | assumption | decide | exact zO_120 hz | exact zT_127 hz | exact bI_or _) only [eX11_isClosed_30, eX11_isClosed_31, eX11_isClosed_33, eX11_isClosed_35, eX11_isClosed_38, eX11_isClosed_40, eX11_isClosed_41, eX11_isClosed_44, eX11_isClosed_46, eX11_isClosed_47, eX11_isClosed_50, eX11_isClosed_51, eX11_isClosed_54, eX11_isClosed_56, eX11_isClosed_57, eX11_isClosed_58, eX11_isClosed_61, eX11_isClosed_62, eX11_isClosed_65, eX11_isClosed_67, eX11_isClosed_68, eX11_isClosed_69, eX11_isClosed_72, eX11_isClosed_73, eX11_isClosed_76, eX11_isClosed_77, eX11_isClosed_78, eX11_isClosed_81, be, mm_bd_i, bI_t, bI_f, e10, e2, e1, if_false, fM_10 hF, c1, g.1, e4, e6, not_false_eq_true, if_true, nI_1]
