/-! the reference: way -/
theorem rM_way_unk (d : Nat) (z : mm_Z) (F : Nat → Nat → Value) (I : Nat → Nat → Int32) (L : Nat → Nat → Int64) (n : Nat) (s i : Int32) (hz : zOK z) (h8 : n ≤ 8) (hn : F 120 0 = .int (nI n)) (h : ¬ (0 ≤ s.toInt ∧ s.toInt < n)) : mm_E (d + 4) mX11_way 0 [.ref 120, .int s, .int i, uu, uu] [] (z, F, I, L) = some (some (.int (-2)), (z, F, I, L)) := by
  have c1 : decide (0 ≤ s.toInt ∧ s.toInt < n) = false := decide_eq_false h
  simp (disch := first | assumption | decide | exact zO_120 hz | exact zT_125 hz | exact zT_128 hz | exact zT_129 hz | exact bI_or _) only [eX11_way_0, eX11_way_1, eX11_way_2, eX11_way_5, eX11_way_8, eX11_way_10, rM_isSweep (d := d + 2) (n := n), mm_bd_i, c1, bI_0, not_true_eq_false, if_false]
theorem rM_way_out (d : Nat) (z : mm_Z) (F : Nat → Nat → Value) (I : Nat → Nat → Int32) (L : Nat → Nat → Int64) (n s : Nat) (i : Int) (hz : zOK z) (h8 : n ≤ 8) (hn : F 120 0 = .int (nI n)) (hs' : s < n) (hi : i < -1) (hi' : -2147483648 ≤ i) : mm_E (d + 4) mX11_way 0 [.ref 120, .int (nI s), .int (iI i), uu, uu] [] (z, F, I, L) = some (some (.int (-3)), (z, F, I, L)) := by
  have e : ¬ (-1 : Int32) ≤ iI i := by rw [← iI_m1, iI_le (by omega) (by omega) (by omega) (by omega)]; omega
  simp (disch := first | assumption | decide | exact zO_120 hz | exact zT_125 hz | exact zT_128 hz | exact zT_129 hz | exact bI_or _) only [eX11_way_0, eX11_way_1, eX11_way_2, eX11_way_5, eX11_way_8, eX11_way_10, eX11_way_11, eX11_way_12, eX11_way_13, eX11_way_16, eX11_way_18, rM_isSweep (d := d + 2) (n := n), mm_bd_i, isS_t hs' h8, bI_0, Bool.true_eq_false, not_false_eq_true, if_true, e, if_false]
theorem rM_way_a (d : Nat) (z : mm_Z) (F : Nat → Nat → Value) (I : Nat → Nat → Int32) (L : Nat → Nat → Int64) (n s : Nat) (i : Int) (hz : zOK z) (h8 : n ≤ 8) (hn : F 120 0 = .int (nI n)) (hs' : s < n) (hi : -1 ≤ i) (hi' : i < 2147483648) : mm_E (d + 4) mX11_way 0 [.ref 120, .int (nI s), .int (iI i), uu, uu] [] (z, F, I, L) = mm_E (d + 4) mX11_way 19 [.ref 120, .int (nI s), .int (iI i), uu, uu] [] (z, F, I, L) := by
  have e : (-1 : Int32) ≤ iI i := by rw [← iI_m1, iI_le (by omega) (by omega) (by omega) (by omega)]; omega
  simp (disch := first | assumption | decide | exact zO_120 hz | exact zT_125 hz | exact zT_128 hz | exact zT_129 hz | exact bI_or _) only [eX11_way_0, eX11_way_1, eX11_way_2, eX11_way_5, eX11_way_8, eX11_way_10, eX11_way_11, eX11_way_12, eX11_way_13, eX11_way_16, eX11_way_18, rM_isSweep (d := d + 2) (n := n), mm_bd_i, isS_t hs' h8, bI_0, Bool.true_eq_false, not_false_eq_true, if_true, e]
theorem rM_way_not (d : Nat) (z : mm_Z) (F : Nat → Nat → Value) (I : Nat → Nat → Int32) (L : Nat → Nat → Int64) (n : Nat) (hs : Nat → List (Int × Int × Nat)) (st : Nat → Option (Nat × Nat)) (hz : zOK z) (hF : FixM F) (w : wOK n hs st) (h : rmS n hs st F I) (s : Nat) (i : Value) (hs' : s < n) (e : ¬ st s = none) : mm_E (d + 4) mX11_way 19 [.ref 120, .int (nI s), i, uu, uu] [] (z, F, I, L) = some (some (.int (-4)), (z, F, I, L)) := by
  have h8 := w.1
  have e1 : ¬ I 125 s = -1 := fun q => e ((rmS_st n hs st h w hs').mp q)
  have cs : (nI s).toNatClampNeg = s := nI_clamp (by omega)
  have v1 : vp_in (nI s) (mm_zl z 125) := vi (zl_125 hz) (by omega) (by decide)
  simp (disch := first | assumption | decide | exact zO_120 hz | exact zT_125 hz | exact zT_128 hz | exact zT_129 hz | exact bI_or _) only [eX11_way_19, eX11_way_20, eX11_way_23, eX11_way_24, eX11_way_25, eX11_way_26, eX11_way_29, eX11_way_31, fM_5 hF, cs, e1, if_false]
def fitW (n : Nat) (hs : Nat → List (Int × Int × Nat)) (st : Nat → Option (Nat × Nat)) (l : Nat → Nat) (s k : Nat) : Bool := lOk (hs s) (k % 64) (k / 64) (hs s).length && (decide (l 0 ≤ catN n hs st s (k % 64) (k / 64)) && decide (quaN n hs st s (k % 64) (k / 64) ≤ l 1))
def wayF (fit : Nat → Bool) (i : Int) : Nat → Nat → Nat → Int
  | 0, _, m => if i = -1 then m else -1
  | f + 1, k, m => if fit k = true then (if (m : Int) = i then ((4 * (k % 64) + k / 64 : Nat) : Int) else wayF fit i f (k + 1) (m + 1)) else wayF fit i f (k + 1) m
theorem rM_way_l (d : Nat) (z : mm_Z) (F : Nat → Nat → Value) (L : Nat → Nat → Int64) (n : Nat) (hs : Nat → List (Int × Int × Nat)) (st : Nat → Option (Nat × Nat)) (hz : zOK z) (hF : FixM F) (w : wOK n hs st) (l : Nat → Nat) (hl : rmL l F) (l0 : l 0 ≤ 16) (l1 : l 1 ≤ 16) (s : Nat) (hs' : s < n) (i : Int) (hi : -1 ≤ i) (hi' : i < 2147483648) (I0 : Nat → Nat → Int32) (h : rmS n hs st F I0) : ∀ f k m I, k + f = 256 → m ≤ k → layG I0 I → rowsBut I n s st (sH hs st) (sB hs st) → ∃ I', mm_E (d + 4) mX11_way 41 [.ref 120, .int (nI s), .int (iI i), .int (nI m), .int (nI k)] [] (z, F, I, L) = some (some (.int (iI (wayF (fitW n hs st l s) i f k m))), (z, F, I', L)) ∧ layG I0 I' := by
  have h8 := w.1
  intro f
  induction f with
  | zero =>
    intro k m I hk hm hg hb
    have e : k = 256 := by omega
    subst e
    refine ⟨I, ?_, hg⟩
    rw [eX11_way_41, wayF]
    by_cases e1 : i = -1
    · have e2 : (iI i = -1) = True := by rw [e1, iI_m1]; exact eq_self _
      simp (disch := first | assumption | decide | exact zO_120 hz | exact zT_125 hz | exact zT_128 hz | exact zT_129 hz | exact bI_or _) only [eX11_way_43, eX11_way_46, eX11_way_119, eX11_way_120, eX11_way_121, eX11_way_124, eX11_way_125, eX11_way_128, eX11_way_129, nI_le (Nat.le_refl 256) (by decide), if_true, e2, not_true_eq_false, if_false, if_pos e1]
      rw [iI_n (by omega)]
    · have e2 : ¬ iI i = -1 := fun q => e1 (by rw [← iI_m1] at q; exact (iI_eq (by omega) (by omega) (by omega) (by omega)).mp q)
      simp (disch := first | assumption | decide | exact zO_120 hz | exact zT_125 hz | exact zT_128 hz | exact zT_129 hz | exact bI_or _) only [eX11_way_43, eX11_way_46, eX11_way_119, eX11_way_120, eX11_way_121, eX11_way_124, eX11_way_125, eX11_way_128, eX11_way_129, nI_le (Nat.le_refl 256) (by decide), if_true, e2, not_false_eq_true, if_neg e1, iI_m1]
  | succ f ih =>
    intro k m I hk hm hg hb
    have h1 : ¬ nI 256 ≤ nI k := nI_ge (by omega) (by decide)
    have hmm := rmS_layG n hs st h hg
    have r1 : nI k / nI 64 = nI (k / 64) := pk_div (by omega) (by decide) (by decide)
    have r2 : nI k - nI (k / 64) * nI 64 = nI (k % 64) := by rw [← r1]; exact pk_rem (by omega) (by decide) (by decide)
    have e64 : ¬ nI 64 = 0 := by decide
    obtain ⟨I2, k1, k2, k3⟩ := rM_lay (d + 1) z F L n hs st hz hF w s (k % 64) (k / 64) hs' (by omega) (by omega) I hmm
    have hm2 := rmS_layG n hs st hmm k2.1
    have hg2 := layG_trans hg k2.1
    have hb2 : rowsBut I2 n s st (sH hs st) (sB hs st) := fun o ho hn g => rowIs_F (hb o ho hn g) k2 hn
    have hr := laid_rowIs n hs st w hs' k3
    have ca : ∀ d', mm_E d' mX11_catches 0 [.ref 120, .int (nI s), uu, uu, uu, uu] [] (z, F, I2, L) = some (some (.int (nI (catN n hs st s (k % 64) (k / 64)))), (z, F, I2, L)) := fun d' => rM_catches d' z F I2 L n hs st hz hF w hm2 s (by omega) _ _ hb2 _ _ hr
    have qu : ∀ d', mm_E (d' + 1) mX11_quarrelsOf 0 [.ref 120, .int (nI s), uu, uu] [] (z, F, I2, L) = some (some (.int (nI (quaN n hs st s (k % 64) (k / 64)))), (z, F, I2, L)) := fun d' => rM_quarrelsOf d' z F I2 L n hs st hz hF w hm2 s (by omega) _ _ hb2 _ _ hr
    have cl := catN_le n hs st s (k % 64) (k / 64)
    have ql := quaN_le n hs st s (k % 64) (k / 64) h8
    rw [eX11_way_41, wayF]
    cases hO : lOk (hs s) (k % 64) (k / 64) (hs s).length with
    | false =>
      have t : ¬ fitW n hs st l s k = true := by unfold fitW; rw [hO, Bool.false_and]; simp
      obtain ⟨I', g1, g2⟩ := ih (k + 1) m I2 (by omega) (by omega) hg2 hb2
      refine ⟨I', ?_, g2⟩
      rw [if_neg t, ← g1]
      rw [hO] at k1
      simp (disch := first | assumption | decide | exact zO_120 hz | exact zT_125 hz | exact zT_128 hz | exact zT_129 hz | exact bI_or _) only [eX11_way_43, eX11_way_46, eX11_way_49, eX11_way_50, eX11_way_51, eX11_way_53, eX11_way_55, eX11_way_56, eX11_way_58, eX11_way_60, eX11_way_61, eX11_way_64, eX11_way_113, eX11_way_116, h1, if_false, r1, r2, k1, mm_bd_i, bI_0, if_true, nI_1]
    | true =>
      rw [hO] at k1
      by_cases c1 : l 0 ≤ catN n hs st s (k % 64) (k / 64)
      · have d1 : ¬ nI (catN n hs st s (k % 64) (k / 64)) < nI (l 0) := fun q => by rw [nI_ltI (by omega) (by omega)] at q; omega
        by_cases c2 : quaN n hs st s (k % 64) (k / 64) ≤ l 1
        · have d2 : ¬ nI (l 1) < nI (quaN n hs st s (k % 64) (k / 64)) := fun q => by rw [nI_ltI (by omega) (by omega)] at q; omega
          have t : fitW n hs st l s k = true := by unfold fitW; rw [hO, decide_eq_true c1, decide_eq_true c2]; rfl
          rw [if_pos t]
          by_cases c3 : (m : Int) = i
          · have d3 : (nI m = iI i) = True := by rw [iI_n (by omega), c3]; exact eq_self _
            have m4 : nI 4 * nI (k % 64) + nI (k / 64) = nI (4 * (k % 64) + k / 64) := by rw [pk_mul, nI_add]
            refine ⟨I2, ?_, hg2⟩
            rw [if_pos c3]
            simp (disch := first | assumption | decide | exact zO_120 hz | exact zT_125 hz | exact zT_128 hz | exact zT_129 hz | exact bI_or _) only [eX11_way_43, eX11_way_46, eX11_way_49, eX11_way_50, eX11_way_51, eX11_way_53, eX11_way_55, eX11_way_56, eX11_way_58, eX11_way_60, eX11_way_61, eX11_way_64, eX11_way_67, eX11_way_68, eX11_way_69, eX11_way_72, eX11_way_73, eX11_way_76, eX11_way_79, eX11_way_80, eX11_way_81, eX11_way_84, eX11_way_85, eX11_way_88, eX11_way_91, eX11_way_92, eX11_way_93, eX11_way_96, eX11_way_97, eX11_way_99, eX11_way_101, eX11_way_102, eX11_way_103, eX11_way_105, eX11_way_107, eX11_way_108, eX11_way_109, h1, if_false, r1, r2, k1, mm_bd_i, bI_0, Bool.true_eq_false, ca, hl.1, d1, qu, hl.2.1, d2, d3, not_true_eq_false, m4]
            rw [iI_n (by omega)]
          · have d3 : ¬ nI m = iI i := fun q => c3 (by rw [iI_n (by omega)] at q; exact (iI_eq (by omega) (by omega) (by omega) (by omega)).mp q)
            obtain ⟨I', g1, g2⟩ := ih (k + 1) (m + 1) I2 (by omega) (by omega) hg2 hb2
            refine ⟨I', ?_, g2⟩
            rw [if_neg c3, ← g1]
            simp (disch := first | assumption | decide | exact zO_120 hz | exact zT_125 hz | exact zT_128 hz | exact zT_129 hz | exact bI_or _) only [eX11_way_43, eX11_way_46, eX11_way_49, eX11_way_50, eX11_way_51, eX11_way_53, eX11_way_55, eX11_way_56, eX11_way_58, eX11_way_60, eX11_way_61, eX11_way_64, eX11_way_67, eX11_way_68, eX11_way_69, eX11_way_72, eX11_way_73, eX11_way_76, eX11_way_79, eX11_way_80, eX11_way_81, eX11_way_84, eX11_way_85, eX11_way_88, eX11_way_91, eX11_way_92, eX11_way_93, eX11_way_96, eX11_way_97, eX11_way_99, eX11_way_101, eX11_way_102, eX11_way_103, eX11_way_105, eX11_way_107, eX11_way_108, eX11_way_109, eX11_way_110, eX11_way_113, eX11_way_116, h1, if_false, r1, r2, k1, mm_bd_i, bI_0, Bool.true_eq_false, ca, hl.1, d1, qu, hl.2.1, d2, d3, not_false_eq_true, if_true, nI_1]
        · have d2 : nI (l 1) < nI (quaN n hs st s (k % 64) (k / 64)) := nI_lt (by omega) (by omega)
          have t : ¬ fitW n hs st l s k = true := by unfold fitW; rw [decide_eq_false c2, Bool.and_false, Bool.and_false]; simp
          obtain ⟨I', g1, g2⟩ := ih (k + 1) m I2 (by omega) (by omega) hg2 hb2
          refine ⟨I', ?_, g2⟩
          rw [if_neg t, ← g1]
          simp (disch := first | assumption | decide | exact zO_120 hz | exact zT_125 hz | exact zT_128 hz | exact zT_129 hz | exact bI_or _) only [eX11_way_43, eX11_way_46, eX11_way_49, eX11_way_50, eX11_way_51, eX11_way_53, eX11_way_55, eX11_way_56, eX11_way_58, eX11_way_60, eX11_way_61, eX11_way_64, eX11_way_67, eX11_way_68, eX11_way_69, eX11_way_72, eX11_way_73, eX11_way_76, eX11_way_79, eX11_way_80, eX11_way_81, eX11_way_84, eX11_way_85, eX11_way_88, eX11_way_113, eX11_way_116, h1, if_false, r1, r2, k1, mm_bd_i, bI_0, Bool.true_eq_false, ca, hl.1, d1, qu, hl.2.1, d2, if_true, nI_1]
      · have d1 : nI (catN n hs st s (k % 64) (k / 64)) < nI (l 0) := nI_lt (by omega) (by omega)
        have t : ¬ fitW n hs st l s k = true := by unfold fitW; rw [decide_eq_false c1, Bool.false_and, Bool.and_false]; simp
        obtain ⟨I', g1, g2⟩ := ih (k + 1) m I2 (by omega) (by omega) hg2 hb2
        refine ⟨I', ?_, g2⟩
        rw [if_neg t, ← g1]
        simp (disch := first | assumption | decide | exact zO_120 hz | exact zT_125 hz | exact zT_128 hz | exact zT_129 hz | exact bI_or _) only [eX11_way_43, eX11_way_46, eX11_way_49, eX11_way_50, eX11_way_51, eX11_way_53, eX11_way_55, eX11_way_56, eX11_way_58, eX11_way_60, eX11_way_61, eX11_way_64, eX11_way_67, eX11_way_68, eX11_way_69, eX11_way_72, eX11_way_73, eX11_way_76, eX11_way_113, eX11_way_116, h1, if_false, r1, r2, k1, mm_bd_i, bI_0, Bool.true_eq_false, ca, hl.1, d1, if_true, nI_1]
theorem rM_way (d : Nat) (z : mm_Z) (F : Nat → Nat → Value) (I : Nat → Nat → Int32) (L : Nat → Nat → Int64) (n : Nat) (hs : Nat → List (Int × Int × Nat)) (st : Nat → Option (Nat × Nat)) (hz : zOK z) (hF : FixM F) (w : wOK n hs st) (l : Nat → Nat) (hl : rmL l F) (l0 : l 0 ≤ 16) (l1 : l 1 ≤ 16) (h : rmS n hs st F I) (s : Nat) (hs' : s < n) (i : Int) (hi : -1 ≤ i) (hi' : i < 2147483648) (e : st s = none) : ∃ I', mm_E (d + 4) mX11_way 19 [.ref 120, .int (nI s), .int (iI i), uu, uu] [] (z, F, I, L) = some (some (.int (iI (wayF (fitW n hs st l s) i 256 0 0))), (z, F, I', L)) ∧ layG I I' := by
  have h8 := w.1
  have e1 := (rmS_st n hs st h w hs').mpr e
  have cs : (nI s).toNatClampNeg = s := nI_clamp (by omega)
  have v1 : vp_in (nI s) (mm_zl z 125) := vi (zl_125 hz) (by omega) (by decide)
  obtain ⟨I1, j1, j2, j3⟩ := rM_layAll d z F L n hs st hz hF w I h
  obtain ⟨I', g1, g2⟩ := rM_way_l d z F L n hs st hz hF w l hl l0 l1 s hs' i hi hi' I h 256 0 0 I1 (by omega) (by omega) j2 (fun o ho _ g => laid_row n hs st w j3 ho g)
  refine ⟨I', ?_, g2⟩
  rw [← g1]
  simp (disch := first | assumption | decide | exact zO_120 hz | exact zT_125 hz | exact zT_128 hz | exact zT_129 hz | exact bI_or _) only [eX11_way_19, eX11_way_20, eX11_way_23, eX11_way_24, eX11_way_25, eX11_way_26, eX11_way_29, eX11_way_31, eX11_way_32, eX11_way_33, eX11_way_36, eX11_way_37, eX11_way_38, eX11_way_39, fM_5 hF, cs, e1, if_true, j1, mm_bd_v]
  rfl
