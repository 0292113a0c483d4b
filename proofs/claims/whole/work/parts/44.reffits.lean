/-! the reference: fits -/
/-- what the sweeps that stand have hit (0, or the mark and 1), and where their beams are -/
def sH (hs : Nat → List (Int × Int × Nat)) (st : Nat → Option (Nat × Nat)) (o a : Nat) : Nat := match st o with
  | none => 0
  | some p => lH (hs o) p.1 p.2 (hs o).length a
def sB (hs : Nat → List (Int × Int × Nat)) (st : Nat → Option (Nat × Nat)) (o a : Nat) : Bool := match st o with
  | none => false
  | some p => lB (hs o) p.1 p.2 (hs o).length a
theorem lH_le {l : List (Int × Int × Nat)} (h : ∀ q, q ∈ l → q.2.2 ≤ 9) (c t a : Nat) : ∀ k, k ≤ l.length → lH l c t k a ≤ 10 := by
  intro k
  induction k with
  | zero => intro _; exact Nat.zero_le _
  | succ k ih =>
    intro hk
    rw [lH]
    split
    · have := h _ (hg_mem (by omega : k < l.length)); omega
    · exact ih (by omega)
theorem laid_rowIs (n : Nat) (hs : Nat → List (Int × Int × Nat)) (st : Nat → Option (Nat × Nat)) (w : wOK n hs st) {s c t : Nat} {I : Nat → Nat → Int32} (hs' : s < n) (h : laidAt (hs s) s c t I) : rowIs I s (lH (hs s) c t (hs s).length) (lB (hs s) c t (hs s).length) := by
  intro a ha
  exact ⟨(h a ha).1, (h a ha).2, lH_le (fun q hq => ((w.2 s hs').2.1 q hq).2.2.1) c t a _ (Nat.le_refl _)⟩
theorem laid_row (n : Nat) (hs : Nat → List (Int × Int × Nat)) (st : Nat → Option (Nat × Nat)) (w : wOK n hs st) {o : Nat} {I : Nat → Nat → Int32} (h : laidTo n hs st n I) (ho : o < n) (g : ¬ st o = none) : rowIs I o (sH hs st o) (sB hs st o) := by
  cases e : st o with
  | none => exact absurd e g
  | some p =>
    have r := laid_rowIs n hs st w ho (h o p.1 p.2 ho e)
    have e1 : sH hs st o = lH (hs o) p.1 p.2 (hs o).length := by funext a; unfold sH; rw [e]
    have e2 : sB hs st o = lB (hs o) p.1 p.2 (hs o).length := by funext a; unfold sB; rw [e]
    rw [e1, e2]
    exact r
theorem rowIs_F {s o : Nat} {I I' : Nat → Nat → Int32} {p : Nat → Nat} {u : Nat → Bool} (h : rowIs I o p u) (hf : layF s I I') (hn : ¬ o = s) : rowIs I' o p u := by
  intro a ha
  have g := hf.2 (64 * o + a) (by omega)
  rw [g.1, g.2]
  exact h a ha
theorem laid_but (n : Nat) (hs : Nat → List (Int × Int × Nat)) (st : Nat → Option (Nat × Nat)) (w : wOK n hs st) {s : Nat} {I I' : Nat → Nat → Int32} (h : laidTo n hs st n I) (hf : layF s I I') : rowsBut I' n s st (sH hs st) (sB hs st) :=
  fun _ ho hn g => rowIs_F (laid_row n hs st w h ho g) hf hn
/-- how many catches and quarrels sweep s has with its middle in c, turned by t -/
def catN (n : Nat) (hs : Nat → List (Int × Int × Nat)) (st : Nat → Option (Nat × Nat)) (s c t : Nat) : Nat := sumT (ct1 st (sH hs st) (lH (hs s) c t (hs s).length) s n) 64
def quaN (n : Nat) (hs : Nat → List (Int × Int × Nat)) (st : Nat → Option (Nat × Nat)) (s c t : Nat) : Nat := sumT (qo1 st (sH hs st) (sB hs st) (lH (hs s) c t (hs s).length) (lB (hs s) c t (hs s).length) s) n
theorem catN_le (n : Nat) (hs : Nat → List (Int × Int × Nat)) (st : Nat → Option (Nat × Nat)) (s c t : Nat) : catN n hs st s c t ≤ 64 := by
  have := sumT_le (ct1 st (sH hs st) (lH (hs s) c t (hs s).length) s n) 1 (fun j => by unfold ct1; split <;> omega) 64
  unfold catN
  omega
theorem qAt_le (p : Nat → Nat) (u : Nat → Bool) (q : Nat → Nat) (v : Nat → Bool) (c : Nat) : qAt p u q v c ≤ 3 := by
  unfold qAt q1 q3
  repeat' split
  all_goals omega
theorem quaN_le (n : Nat) (hs : Nat → List (Int × Int × Nat)) (st : Nat → Option (Nat × Nat)) (s c t : Nat) (h8 : n ≤ 8) : quaN n hs st s c t ≤ 1536 := by
  have := sumT_le (qo1 st (sH hs st) (sB hs st) (lH (hs s) c t (hs s).length) (lB (hs s) c t (hs s).length) s) 192 (fun j => by
    unfold qo1
    split
    · exact sumT_le _ 3 (fun c => qAt_le _ _ _ _ c) 64
    · omega) n
  unfold quaN
  omega
theorem rM_fits_unk (d : Nat) (z : mm_Z) (F : Nat → Nat → Value) (I : Nat → Nat → Int32) (L : Nat → Nat → Int64) (n : Nat) (s c t a : Int32) (hz : zOK z) (h8 : n ≤ 8) (hn : F 120 0 = .int (nI n)) (h : ¬ ((0 ≤ s.toInt ∧ s.toInt < n) ∧ (0 ≤ c.toInt ∧ c.toInt < 64))) : mm_E (d + 4) mX11_fits 0 [.ref 120, .int s, .int c, .int t, .int a] [] (z, F, I, L) = some (some (.int (-2)), (z, F, I, L)) := by
  by_cases h1 : 0 ≤ s.toInt ∧ s.toInt < n
  · have h2 : ¬ (0 ≤ c.toInt ∧ c.toInt < 64) := fun q => h ⟨h1, q⟩
    have c1 : decide (0 ≤ s.toInt ∧ s.toInt < n) = true := decide_eq_true h1
    have c2 : decide (0 ≤ c.toInt ∧ c.toInt < 64) = false := decide_eq_false h2
    simp (disch := first | assumption | decide | exact zO_120 hz | exact zT_125 hz | exact zT_128 hz | exact zT_129 hz | exact bI_or _) only [eX11_fits_0, eX11_fits_1, eX11_fits_2, eX11_fits_5, eX11_fits_8, eX11_fits_9, eX11_fits_12, eX11_fits_15, eX11_fits_17, rM_isSweep (d := d + 2) (n := n), rM_isCell (d := d + 2), mm_bd_i, c1, c2, bI_0, Bool.true_eq_false, not_true_eq_false, if_false]
  · have c1 : decide (0 ≤ s.toInt ∧ s.toInt < n) = false := decide_eq_false h1
    simp (disch := first | assumption | decide | exact zO_120 hz | exact zT_125 hz | exact zT_128 hz | exact zT_129 hz | exact bI_or _) only [eX11_fits_0, eX11_fits_1, eX11_fits_2, eX11_fits_5, eX11_fits_8, eX11_fits_9, eX11_fits_12, eX11_fits_15, eX11_fits_17, rM_isSweep (d := d + 2) (n := n), mm_bd_i, c1, bI_0, if_true]
theorem rM_fits_a (d : Nat) (z : mm_Z) (F : Nat → Nat → Value) (I : Nat → Nat → Int32) (L : Nat → Nat → Int64) (n s c : Nat) (t a : Int32) (hz : zOK z) (h8 : n ≤ 8) (hn : F 120 0 = .int (nI n)) (hs' : s < n) (hc : c < 64) : mm_E (d + 4) mX11_fits 0 [.ref 120, .int (nI s), .int (nI c), .int t, .int a] [] (z, F, I, L) = mm_E (d + 4) mX11_fits 18 [.ref 120, .int (nI s), .int (nI c), .int t, .int a] [] (z, F, I, L) := by
  simp (disch := first | assumption | decide | exact zO_120 hz | exact zT_125 hz | exact zT_128 hz | exact zT_129 hz | exact bI_or _) only [eX11_fits_0, eX11_fits_1, eX11_fits_2, eX11_fits_5, eX11_fits_8, eX11_fits_9, eX11_fits_12, eX11_fits_15, eX11_fits_17, rM_isSweep (d := d + 2) (n := n), rM_isCell (d := d + 2), mm_bd_i, isS_t hs' h8, isC_t hc, bI_0, Bool.true_eq_false, not_false_eq_true, if_true, if_false]
theorem rM_fits_out (d : Nat) (z : mm_Z) (F : Nat → Nat → Value) (I : Nat → Nat → Int32) (L : Nat → Nat → Int64) (s c : Value) (t a : Int32) (h : ¬ ((0 ≤ t.toInt ∧ t.toInt ≤ 3) ∧ (0 ≤ a.toInt ∧ a.toInt ≤ 1))) : mm_E (d + 4) mX11_fits 18 [.ref 120, s, c, .int t, .int a] [] (z, F, I, L) = some (some (.int (-3)), (z, F, I, L)) := by
  have e0 : (0 : Int32).toInt = 0 := rfl
  have e1 : (1 : Int32).toInt = 1 := rfl
  have e3 : (nI 3).toInt = 3 := rfl
  by_cases h1 : 0 ≤ t.toInt ∧ t.toInt ≤ 3
  · have c1 : decide (0 ≤ t.toInt ∧ t.toInt ≤ 3) = true := decide_eq_true h1
    have c2 : decide (0 ≤ a.toInt ∧ a.toInt ≤ 1) = false := decide_eq_false (fun q => h ⟨h1, q⟩)
    simp (disch := first | assumption | decide) only [eX11_fits_18, eX11_fits_19, eX11_fits_20, eX11_fits_21, eX11_fits_24, eX11_fits_27, eX11_fits_29, eX11_fits_30, eX11_fits_31, eX11_fits_34, eX11_fits_37, eX11_fits_39, rM_in, mm_bd_i, e0, e1, e3, c1, c2, bI_0, Bool.true_eq_false, not_true_eq_false, if_false]
  · have c1 : decide (0 ≤ t.toInt ∧ t.toInt ≤ 3) = false := decide_eq_false h1
    simp (disch := first | assumption | decide) only [eX11_fits_18, eX11_fits_19, eX11_fits_20, eX11_fits_21, eX11_fits_24, eX11_fits_27, eX11_fits_29, eX11_fits_30, eX11_fits_31, eX11_fits_34, eX11_fits_37, eX11_fits_39, rM_in, mm_bd_i, e0, e1, e3, c1, bI_0, if_true]
theorem rM_fits_b (d : Nat) (z : mm_Z) (F : Nat → Nat → Value) (I : Nat → Nat → Int32) (L : Nat → Nat → Int64) (s c : Value) (t a : Nat) (ht : t < 4) (ha : a < 2) : mm_E (d + 4) mX11_fits 18 [.ref 120, s, c, .int (nI t), .int (nI a)] [] (z, F, I, L) = mm_E (d + 4) mX11_fits 40 [.ref 120, s, c, .int (nI t), .int (nI a)] [] (z, F, I, L) := by
  have e0 : (0 : Int32).toInt = 0 := rfl
  have e1 : (1 : Int32).toInt = (nI 1).toInt := rfl
  simp (disch := first | assumption | decide) only [eX11_fits_18, eX11_fits_19, eX11_fits_20, eX11_fits_21, eX11_fits_24, eX11_fits_27, eX11_fits_29, eX11_fits_30, eX11_fits_31, eX11_fits_34, eX11_fits_37, eX11_fits_39, rM_in, mm_bd_i, e0, e1, isT_t (by omega : t ≤ 3) (by decide), isT_t (by omega : a ≤ 1) (by decide), bI_0, Bool.true_eq_false, not_false_eq_true, if_true, if_false]
theorem rM_fits_not (d : Nat) (z : mm_Z) (F : Nat → Nat → Value) (I : Nat → Nat → Int32) (L : Nat → Nat → Int64) (n : Nat) (hs : Nat → List (Int × Int × Nat)) (st : Nat → Option (Nat × Nat)) (hz : zOK z) (hF : FixM F) (w : wOK n hs st) (h : rmS n hs st F I) (s : Nat) (c t a : Value) (hs' : s < n) (e : ¬ st s = none) : mm_E (d + 4) mX11_fits 40 [.ref 120, .int (nI s), c, t, a] [] (z, F, I, L) = some (some (.int (-4)), (z, F, I, L)) := by
  have h8 := w.1
  have e1 : ¬ I 125 s = -1 := fun q => e ((rmS_st n hs st h w hs').mp q)
  have cs : (nI s).toNatClampNeg = s := nI_clamp (by omega)
  have v1 : vp_in (nI s) (mm_zl z 125) := vi (zl_125 hz) (by omega) (by decide)
  simp (disch := first | assumption | decide | exact zO_120 hz | exact zT_125 hz | exact zT_128 hz | exact zT_129 hz | exact bI_or _) only [eX11_fits_40, eX11_fits_41, eX11_fits_44, eX11_fits_45, eX11_fits_46, eX11_fits_47, eX11_fits_50, eX11_fits_52, fM_5 hF, cs, e1, if_false]
def aFits (n : Nat) (hs : Nat → List (Int × Int × Nat)) (st : Nat → Option (Nat × Nat)) (s c t a : Nat) : Int := if lOk (hs s) c t (hs s).length = true then (if a = 0 then catN n hs st s c t else quaN n hs st s c t) else -1
theorem rM_fits (d : Nat) (z : mm_Z) (F : Nat → Nat → Value) (I : Nat → Nat → Int32) (L : Nat → Nat → Int64) (n : Nat) (hs : Nat → List (Int × Int × Nat)) (st : Nat → Option (Nat × Nat)) (hz : zOK z) (hF : FixM F) (w : wOK n hs st) (h : rmS n hs st F I) (s c t a : Nat) (hs' : s < n) (hc : c < 64) (ht : t < 4) (ha : a < 2) (e : st s = none) : ∃ I', mm_E (d + 4) mX11_fits 40 [.ref 120, .int (nI s), .int (nI c), .int (nI t), .int (nI a)] [] (z, F, I, L) = some (some (.int (iI (aFits n hs st s c t a))), (z, F, I', L)) ∧ layG I I' := by
  have h8 := w.1
  have e1 := (rmS_st n hs st h w hs').mpr e
  have cs : (nI s).toNatClampNeg = s := nI_clamp (by omega)
  have v1 : vp_in (nI s) (mm_zl z 125) := vi (zl_125 hz) (by omega) (by decide)
  obtain ⟨I1, j1, j2, j3⟩ := rM_layAll d z F L n hs st hz hF w I h
  have hm1 := rmS_layG n hs st h j2
  obtain ⟨I2, k1, k2, k3⟩ := rM_lay (d + 1) z F L n hs st hz hF w s c t hs' hc ht I1 hm1
  have hm2 := rmS_layG n hs st hm1 k2.1
  have hb := laid_but n hs st w j3 k2
  have hr := laid_rowIs n hs st w hs' k3
  have ca := fun d' => rM_catches d' z F I2 L n hs st hz hF w hm2 s (by omega) _ _ hb _ _ hr
  have qu := fun d' => rM_quarrelsOf d' z F I2 L n hs st hz hF w hm2 s (by omega) _ _ hb _ _ hr
  have cl := catN_le n hs st s c t
  have ql := quaN_le n hs st s c t h8
  refine ⟨I2, ?_, layG_trans j2 k2.1⟩
  unfold aFits
  cases hO : lOk (hs s) c t (hs s).length with
  | false =>
    rw [hO] at k1
    simp (disch := first | assumption | decide | exact zO_120 hz | exact zT_125 hz | exact zT_128 hz | exact zT_129 hz | exact bI_or _) only [eX11_fits_40, eX11_fits_41, eX11_fits_44, eX11_fits_45, eX11_fits_46, eX11_fits_47, eX11_fits_50, eX11_fits_52, eX11_fits_53, eX11_fits_54, eX11_fits_57, eX11_fits_58, eX11_fits_59, eX11_fits_60, eX11_fits_61, eX11_fits_64, eX11_fits_67, eX11_fits_68, eX11_fits_71, eX11_fits_73, eX11_fits_76, eX11_fits_77, eX11_fits_78, eX11_fits_81, eX11_fits_84, eX11_fits_85, eX11_fits_86, eX11_fits_89, fM_5 hF, cs, e1, if_true, j1, mm_bd_v, k1, mm_bd_i, bI_0, not_true_eq_false, if_false, Bool.false_eq_true, iI_m1]
  | true =>
    rw [hO] at k1
    have hd : a = 0 ∨ a = 1 := by omega
    rcases hd with rfl | rfl
    · have e3 : (nI 0 = 0) = True := by decide
      have e4 : ((0 : Nat) = 0) = True := by decide
      simp (disch := first | assumption | decide | exact zO_120 hz | exact zT_125 hz | exact zT_128 hz | exact zT_129 hz | exact bI_or _) only [eX11_fits_40, eX11_fits_41, eX11_fits_44, eX11_fits_45, eX11_fits_46, eX11_fits_47, eX11_fits_50, eX11_fits_52, eX11_fits_53, eX11_fits_54, eX11_fits_57, eX11_fits_58, eX11_fits_59, eX11_fits_60, eX11_fits_61, eX11_fits_64, eX11_fits_67, eX11_fits_68, eX11_fits_71, eX11_fits_73, eX11_fits_76, eX11_fits_77, eX11_fits_78, eX11_fits_81, eX11_fits_84, eX11_fits_85, eX11_fits_86, eX11_fits_89, fM_5 hF, cs, e1, if_true, j1, mm_bd_v, k1, mm_bd_i, bI_0, Bool.true_eq_false, not_false_eq_true, e3, e4, not_true_eq_false, if_false, ca]
      rw [iI_n (by unfold catN at cl; omega)]
      rfl
    · have e3 : ¬ nI 1 = 0 := by decide
      have e4 : ¬ (1 : Nat) = 0 := by decide
      simp (disch := first | assumption | decide | exact zO_120 hz | exact zT_125 hz | exact zT_128 hz | exact zT_129 hz | exact bI_or _) only [eX11_fits_40, eX11_fits_41, eX11_fits_44, eX11_fits_45, eX11_fits_46, eX11_fits_47, eX11_fits_50, eX11_fits_52, eX11_fits_53, eX11_fits_54, eX11_fits_57, eX11_fits_58, eX11_fits_59, eX11_fits_60, eX11_fits_61, eX11_fits_64, eX11_fits_67, eX11_fits_68, eX11_fits_71, eX11_fits_73, eX11_fits_76, eX11_fits_77, eX11_fits_78, eX11_fits_81, eX11_fits_84, eX11_fits_85, eX11_fits_86, eX11_fits_89, fM_5 hF, cs, e1, if_true, j1, mm_bd_v, k1, mm_bd_i, bI_0, Bool.true_eq_false, not_false_eq_true, e3, e4, if_false, qu]
      rw [iI_n (by unfold quaN at ql; omega)]
      rfl
