/-! the reference: cell, cells, bars -/
theorem kd_le (n : Nat) (hs : Nat → List (Int × Int × Nat)) (st : Nat → Option (Nat × Nat)) (c : Nat) : kd n hs st c ≤ 3 := by
  unfold kd
  repeat' split
  all_goals omega
theorem rM_cell_unk (d : Nat) (z : mm_Z) (F : Nat → Nat → Value) (I : Nat → Nat → Int32) (L : Nat → Nat → Int64) (c : Int32) (h : ¬ (0 ≤ c.toInt ∧ c.toInt < 64)) : mm_E (d + 5) mX11_cell 0 [.ref 120, .int c] [] (z, F, I, L) = some (some (.int (-2)), (z, F, I, L)) := by
  have c2 : decide (0 ≤ c.toInt ∧ c.toInt < 64) = false := decide_eq_false h
  simp (disch := first | assumption | decide) only [eX11_cell_0, eX11_cell_1, eX11_cell_4, eX11_cell_7, eX11_cell_9, rM_isCell (d := d + 3), mm_bd_i, c2, bI_0, not_true_eq_false, if_false]
theorem rM_cell (d : Nat) (z : mm_Z) (F : Nat → Nat → Value) (I : Nat → Nat → Int32) (L : Nat → Nat → Int64) (n : Nat) (hs : Nat → List (Int × Int × Nat)) (st : Nat → Option (Nat × Nat)) (hz : zOK z) (hF : FixM F) (w : wOK n hs st) (h : rmS n hs st F I) (c : Nat) (hc : c < 64) : ∃ I', mm_E (d + 5) mX11_cell 0 [.ref 120, .int (nI c)] [] (z, F, I, L) = some (some (.int (nI (kd n hs st c))), (z, F, I', L)) ∧ lookG I I' := by
  obtain ⟨I', g1, g2, g3⟩ := rM_look d z F I L n hs st hz hF w h
  have v1 : vp_in (nI c) (mm_zl z 127) := vi (zl_127 hz) (by omega) (by decide)
  have c1 : (nI c).toNatClampNeg = c := nI_clamp (by omega)
  refine ⟨I', ?_, g2⟩
  simp (disch := first | assumption | decide | exact zO_120 hz | exact zT_125 hz | exact zT_127 hz | exact zT_128 hz | exact zT_129 hz | exact bI_or _) only [eX11_cell_0, eX11_cell_1, eX11_cell_4, eX11_cell_7, eX11_cell_9, eX11_cell_10, eX11_cell_11, eX11_cell_14, eX11_cell_15, eX11_cell_18, eX11_cell_19, eX11_cell_20, rM_isCell (d := d + 3), mm_bd_i, isC_t hc, bI_0, Bool.true_eq_false, not_false_eq_true, if_true, g1, mm_bd_v, fM_10 hF, c1, g3 c hc]
/-- a set of cells, told one by one -/
def lOr (f : Nat → Bool) : Nat → Int64
  | 0 => 0
  | k + 1 => lOr f k ||| (if f k = true then (1 : Int64) <<< ((nI k).toInt64 &&& 63) else 0)
theorem lb_lOr (f : Nat → Bool) (i : Nat) : ∀ k, k ≤ 64 → lb (lOr f k) i = (decide (i < k) && f i) := by
  intro k
  induction k with
  | zero => intro _; rw [lOr, lb_0]; simp
  | succ k ih =>
    intro hk
    rw [lOr, lb_or, ih (by omega)]
    by_cases e : i = k
    · subst e
      cases hf : f i
      · simp [lb_0]
      · simp only [if_true]
        rw [lb_one i (by omega)]
        simp
    · have e2 : lb (if f k = true then (1 : Int64) <<< ((nI k).toInt64 &&& 63) else 0) i = false := by
        split
        · rw [lb_one k (by omega), decide_eq_false e]
        · exact lb_0 i
      rw [e2, Bool.or_false]
      have e3 : (i < k + 1) ↔ (i < k) := by omega
      rw [decide_eq_decide.mpr e3]
def orT (f : Nat → Bool) : Nat → Int32
  | 0 => 0
  | k + 1 => orT f k ||| (if f k = true then (1 : Int32) <<< (nI k &&& 31) else 0)
theorem rM_cellsOf (d : Nat) (z : mm_Z) (F : Nat → Nat → Value) (I : Nat → Nat → Int32) (L : Nat → Nat → Int64) (n : Nat) (hs : Nat → List (Int × Int × Nat)) (st : Nat → Option (Nat × Nat)) (hz : zOK z) (hF : FixM F) (hk : ∀ c, c < 64 → I 127 c = nI (kd n hs st c)) (a : Nat) (ha : a < 4) : mm_E d mX11_cellsOf 0 [.ref 120, .int (nI a), uu, uu, uu] [] (z, F, I, L) = some (some (.long (lOr (fun c => decide (kd n hs st c = a)) 64)), (z, F, I, L)) := by
  have lp : ∀ k i, i + k = 64 → mm_E d mX11_cellsOf 5 [.ref 120, .int (nI a), .long (lOr (fun c => decide (kd n hs st c = a)) i), uu, .int (nI i)] [] (z, F, I, L) = some (some (.long (lOr (fun c => decide (kd n hs st c = a)) 64)), (z, F, I, L)) := by
    intro k
    induction k with
    | zero =>
      intro i hi
      have e : i = 64 := by omega
      subst e
      rw [eX11_cellsOf_5]
      simp (disch := first | assumption | decide | exact zO_120 hz | exact zT_125 hz | exact zT_127 hz | exact zT_128 hz | exact zT_129 hz | exact bI_or _) only [eX11_cellsOf_7, eX11_cellsOf_9, eX11_cellsOf_40, eX11_cellsOf_41, nI_le (Nat.le_refl 64) (by decide), if_true]
    | succ k ih =>
      intro i hi
      have h1 : ¬ nI 64 ≤ nI i := nI_ge (by omega) (by decide)
      have v1 : vp_in (nI i) (mm_zl z 127) := vi (zl_127 hz) (by omega) (by decide)
      have c1 : (nI i).toNatClampNeg = i := nI_clamp (by omega)
      have kl := kd_le n hs st i
      rw [← ih (i + 1) (by omega), eX11_cellsOf_5, lOr]
      by_cases e : kd n hs st i = a
      · have e1 : (nI (kd n hs st i) = nI a) = True := by rw [e]; exact eq_self _
        simp (disch := first | assumption | decide | exact zO_120 hz | exact zT_125 hz | exact zT_127 hz | exact zT_128 hz | exact zT_129 hz | exact bI_or _) only [eX11_cellsOf_7, eX11_cellsOf_9, eX11_cellsOf_12, eX11_cellsOf_13, eX11_cellsOf_14, eX11_cellsOf_17, eX11_cellsOf_19, eX11_cellsOf_20, eX11_cellsOf_21, eX11_cellsOf_24, eX11_cellsOf_25, eX11_cellsOf_27, eX11_cellsOf_28, eX11_cellsOf_31, eX11_cellsOf_32, eX11_cellsOf_33, eX11_cellsOf_34, eX11_cellsOf_37, h1, if_false, fM_10 hF, c1, hk i (by omega), e1, not_true_eq_false, nI_1, decide_eq_true e, if_true]
      · have e1 : ¬ nI (kd n hs st i) = nI a := fun q => e ((nI_eq (by omega) (by omega)).mp q)
        simp (disch := first | assumption | decide | exact zO_120 hz | exact zT_125 hz | exact zT_127 hz | exact zT_128 hz | exact zT_129 hz | exact bI_or _) only [eX11_cellsOf_7, eX11_cellsOf_9, eX11_cellsOf_12, eX11_cellsOf_13, eX11_cellsOf_14, eX11_cellsOf_17, eX11_cellsOf_19, eX11_cellsOf_20, eX11_cellsOf_21, eX11_cellsOf_24, eX11_cellsOf_25, eX11_cellsOf_27, eX11_cellsOf_28, eX11_cellsOf_31, eX11_cellsOf_32, eX11_cellsOf_33, eX11_cellsOf_34, eX11_cellsOf_37, h1, if_false, fM_10 hF, c1, hk i (by omega), e1, not_false_eq_true, if_true, nI_1, decide_eq_false e, Bool.false_eq_true]
  rw [← lp 64 0 (by omega)]
  simp (disch := first | assumption | decide | exact zO_120 hz | exact zT_125 hz | exact zT_127 hz | exact zT_128 hz | exact zT_129 hz | exact bI_or _) only [eX11_cellsOf_0, eX11_cellsOf_1, eX11_cellsOf_2, eX11_cellsOf_3]
  rfl
theorem rM_cells_out (d : Nat) (z : mm_Z) (F : Nat → Nat → Value) (I : Nat → Nat → Int32) (L : Nat → Nat → Int64) (n : Nat) (hs : Nat → List (Int × Int × Nat)) (st : Nat → Option (Nat × Nat)) (hz : zOK z) (hF : FixM F) (w : wOK n hs st) (h : rmS n hs st F I) (a : Int32) (ha : ¬ (0 ≤ a.toInt ∧ a.toInt ≤ 3)) : ∃ I', mm_E (d + 5) mX11_cells 0 [.ref 120, .int a] [] (z, F, I, L) = some (some (.long 0), (z, F, I', L)) ∧ lookG I I' := by
  obtain ⟨I', g1, g2, g3⟩ := rM_look d z F I L n hs st hz hF w h
  have e0 : (0 : Int32).toInt = 0 := rfl
  have e3 : (nI 3).toInt = 3 := rfl
  have c1 : decide (0 ≤ a.toInt ∧ a.toInt ≤ 3) = false := decide_eq_false ha
  refine ⟨I', ?_, g2⟩
  simp (disch := first | assumption | decide | exact zO_120 hz | exact zT_125 hz | exact zT_127 hz | exact zT_128 hz | exact zT_129 hz | exact bI_or _) only [eX11_cells_0, eX11_cells_1, eX11_cells_4, eX11_cells_5, eX11_cells_6, eX11_cells_7, eX11_cells_10, eX11_cells_13, eX11_cells_14, eX11_cells_15, eX11_cells_18, eX11_cells_21, eX11_cells_22, rM_in, mm_bd_i, e0, e3, c1, bI_0, if_true, g1, mm_bd_v]
theorem rM_cells (d : Nat) (z : mm_Z) (F : Nat → Nat → Value) (I : Nat → Nat → Int32) (L : Nat → Nat → Int64) (n : Nat) (hs : Nat → List (Int × Int × Nat)) (st : Nat → Option (Nat × Nat)) (hz : zOK z) (hF : FixM F) (w : wOK n hs st) (h : rmS n hs st F I) (a : Nat) (ha : a < 4) : ∃ I', mm_E (d + 5) mX11_cells 0 [.ref 120, .int (nI a)] [] (z, F, I, L) = some (some (.long (lOr (fun c => decide (kd n hs st c = a)) 64)), (z, F, I', L)) ∧ lookG I I' := by
  obtain ⟨I', g1, g2, g3⟩ := rM_look d z F I L n hs st hz hF w h
  have e0 : (0 : Int32).toInt = 0 := rfl
  have co := fun d' => rM_cellsOf d' z F I' L n hs st hz hF g3 a ha
  refine ⟨I', ?_, g2⟩
  simp (disch := first | assumption | decide | exact zO_120 hz | exact zT_125 hz | exact zT_127 hz | exact zT_128 hz | exact zT_129 hz | exact bI_or _) only [eX11_cells_0, eX11_cells_1, eX11_cells_4, eX11_cells_5, eX11_cells_6, eX11_cells_7, eX11_cells_10, eX11_cells_13, eX11_cells_14, eX11_cells_15, eX11_cells_18, eX11_cells_21, eX11_cells_22, rM_in, mm_bd_i, e0, isT_t (by omega : a ≤ 3) (by decide), bI_0, Bool.true_eq_false, if_false, g1, mm_bd_v, co]
