/-! the reference: lay -/
theorem btw {g i : Nat} {X : Int} (hi : i ≤ g) (hd : (g : Int) ∣ X) : (0 ≤ i * X.tdiv g ∧ i * X.tdiv g ≤ X) ∨ (X ≤ i * X.tdiv g ∧ i * X.tdiv g ≤ 0) := by
  obtain ⟨q, rfl⟩ := hd
  by_cases h0 : g = 0
  · subst h0
    have : i = 0 := by omega
    subst this
    left; simp
  · rw [Int.mul_tdiv_cancel_left q (by omega)]
    by_cases hq : 0 ≤ q
    · left
      exact ⟨Int.mul_nonneg (by omega) hq, Int.mul_le_mul_of_nonneg_right (by omega) hq⟩
    · right
      refine ⟨Int.mul_le_mul_of_nonpos_right (by omega) (by omega), ?_⟩
      have h := Int.mul_le_mul_of_nonpos_right (a := (i : Int)) (b := 0) (c := q) (by omega) (by omega)
      rw [Int.zero_mul] at h
      exact h
theorem bC_in {x y : Int} {c t i : Nat} (hc : c < 64) (h : pIn x y c t = true) (hi : i < Int.gcd (tuX x y t) (tuY x y t)) : 0 ≤ bC (tuX x y t) (tuY x y t) c (Int.gcd (tuX x y t) (tuY x y t)) i ∧ bC (tuX x y t) (tuY x y t) c (Int.gcd (tuX x y t) (tuY x y t)) i < 64 := by
  have h' := of_decide_eq_true h
  unfold pX pY at h'
  have b1 := btw (Nat.le_of_lt hi) (Int.gcd_dvd_left (a := tuX x y t) (b := tuY x y t))
  have b2 := btw (Nat.le_of_lt hi) (Int.gcd_dvd_right (a := tuX x y t) (b := tuY x y t))
  unfold bC
  omega
theorem gcd_b {X Y : Int} (hX : -7 ≤ X ∧ X ≤ 7) (hY : -7 ≤ Y ∧ Y ≤ 7) : Int.gcd X Y < 1000 := by
  by_cases h : X = 0
  · subst h
    rw [Int.gcd_zero_left]
    omega
  · have := Nat.gcd_le_left Y.natAbs (by omega : 0 < X.natAbs)
    have e : Int.gcd X Y = Nat.gcd X.natAbs Y.natAbs := rfl
    omega
/-- what lay has written after k hits -/
def lOk (l : List (Int × Int × Nat)) (c t : Nat) : Nat → Bool
  | 0 => true
  | k + 1 => lOk l c t k && pIn (hg l k).1 (hg l k).2.1 c t
def lH (l : List (Int × Int × Nat)) (c t : Nat) : Nat → Nat → Nat
  | 0, _ => 0
  | k + 1, a => if pIn (hg l k).1 (hg l k).2.1 c t = true ∧ (a : Int) = pAt (hg l k).1 (hg l k).2.1 c t then (hg l k).2.2 + 1 else lH l c t k a
def lB (l : List (Int × Int × Nat)) (c t : Nat) : Nat → Nat → Bool
  | 0, _ => false
  | k + 1, a => (pIn (hg l k).1 (hg l k).2.1 c t && bR (tuX (hg l k).1 (hg l k).2.1 t) (tuY (hg l k).1 (hg l k).2.1 t) c (Int.gcd (tuX (hg l k).1 (hg l k).2.1 t) (tuY (hg l k).1 (hg l k).2.1 t)) 0 (Int.gcd (tuX (hg l k).1 (hg l k).2.1 t) (tuY (hg l k).1 (hg l k).2.1 t)) a) || lB l c t k a
theorem pAt_in {x y : Int} {c t : Nat} (h : pIn x y c t = true) : 0 ≤ pAt x y c t ∧ pAt x y c t < 64 ∧ pAt x y c t = 8 * pY x y c t + pX x y c t ∧ (0 ≤ pX x y c t ∧ pX x y c t ≤ 7) ∧ (0 ≤ pY x y c t ∧ pY x y c t ≤ 7) := by
  have h' := of_decide_eq_true h
  unfold pAt
  rw [if_pos h]
  omega
theorem pAt_out {x y : Int} {c t : Nat} (h : ¬ pIn x y c t = true) : pAt x y c t = -1 := by
  unfold pAt
  rw [if_neg h]
theorem rmS_lay (n : Nat) (hs : Nat → List (Int × Int × Nat)) (st : Nat → Option (Nat × Nat)) {F : Nat → Nat → Value} {I0 I : Nat → Nat → Int32} {s : Nat} (h : rmS n hs st F I0) (hf : layF s I0 I) : rmS n hs st F I :=
  rmS_congr n hs st h rfl (hf.1 _ (by decide) (by decide)) (hf.1 _ (by decide) (by decide)) (hf.1 _ (by decide) (by decide)) (hf.1 _ (by decide) (by decide)) (hf.1 _ (by decide) (by decide)) (hf.1 _ (by decide) (by decide))
theorem lay_x {x y : Int} {c t : Nat} (hc : c < 64) (h : pIn x y c t = true) : nI (pAt x y c t).toNat - nI (pAt x y c t).toNat / nI 8 * nI 8 - (nI c - nI c / nI 8 * nI 8) = iI (tuX x y t) ∧ nI (pAt x y c t).toNat / nI 8 - nI c / nI 8 = iI (tuY x y t) := by
  have g := pAt_in h
  have gx : pX x y c t = ((c % 8 : Nat) : Int) + tuX x y t := rfl
  have gy : pY x y c t = ((c / 8 : Nat) : Int) + tuY x y t := rfl
  rw [pk_rem (by omega) (by decide) (by decide), pk_rem (by omega) (by decide) (by decide), pk_div (by omega) (by decide) (by decide), pk_div (by omega) (by decide) (by decide), iI_n (by omega), iI_n (by omega), iI_n (by omega), iI_n (by omega), iI_sub, iI_sub]
  exact ⟨by congr 1; omega, by congr 1; omega⟩
theorem rM_lay_step (d : Nat) (z : mm_Z) (F : Nat → Nat → Value) (L : Nat → Nat → Int64) (n : Nat) (hs : Nat → List (Int × Int × Nat)) (st : Nat → Option (Nat × Nat)) (hz : zOK z) (hF : FixM F) (w : wOK n hs st) (s c t : Nat) (hs' : s < n) (hc : c < 64) (ht : t < 4) (I : Nat → Nat → Int32) (h : rmS n hs st F I) (i : Nat) (hi : i < (hs s).length) (hI : ∀ a, a < 64 → I 128 (64 * s + a) = nI (lH (hs s) c t i a) ∧ I 129 (64 * s + a) = bI (lB (hs s) c t i a)) (a6 a7 a8 a9 a10 : Value) : ∃ I' b6 b7 b8 b9 b10, mm_E (d + 2) mX11_lay 48 [.ref 120, .int (nI s), .int (nI c), .int (nI t), .int (bI (lOk (hs s) c t i)), .int (nI i), a6, a7, a8, a9, a10] [] (z, F, I, L) = mm_E (d + 2) mX11_lay 48 [.ref 120, .int (nI s), .int (nI c), .int (nI t), .int (bI (lOk (hs s) c t (i + 1))), .int (nI (i + 1)), b6, b7, b8, b9, b10] [] (z, F, I', L) ∧ layF s I I' ∧ ∀ a, a < 64 → I' 128 (64 * s + a) = nI (lH (hs s) c t (i + 1) a) ∧ I' 129 (64 * s + a) = bI (lB (hs s) c t (i + 1) a) := by
  have h8 := w.1
  have hl := (w.2 s hs').1
  have cs : (nI s).toNatClampNeg = s := nI_clamp (by omega)
  have h1 : ¬ nI (hs s).length ≤ nI i := nI_ge (by omega) (by omega)
  have g := h.2.2.1 s i hs' hi
  have gl := h.2.1 s hs'
  have b := hg_b n hs st w hs' hi
  have ci : (nI (16 * s + i)).toNatClampNeg = 16 * s + i := nI_clamp (by omega)
  have v1 : vp_in (nI s) (mm_zl z 121) := vi (zl_121 hz) (by omega) (by decide)
  have v2 : vp_in (nI (16 * s + i)) (mm_zl z 122) := vi (zl_122 hz) (by omega) (by decide)
  have v3 : vp_in (nI (16 * s + i)) (mm_zl z 123) := vi (zl_123 hz) (by omega) (by decide)
  have v4 : vp_in (nI (16 * s + i)) (mm_zl z 124) := vi (zl_124 hz) (by omega) (by decide)
  have pl := fun d' => rM_placed d' z F I L _ _ c t b.1 b.2.1 hc ht
  have e10 : ¬ (1 : Int32) = 0 := by decide
  have m16 : nI 16 * nI s + nI i = nI (16 * s + i) := by rw [pk_mul, nI_add]
  by_cases hp : pIn (hg (hs s) i).1 (hg (hs s) i).2.1 c t = true
  · have hA := pAt_in hp
    have ea : iI (pAt (hg (hs s) i).1 (hg (hs s) i).2.1 c t) = nI (pAt (hg (hs s) i).1 (hg (hs s) i).2.1 c t).toNat := by rw [iI_n (by omega)]; congr 1; omega
    have en : ¬ nI (pAt (hg (hs s) i).1 (hg (hs s) i).2.1 c t).toNat = -1 := nI_nm1 (by omega)
    have v5 : vp_in (nI (64 * s + (pAt (hg (hs s) i).1 (hg (hs s) i).2.1 c t).toNat)) (mm_zl z 128) := vi (zl_128 hz) (by omega) (by decide)
    have c5 : (nI (64 * s + (pAt (hg (hs s) i).1 (hg (hs s) i).2.1 c t).toNat)).toNatClampNeg = 64 * s + (pAt (hg (hs s) i).1 (hg (hs s) i).2.1 c t).toNat := nI_clamp (by omega)
    have m64 : nI 64 * nI s + nI (pAt (hg (hs s) i).1 (hg (hs s) i).2.1 c t).toNat = nI (64 * s + (pAt (hg (hs s) i).1 (hg (hs s) i).2.1 c t).toNat) := by rw [pk_mul, nI_add]
    have e8 : ¬ nI 8 = 0 := by decide
    have lx := lay_x hc hp
    have tb := tu_b t b.1 b.2.1
    obtain ⟨I', k1, k2, k3, k4⟩ := rM_lay_beam (d + 2) z F L hz hF s c (Int.gcd (tuX (hg (hs s) i).1 (hg (hs s) i).2.1 t) (tuY (hg (hs s) i).1 (hg (hs s) i).2.1 t)) (tuX (hg (hs s) i).1 (hg (hs s) i).2.1 t) (tuY (hg (hs s) i).1 (hg (hs s) i).2.1 t) (by omega) hc (gcd_b tb.1 tb.2) (by omega) (by omega) (fun j hj => bC_in hc hp hj) (.int (nI t)) (.int (bI (lOk (hs s) c t i))) (.int (nI i)) (.int (nI (pAt (hg (hs s) i).1 (hg (hs s) i).2.1 c t).toNat)) _ 0 (mm_up2 I 128 (64 * s + (pAt (hg (hs s) i).1 (hg (hs s) i).2.1 c t).toNat) (nI ((hg (hs s) i).2.2 + 1))) (Nat.zero_add _)
    have eO : lOk (hs s) c t (i + 1) = lOk (hs s) c t i := by rw [lOk, hp, Bool.and_true]
    refine ⟨I', .int (nI (pAt (hg (hs s) i).1 (hg (hs s) i).2.1 c t).toNat), .int (iI (tuX (hg (hs s) i).1 (hg (hs s) i).2.1 t)), .int (iI (tuY (hg (hs s) i).1 (hg (hs s) i).2.1 t)), .int (nI (Int.gcd (tuX (hg (hs s) i).1 (hg (hs s) i).2.1 t) (tuY (hg (hs s) i).1 (hg (hs s) i).2.1 t))), .int (nI (Int.gcd (tuX (hg (hs s) i).1 (hg (hs s) i).2.1 t) (tuY (hg (hs s) i).1 (hg (hs s) i).2.1 t))), ?_, layF_trans (layF_128 s _ I _ (by omega)) k2, ?_⟩
    rotate_left
    · intro a ha
      refine ⟨?_, ?_⟩
      · rw [k3, lH]
        by_cases q : (a : Int) = pAt (hg (hs s) i).1 (hg (hs s) i).2.1 c t
        · rw [if_pos ⟨hp, q⟩]
          have q' : a = (pAt (hg (hs s) i).1 (hg (hs s) i).2.1 c t).toNat := by omega
          rw [← q', up_s]
        · rw [if_neg (fun z => q z.2), up_k _ _ _ _ (by omega)]
          exact (hI a ha).1
      · rw [k4 a ha, up_r _ _ _ _ (by decide), (hI a ha).2, lB, hp, Bool.true_and]
        by_cases q : bR (tuX (hg (hs s) i).1 (hg (hs s) i).2.1 t) (tuY (hg (hs s) i).1 (hg (hs s) i).2.1 t) c (Int.gcd (tuX (hg (hs s) i).1 (hg (hs s) i).2.1 t) (tuY (hg (hs s) i).1 (hg (hs s) i).2.1 t)) 0 (Int.gcd (tuX (hg (hs s) i).1 (hg (hs s) i).2.1 t) (tuY (hg (hs s) i).1 (hg (hs s) i).2.1 t)) a = true
        · rw [if_pos q, q, Bool.true_or]; rfl
        · rw [if_neg q, Bool.eq_false_iff.mpr q, Bool.false_or]
    · have gc := fun d' => rM_common d' z F (mm_up2 I 128 (64 * s + (pAt (hg (hs s) i).1 (hg (hs s) i).2.1 c t).toNat) (nI ((hg (hs s) i).2.2 + 1))) L (tuX (hg (hs s) i).1 (hg (hs s) i).2.1 t) (tuY (hg (hs s) i).1 (hg (hs s) i).2.1 t) (by omega) (by omega) (by omega) (by omega)
      have n0 : nI 0 = 0 := rfl
      rw [n0] at k1
      rw [eX11_lay_48, eO]
      cases hO : lOk (hs s) c t i <;> rw [hO] at k1 <;>
      · simp (disch := first | assumption | decide | exact zO_120 hz | exact zT_121 hz | exact zT_122 hz | exact zT_123 hz | exact zT_124 hz | exact zT_128 hz | exact bI_or _) only [eX11_lay_50, eX11_lay_51, eX11_lay_54, eX11_lay_55, eX11_lay_56, eX11_lay_59, eX11_lay_60, eX11_lay_63, eX11_lay_65, eX11_lay_66, eX11_lay_67, eX11_lay_69, eX11_lay_70, eX11_lay_71, eX11_lay_72, eX11_lay_75, eX11_lay_77, eX11_lay_78, eX11_lay_79, eX11_lay_81, eX11_lay_82, eX11_lay_83, eX11_lay_84, eX11_lay_85, eX11_lay_88, eX11_lay_90, eX11_lay_92, eX11_lay_95, eX11_lay_97, eX11_lay_98, eX11_lay_101, eX11_lay_102, eX11_lay_105, eX11_lay_106, eX11_lay_108, eX11_lay_110, eX11_lay_111, eX11_lay_114, eX11_lay_115, eX11_lay_118, eX11_lay_120, eX11_lay_121, eX11_lay_122, eX11_lay_124, eX11_lay_125, eX11_lay_126, eX11_lay_129, eX11_lay_131, eX11_lay_132, eX11_lay_133, eX11_lay_135, eX11_lay_136, eX11_lay_137, eX11_lay_138, eX11_lay_139, eX11_lay_140, eX11_lay_142, eX11_lay_144, eX11_lay_145, eX11_lay_146, eX11_lay_148, eX11_lay_149, eX11_lay_150, eX11_lay_152, eX11_lay_154, eX11_lay_156, eX11_lay_157, eX11_lay_158, eX11_lay_160, eX11_lay_161, eX11_lay_162, eX11_lay_164, eX11_lay_166, eX11_lay_168, eX11_lay_171, eX11_lay_173, eX11_lay_174, fM_1 hF, fM_2 hF, fM_3 hF, fM_4 hF, fM_11 hF, cs, gl, h1, if_false, m16, ci, g.1, g.2.1, g.2.2, e10, pl, mm_bd_i, ea, en, bI_0, Bool.true_eq_false, if_true, m64, c5, nI_1, lx.1, lx.2, gc, bI_t, bI_f] at k1 ⊢
        rw [k1]
        simp (disch := first | assumption | decide | exact zO_120 hz | exact zT_121 hz | exact zT_122 hz | exact zT_123 hz | exact zT_124 hz | exact zT_128 hz | exact bI_or _) only [eX11_lay_222, eX11_lay_225, nI_1]
  · have hA := pAt_out hp
    have ea : iI (pAt (hg (hs s) i).1 (hg (hs s) i).2.1 c t) = -1 := by rw [hA, iI_m1]
    have eO : lOk (hs s) c t (i + 1) = false := by rw [lOk, Bool.eq_false_iff.mpr hp, Bool.and_false]
    refine ⟨I, .int (-1), a7, a8, a9, a10, ?_, layF_rfl s I, ?_⟩
    · rw [eX11_lay_48, eO]
      cases hO : lOk (hs s) c t i <;>
      · simp (disch := first | assumption | decide | exact zO_120 hz | exact zT_121 hz | exact zT_122 hz | exact zT_123 hz | exact zT_124 hz | exact zT_128 hz | exact bI_or _) only [eX11_lay_50, eX11_lay_51, eX11_lay_54, eX11_lay_55, eX11_lay_56, eX11_lay_59, eX11_lay_60, eX11_lay_63, eX11_lay_65, eX11_lay_66, eX11_lay_67, eX11_lay_69, eX11_lay_70, eX11_lay_71, eX11_lay_72, eX11_lay_75, eX11_lay_77, eX11_lay_78, eX11_lay_79, eX11_lay_81, eX11_lay_82, eX11_lay_83, eX11_lay_84, eX11_lay_85, eX11_lay_88, eX11_lay_90, eX11_lay_92, eX11_lay_95, eX11_lay_97, eX11_lay_98, eX11_lay_101, eX11_lay_102, eX11_lay_105, eX11_lay_106, eX11_lay_108, eX11_lay_110, eX11_lay_111, eX11_lay_222, eX11_lay_225, fM_1 hF, fM_2 hF, fM_3 hF, fM_4 hF, fM_11 hF, cs, gl, h1, if_false, m16, ci, g.1, g.2.1, g.2.2, e10, pl, mm_bd_i, ea, bI_0, Bool.true_eq_false, if_true, nI_1, bI_t, bI_f]
    · intro a ha
      rw [lH, lB, if_neg (fun z => hp z.1), Bool.eq_false_iff.mpr hp, Bool.false_and, Bool.false_or]
      exact hI a ha
theorem rM_lay_l (d : Nat) (z : mm_Z) (F : Nat → Nat → Value) (L : Nat → Nat → Int64) (n : Nat) (hs : Nat → List (Int × Int × Nat)) (st : Nat → Option (Nat × Nat)) (hz : zOK z) (hF : FixM F) (w : wOK n hs st) (s c t : Nat) (hs' : s < n) (hc : c < 64) (ht : t < 4) (I0 : Nat → Nat → Int32) (h : rmS n hs st F I0) : ∀ k i I, i + k = (hs s).length → layF s I0 I → (∀ a, a < 64 → I 128 (64 * s + a) = nI (lH (hs s) c t i a) ∧ I 129 (64 * s + a) = bI (lB (hs s) c t i a)) → ∀ a6 a7 a8 a9 a10 : Value, ∃ I', mm_E (d + 2) mX11_lay 48 [.ref 120, .int (nI s), .int (nI c), .int (nI t), .int (bI (lOk (hs s) c t i)), .int (nI i), a6, a7, a8, a9, a10] [] (z, F, I, L) = some (some (.int (bI (lOk (hs s) c t (hs s).length))), (z, F, I', L)) ∧ layF s I0 I' ∧ ∀ a, a < 64 → I' 128 (64 * s + a) = nI (lH (hs s) c t (hs s).length a) ∧ I' 129 (64 * s + a) = bI (lB (hs s) c t (hs s).length a) := by
  have h8 := w.1
  have hl := (w.2 s hs').1
  have cs : (nI s).toNatClampNeg = s := nI_clamp (by omega)
  have v1 : vp_in (nI s) (mm_zl z 121) := vi (zl_121 hz) (by omega) (by decide)
  intro k
  induction k with
  | zero =>
    intro i I hi hf hI a6 a7 a8 a9 a10
    have e : i = (hs s).length := by omega
    subst e
    have gl := (rmS_lay n hs st h hf).2.1 s hs'
    refine ⟨I, ?_, hf, hI⟩
    rw [eX11_lay_48]
    simp (disch := first | assumption | decide | exact zO_120 hz | exact zT_121 hz | exact zT_122 hz | exact zT_123 hz | exact zT_124 hz | exact zT_128 hz | exact bI_or _) only [eX11_lay_50, eX11_lay_51, eX11_lay_54, eX11_lay_55, eX11_lay_56, eX11_lay_228, eX11_lay_230, fM_1 hF, cs, gl, nI_le (Nat.le_refl (hs s).length) (by omega), if_true]
  | succ k ih =>
    intro i I hi hf hI a6 a7 a8 a9 a10
    obtain ⟨I1, b6, b7, b8, b9, b10, k1, k2, k3⟩ := rM_lay_step d z F L n hs st hz hF w s c t hs' hc ht I (rmS_lay n hs st h hf) i (by omega) hI a6 a7 a8 a9 a10
    obtain ⟨I', g1, g2, g3⟩ := ih (i + 1) I1 (by omega) (layF_trans hf k2) k3 b6 b7 b8 b9 b10
    exact ⟨I', k1.trans g1, g2, g3⟩
theorem rM_lay (d : Nat) (z : mm_Z) (F : Nat → Nat → Value) (L : Nat → Nat → Int64) (n : Nat) (hs : Nat → List (Int × Int × Nat)) (st : Nat → Option (Nat × Nat)) (hz : zOK z) (hF : FixM F) (w : wOK n hs st) (s c t : Nat) (hs' : s < n) (hc : c < 64) (ht : t < 4) (I : Nat → Nat → Int32) (h : rmS n hs st F I) : ∃ I', mm_E (d + 2) mX11_lay 0 [.ref 120, .int (nI s), .int (nI c), .int (nI t), uu, uu, uu, uu, uu, uu, uu] [] (z, F, I, L) = some (some (.int (bI (lOk (hs s) c t (hs s).length))), (z, F, I', L)) ∧ layF s I I' ∧ ∀ a, a < 64 → I' 128 (64 * s + a) = nI (lH (hs s) c t (hs s).length a) ∧ I' 129 (64 * s + a) = bI (lB (hs s) c t (hs s).length a) := by
  have h8 := w.1
  obtain ⟨I1, k1, k2, k3⟩ := rM_lay_clear (d + 2) z F L hz hF s (by omega) (.int (nI c)) (.int (nI t)) uu uu uu uu uu uu I 64 0 I (by omega) (layF_rfl s I) (fun j hj => absurd hj (by omega))
  obtain ⟨I', g1, g2, g3⟩ := rM_lay_l d z F L n hs st hz hF w s c t hs' hc ht I h (hs s).length 0 I1 (by omega) k2 k3 uu uu uu uu uu
  refine ⟨I', ?_, g2, g3⟩
  rw [← g1]
  have n0 : nI 0 = 0 := rfl
  rw [n0] at k1
  simp (disch := first | assumption | decide | exact zO_120 hz | exact zT_121 hz | exact zT_122 hz | exact zT_123 hz | exact zT_124 hz | exact zT_128 hz | exact bI_or _) only [eX11_lay_0, eX11_lay_1]
  rw [k1]
  simp (disch := first | assumption | decide | exact zO_120 hz | exact zT_121 hz | exact zT_122 hz | exact zT_123 hz | exact zT_124 hz | exact zT_128 hz | exact bI_or _) only [eX11_lay_42, eX11_lay_43, eX11_lay_45, eX11_lay_46]
  rfl
