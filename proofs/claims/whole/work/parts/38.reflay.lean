/-! the reference: lay, its first loop and its beam's loop -/
/-- only the rows 128 and 129 have changed, and of them only what is the sweep's -/
def layF (s : Nat) (I0 I : Nat → Nat → Int32) : Prop := (∀ r, ¬ r = 128 → ¬ r = 129 → I r = I0 r) ∧ ∀ j, (j < 64 * s ∨ 64 * s + 64 ≤ j) → I 128 j = I0 128 j ∧ I 129 j = I0 129 j
theorem layF_rfl (s : Nat) (I : Nat → Nat → Int32) : layF s I I := ⟨fun _ _ _ => rfl, fun _ _ => ⟨rfl, rfl⟩⟩
theorem layF_trans {s : Nat} {I0 I I' : Nat → Nat → Int32} (h : layF s I0 I) (h' : layF s I I') : layF s I0 I' :=
  ⟨fun r a b => (h'.1 r a b).trans (h.1 r a b), fun j hj => ⟨((h'.2 j hj).1).trans (h.2 j hj).1, ((h'.2 j hj).2).trans (h.2 j hj).2⟩⟩
theorem layF_128 (s c : Nat) (I : Nat → Nat → Int32) (v : Int32) (hc : c < 64) : layF s I (mm_up2 I 128 (64 * s + c) v) := by
  refine ⟨fun r a _ => up_row _ _ _ a, fun j hj => ⟨up_k _ _ _ _ (by omega), up_r _ _ _ _ (by decide)⟩⟩
theorem layF_129 (s c : Nat) (I : Nat → Nat → Int32) (v : Int32) (hc : c < 64) : layF s I (mm_up2 I 129 (64 * s + c) v) := by
  refine ⟨fun r _ a => up_row _ _ _ a, fun j hj => ⟨up_r _ _ _ _ (by decide), up_k _ _ _ _ (by omega)⟩⟩
theorem rM_lay_clear (d : Nat) (z : mm_Z) (F : Nat → Nat → Value) (L : Nat → Nat → Int64) (hz : zOK z) (hF : FixM F) (s : Nat) (hs : s < 8) (b2 b3 a5 a6 a7 a8 a9 a10 : Value) (I0 : Nat → Nat → Int32) : ∀ k i I, i + k = 64 → layF s I0 I → (∀ j, j < i → I 128 (64 * s + j) = 0 ∧ I 129 (64 * s + j) = 0) → ∃ I', mm_E d mX11_lay 3 [.ref 120, .int (nI s), b2, b3, .int (nI i), a5, a6, a7, a8, a9, a10] [] (z, F, I, L) = mm_E d mX11_lay 42 [.ref 120, .int (nI s), b2, b3, .int (nI 64), a5, a6, a7, a8, a9, a10] [] (z, F, I', L) ∧ layF s I0 I' ∧ ∀ j, j < 64 → I' 128 (64 * s + j) = 0 ∧ I' 129 (64 * s + j) = 0 := by
  intro k
  induction k with
  | zero =>
    intro i I hi hf hj
    have e : i = 64 := by omega
    subst e
    refine ⟨I, ?_, hf, hj⟩
    rw [eX11_lay_3]
    simp (disch := first | assumption | decide) only [eX11_lay_5, eX11_lay_7, eX11_lay_10, eX11_lay_11, eX11_lay_14, eX11_lay_16, eX11_lay_17, eX11_lay_18, eX11_lay_20, eX11_lay_21, eX11_lay_22, eX11_lay_23, eX11_lay_24, eX11_lay_27, eX11_lay_29, eX11_lay_30, eX11_lay_31, eX11_lay_33, eX11_lay_34, eX11_lay_35, eX11_lay_36, eX11_lay_39, nI_le (Nat.le_refl 64) (by decide), if_true]
  | succ k ih =>
    intro i I hi hf hj
    have h1 : ¬ nI 64 ≤ nI i := nI_ge (by omega) (by decide)
    have v1 : vp_in (nI (64 * s + i)) (mm_zl z 128) := vi (zl_128 hz) (by omega) (by decide)
    have v2 : vp_in (nI (64 * s + i)) (mm_zl z 129) := vi (zl_129 hz) (by omega) (by decide)
    have ci : (nI (64 * s + i)).toNatClampNeg = 64 * s + i := nI_clamp (by omega)
    obtain ⟨I', g1, g2, g3⟩ := ih (i + 1) (mm_up2 (mm_up2 I 128 (64 * s + i) 0) 129 (64 * s + i) 0) (by omega) (layF_trans hf (layF_trans (layF_128 s i I 0 (by omega)) (layF_129 s i _ 0 (by omega)))) (by
      intro j hj'
      by_cases e : j = i
      · subst e
        refine ⟨?_, up_s _ _ _ _⟩
        rw [up_r _ _ _ _ (by decide), up_s]
      · rw [up_r _ _ _ _ (by decide), up_k _ _ _ _ (by omega), up_k _ _ _ _ (by omega), up_r _ _ _ _ (by decide)]
        exact hj j (by omega))
    refine ⟨I', ?_, g2, g3⟩
    rw [← g1, eX11_lay_3]
    simp (disch := first | assumption | decide | exact zO_120 hz | exact zT_128 hz | exact zT_129 hz) only [eX11_lay_5, eX11_lay_7, eX11_lay_10, eX11_lay_11, eX11_lay_14, eX11_lay_16, eX11_lay_17, eX11_lay_18, eX11_lay_20, eX11_lay_21, eX11_lay_22, eX11_lay_23, eX11_lay_24, eX11_lay_27, eX11_lay_29, eX11_lay_30, eX11_lay_31, eX11_lay_33, eX11_lay_34, eX11_lay_35, eX11_lay_36, eX11_lay_39, h1, if_false, fM_11 hF, fM_12 hF, pk_mul, nI_add, ci, nI_1]
/-- the cell of a beam's step -/
def bC (X Y : Int) (c g i : Nat) : Int := c + i * X.tdiv g + 8 * (i * Y.tdiv g)
def bR (X Y : Int) (c g i m : Nat) (a : Nat) : Bool := (List.range' i m).any (fun j => decide ((a : Int) = bC X Y c g j))
theorem bC_idx {X Y : Int} {s c g i : Nat} (hs : s < 8) (hc : c < 64) (hg : g < 1000) (hi : i < 1000) (hX : -1000 < X ∧ X < 1000) (hY : -1000 < Y ∧ Y < 1000) (h0 : 0 ≤ bC X Y c g i) : nI 64 * nI s + nI c + nI i * (iI X / nI g) + nI 8 * nI i * (iI Y / nI g) = nI (64 * s + (bC X Y c g i).toNat) ∨ 512 ≤ bC X Y c g i := by
  by_cases h9 : 512 ≤ bC X Y c g i
  · exact Or.inr h9
  · left
    rw [iI_n (n := 64) (by decide), iI_n (n := 8) (by decide), iI_n (n := s) (by omega), iI_n (n := c) (by omega), iI_n (n := i) (by omega), iI_n (n := g) (by omega), iI_div (by omega) (by omega) (by omega) (by omega), iI_div (by omega) (by omega) (by omega) (by omega)]
    simp only [iI_mul, iI_add]
    rw [iI_n (by omega)]
    congr 1
    have e : ((64 * s + (bC X Y c g i).toNat : Nat) : Int) = 64 * (s : Int) + bC X Y c g i := by omega
    rw [e]
    unfold bC
    have e2 : (8 : Int) * (i : Int) * Y.tdiv g = 8 * (i * Y.tdiv g) := Int.mul_assoc _ _ _
    have e3 : ((8 : Nat) : Int) = 8 := rfl
    have e4 : ((64 : Nat) : Int) = 64 := rfl
    rw [e3, e4, e2]
    omega
theorem rM_lay_beam (d : Nat) (z : mm_Z) (F : Nat → Nat → Value) (L : Nat → Nat → Int64) (hz : zOK z) (hF : FixM F) (s c g : Nat) (X Y : Int) (hs : s < 8) (hc : c < 64) (hg : g < 1000) (hX : -1000 < X ∧ X < 1000) (hY : -1000 < Y ∧ Y < 1000) (hin : ∀ i, i < g → 0 ≤ bC X Y c g i ∧ bC X Y c g i < 64) (b3 a4 a5 a6 : Value) : ∀ k i I, i + k = g → ∃ I', mm_E d mX11_lay 176 [.ref 120, .int (nI s), .int (nI c), b3, a4, a5, a6, .int (iI X), .int (iI Y), .int (nI g), .int (nI i)] [] (z, F, I, L) = mm_E d mX11_lay 222 [.ref 120, .int (nI s), .int (nI c), b3, a4, a5, a6, .int (iI X), .int (iI Y), .int (nI g), .int (nI g)] [] (z, F, I', L) ∧ layF s I I' ∧ I' 128 = I 128 ∧ ∀ a, a < 64 → I' 129 (64 * s + a) = if bR X Y c g i k a = true then 1 else I 129 (64 * s + a) := by
  intro k
  induction k with
  | zero =>
    intro i I hi
    have e : i = g := by omega
    subst e
    refine ⟨I, ?_, layF_rfl s I, rfl, fun a _ => rfl⟩
    rw [eX11_lay_176]
    simp (disch := first | assumption | decide) only [eX11_lay_178, eX11_lay_180, eX11_lay_183, eX11_lay_184, eX11_lay_187, eX11_lay_189, eX11_lay_190, eX11_lay_191, eX11_lay_192, eX11_lay_193, eX11_lay_195, eX11_lay_197, eX11_lay_199, eX11_lay_200, eX11_lay_201, eX11_lay_202, eX11_lay_204, eX11_lay_206, eX11_lay_207, eX11_lay_209, eX11_lay_211, eX11_lay_212, eX11_lay_213, eX11_lay_214, eX11_lay_215, eX11_lay_216, eX11_lay_219, nI_le (Nat.le_refl i) (by omega), if_true]
  | succ k ih =>
    intro i I hi
    have h1 : ¬ nI g ≤ nI i := nI_ge (by omega) (by omega)
    have h2 : ¬ nI g = 0 := nI_ne0 (by omega) (by omega)
    have hb := hin i (by omega)
    have ix : nI 64 * nI s + nI c + nI i * (iI X / nI g) + nI 8 * nI i * (iI Y / nI g) = nI (64 * s + (bC X Y c g i).toNat) := (bC_idx hs hc hg (by omega) hX hY hb.1).resolve_right (by omega)
    have v2 : vp_in (nI (64 * s + (bC X Y c g i).toNat)) (mm_zl z 129) := vi (zl_129 hz) (by omega) (by decide)
    have ci : (nI (64 * s + (bC X Y c g i).toNat)).toNatClampNeg = 64 * s + (bC X Y c g i).toNat := nI_clamp (by omega)
    obtain ⟨I', g1, g2, g3, g4⟩ := ih (i + 1) (mm_up2 I 129 (64 * s + (bC X Y c g i).toNat) 1) (by omega)
    refine ⟨I', ?_, layF_trans (layF_129 s _ I 1 (by omega)) g2, g3.trans (up_row _ _ _ (by decide)), ?_⟩
    · rw [← g1, eX11_lay_176]
      simp (disch := first | assumption | decide | exact zO_120 hz | exact zT_129 hz) only [eX11_lay_178, eX11_lay_180, eX11_lay_183, eX11_lay_184, eX11_lay_187, eX11_lay_189, eX11_lay_190, eX11_lay_191, eX11_lay_192, eX11_lay_193, eX11_lay_195, eX11_lay_197, eX11_lay_199, eX11_lay_200, eX11_lay_201, eX11_lay_202, eX11_lay_204, eX11_lay_206, eX11_lay_207, eX11_lay_209, eX11_lay_211, eX11_lay_212, eX11_lay_213, eX11_lay_214, eX11_lay_215, eX11_lay_216, eX11_lay_219, h1, if_false, fM_12 hF, ix, ci, nI_1]
    · intro a ha
      rw [g4 a ha]
      have e : bR X Y c g i (k + 1) a = (decide ((a : Int) = bC X Y c g i) || bR X Y c g (i + 1) k a) := by
        unfold bR
        rw [List.range'_succ, List.any_cons]
      rw [e]
      by_cases q : (a : Int) = bC X Y c g i
      · have q' : a = (bC X Y c g i).toNat := by omega
        rw [decide_eq_true q, Bool.true_or, if_pos rfl, ← q', up_s]
        split <;> rfl
      · rw [decide_eq_false q, Bool.false_or, up_k _ _ _ _ (by omega)]
