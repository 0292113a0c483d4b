/-! the reference: layAll, stand -/
/-- only the rows 128 and 129 have changed -/
def layG (I0 I : Nat → Nat → Int32) : Prop := ∀ r, ¬ r = 128 → ¬ r = 129 → I r = I0 r
theorem layG_rfl (I : Nat → Nat → Int32) : layG I I := fun _ _ _ => rfl
theorem layG_trans {I0 I I' : Nat → Nat → Int32} (h : layG I0 I) (h' : layG I I') : layG I0 I' := fun r a b => (h' r a b).trans (h r a b)
theorem rmS_layG (n : Nat) (hs : Nat → List (Int × Int × Nat)) (st : Nat → Option (Nat × Nat)) {F : Nat → Nat → Value} {I0 I : Nat → Nat → Int32} (h : rmS n hs st F I0) (hf : layG I0 I) : rmS n hs st F I :=
  rmS_congr n hs st h rfl (hf _ (by decide) (by decide)) (hf _ (by decide) (by decide)) (hf _ (by decide) (by decide)) (hf _ (by decide) (by decide)) (hf _ (by decide) (by decide)) (hf _ (by decide) (by decide))
/-- sweep s is laid with its middle in c, turned by t -/
def laidAt (l : List (Int × Int × Nat)) (s c t : Nat) (I : Nat → Nat → Int32) : Prop := ∀ a, a < 64 → I 128 (64 * s + a) = nI (lH l c t l.length a) ∧ I 129 (64 * s + a) = bI (lB l c t l.length a)
theorem laidAt_F {l : List (Int × Int × Nat)} {s s' c t : Nat} {I I' : Nat → Nat → Int32} (h : laidAt l s c t I) (hf : layF s' I I') (hn : ¬ s = s') : laidAt l s c t I' := by
  intro a ha
  have g := hf.2 (64 * s + a) (by omega)
  rw [g.1, g.2]
  exact h a ha
def laidTo (n : Nat) (hs : Nat → List (Int × Int × Nat)) (st : Nat → Option (Nat × Nat)) (k : Nat) (I : Nat → Nat → Int32) : Prop := ∀ s c t, s < k → st s = some (c, t) → laidAt (hs s) s c t I
theorem rM_layAll_l (d : Nat) (z : mm_Z) (F : Nat → Nat → Value) (L : Nat → Nat → Int64) (n : Nat) (hs : Nat → List (Int × Int × Nat)) (st : Nat → Option (Nat × Nat)) (hz : zOK z) (hF : FixM F) (w : wOK n hs st) (I0 : Nat → Nat → Int32) (h : rmS n hs st F I0) : ∀ k i I, i + k = n → layG I0 I → laidTo n hs st i I → ∃ I', mm_E (d + 3) mX11_layAll 2 [.ref 120, .int (nI i)] [] (z, F, I, L) = some (none, (z, F, I', L)) ∧ layG I0 I' ∧ laidTo n hs st n I' := by
  have h8 := w.1
  have hn := h.1
  intro k
  induction k with
  | zero =>
    intro i I hi hf hI
    have e : i = n := by omega
    subst e
    refine ⟨I, ?_, hf, hI⟩
    rw [eX11_layAll_2]
    simp (disch := first | assumption | decide | exact zO_120 hz | exact zT_125 hz | exact zT_126 hz | exact bI_or _) only [eX11_layAll_3, eX11_layAll_4, eX11_layAll_7, eX11_layAll_10, eX11_layAll_11, eX11_layAll_14, eX11_layAll_15, eX11_layAll_16, eX11_layAll_17, eX11_layAll_20, eX11_layAll_21, eX11_layAll_22, eX11_layAll_23, eX11_layAll_26, eX11_layAll_27, eX11_layAll_28, eX11_layAll_29, eX11_layAll_32, eX11_layAll_33, eX11_layAll_34, eX11_layAll_37, eX11_layAll_38, eX11_layAll_41, eX11_layAll_44, hn, nI_le (Nat.le_refl i) (by omega), if_true]
  | succ k ih =>
    intro i I hi hf hI
    have h1 : ¬ nI n ≤ nI i := nI_ge (by omega) (by omega)
    have ci : (nI i).toNatClampNeg = i := nI_clamp (by omega)
    have v1 : vp_in (nI i) (mm_zl z 125) := vi (zl_125 hz) (by omega) (by decide)
    have v2 : vp_in (nI i) (mm_zl z 126) := vi (zl_126 hz) (by omega) (by decide)
    have hm := rmS_layG n hs st h hf
    cases e : st i with
    | none =>
      have e1 := hm.2.2.2.1 i (by omega) e
      obtain ⟨I', g1, g2, g3⟩ := ih (i + 1) I (by omega) hf (by
        intro s c t hs' hst
        by_cases q : s = i
        · subst q; rw [e] at hst; exact absurd hst (by simp)
        · exact hI s c t (by omega) hst)
      refine ⟨I', ?_, g2, g3⟩
      rw [← g1, eX11_layAll_2]
      simp (disch := first | assumption | decide | exact zO_120 hz | exact zT_125 hz | exact zT_126 hz | exact bI_or _) only [eX11_layAll_3, eX11_layAll_4, eX11_layAll_7, eX11_layAll_10, eX11_layAll_11, eX11_layAll_14, eX11_layAll_15, eX11_layAll_16, eX11_layAll_17, eX11_layAll_20, eX11_layAll_21, eX11_layAll_22, eX11_layAll_23, eX11_layAll_26, eX11_layAll_27, eX11_layAll_28, eX11_layAll_29, eX11_layAll_32, eX11_layAll_33, eX11_layAll_34, eX11_layAll_37, eX11_layAll_38, eX11_layAll_41, eX11_layAll_44, hn, h1, if_false, fM_5 hF, ci, e1, if_true, nI_1]
    | some p =>
      obtain ⟨c, t⟩ := p
      have e1 := hm.2.2.2.2 i c t (by omega) e
      have e2 := (w.2 i (by omega)).2.2.2 c t e
      have e3 : ¬ nI c = -1 := nI_nm1 (by omega)
      obtain ⟨I1, k1, k2, k3⟩ := rM_lay d z F L n hs st hz hF w i c t (by omega) e2.1 e2.2.1 I hm
      obtain ⟨I', g1, g2, g3⟩ := ih (i + 1) I1 (by omega) (layG_trans hf k2.1) (by
        intro s c' t' hs' hst
        by_cases q : s = i
        · subst q; rw [e] at hst
          have q1 : (c, t) = (c', t') := Option.some.inj hst
          have q2 := congrArg Prod.fst q1
          have q3 := congrArg Prod.snd q1
          simp only at q2 q3
          subst q2; subst q3
          exact k3
        · exact laidAt_F (hI s c' t' (by omega) hst) k2 q)
      refine ⟨I', ?_, g2, g3⟩
      rw [← g1, eX11_layAll_2]
      simp (disch := first | assumption | decide | exact zO_120 hz | exact zT_125 hz | exact zT_126 hz | exact bI_or _) only [eX11_layAll_3, eX11_layAll_4, eX11_layAll_7, eX11_layAll_10, eX11_layAll_11, eX11_layAll_14, eX11_layAll_15, eX11_layAll_16, eX11_layAll_17, eX11_layAll_20, eX11_layAll_21, eX11_layAll_22, eX11_layAll_23, eX11_layAll_26, eX11_layAll_27, eX11_layAll_28, eX11_layAll_29, eX11_layAll_32, eX11_layAll_33, eX11_layAll_34, eX11_layAll_37, eX11_layAll_38, eX11_layAll_41, eX11_layAll_44, hn, h1, if_false, fM_5 hF, fM_6 hF, ci, e1.1, e1.2, e3, k1, mm_bd_i, nI_1]
theorem rM_layAll (d : Nat) (z : mm_Z) (F : Nat → Nat → Value) (L : Nat → Nat → Int64) (n : Nat) (hs : Nat → List (Int × Int × Nat)) (st : Nat → Option (Nat × Nat)) (hz : zOK z) (hF : FixM F) (w : wOK n hs st) (I : Nat → Nat → Int32) (h : rmS n hs st F I) : ∃ I', mm_E (d + 3) mX11_layAll 0 [.ref 120, uu] [] (z, F, I, L) = some (none, (z, F, I', L)) ∧ layG I I' ∧ laidTo n hs st n I' := by
  obtain ⟨I', g1, g2, g3⟩ := rM_layAll_l d z F L n hs st hz hF w I h n 0 I (by omega) (layG_rfl I) (fun s c t hs' _ => absurd hs' (by omega))
  refine ⟨I', ?_, g2, g3⟩
  rw [← g1]
  simp (disch := first | assumption | decide | exact zO_120 hz | exact zT_125 hz | exact zT_126 hz | exact bI_or _) only [eX11_layAll_0, eX11_layAll_1]
  rfl
theorem lOk_iff (l : List (Int × Int × Nat)) (c t : Nat) : ∀ k, k ≤ l.length → (lOk l c t k = true ↔ ∀ j, j < k → pIn (hg l j).1 (hg l j).2.1 c t = true) := by
  intro k
  induction k with
  | zero => intro _; exact ⟨fun _ j hj => absurd hj (by omega), fun _ => rfl⟩
  | succ k ih =>
    intro hk
    rw [lOk, Bool.and_eq_true, ih (by omega)]
    constructor
    · intro h j hj
      by_cases e : j = k
      · subst e; exact h.2
      · exact h.1 j (by omega)
    · intro h
      exact ⟨fun j hj => h j (by omega), h k (by omega)⟩
theorem lOk_mem {l : List (Int × Int × Nat)} {c t : Nat} (h : lOk l c t l.length = true) (q : Int × Int × Nat) (hq : q ∈ l) : pIn q.1 q.2.1 c t = true := by
  obtain ⟨k, hk, ek⟩ := List.mem_iff_getElem.mp hq
  have e4 : hg l k = q := by
    unfold hg
    rw [List.getD_eq_getElem?_getD, List.getElem?_eq_getElem hk]
    exact ek
  have := (lOk_iff l c t l.length (Nat.le_refl _)).mp h k hk
  rw [e4] at this
  exact this
