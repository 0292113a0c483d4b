/-! the sweeps: n of them, hs s the hits of sweep s (x, y, mark), st s where it stands (cell, turn); the reference's first calls -/
theorem up_s {α : Type} (f : Nat → Nat → α) (a b : Nat) (v : α) : mm_up2 f a b v a b = v := by unfold mm_up2; rw [if_pos ⟨rfl, rfl⟩]
theorem up_r {α : Type} (f : Nat → Nat → α) {a x : Nat} (b y : Nat) (v : α) (h : ¬ x = a) : mm_up2 f a b v x y = f x y := by unfold mm_up2; rw [if_neg (fun q => h q.1)]
theorem up_k {α : Type} (f : Nat → Nat → α) (a x : Nat) {b y : Nat} (v : α) (h : ¬ y = b) : mm_up2 f a b v x y = f x y := by unfold mm_up2; rw [if_neg (fun q => h q.2)]
theorem up_row {α : Type} (f : Nat → Nat → α) {a x : Nat} (b : Nat) (v : α) (h : ¬ x = a) : mm_up2 f a b v x = f x := funext (fun y => up_r f b y v h)
def udf {α : Type} (f : Nat → α) (a : Nat) (v : α) : Nat → α := fun x => if x = a then v else f x
theorem udf_s {α : Type} (f : Nat → α) (a : Nat) (v : α) : udf f a v a = v := by unfold udf; rw [if_pos rfl]
theorem udf_n {α : Type} (f : Nat → α) {a x : Nat} (v : α) (h : ¬ x = a) : udf f a v x = f x := by unfold udf; rw [if_neg h]
theorem vi {z : mm_Z} {r N i : Nat} (h : mm_zl z r = N) (hi : i < N) (hN : N < 2 ^ 31) : vp_in (nI i) (mm_zl z r) := by rw [h]; exact vp_in_nI hi hN
/-- the sweeps are as the document has them -/
def wOK (n : Nat) (hs : Nat → List (Int × Int × Nat)) (st : Nat → Option (Nat × Nat)) : Prop := n ≤ 8 ∧ ∀ s, s < n → (hs s).length ≤ 16 ∧ (∀ q, q ∈ hs s → (-7 ≤ q.1 ∧ q.1 ≤ 7) ∧ (-7 ≤ q.2.1 ∧ q.2.1 ≤ 7) ∧ q.2.2 ≤ 9 ∧ ¬ (q.1 = 0 ∧ q.2.1 = 0)) ∧ ((hs s).map (fun q => (q.1, q.2.1))).Nodup ∧ (∀ c t, st s = some (c, t) → c < 64 ∧ t < 4 ∧ ∀ q, q ∈ hs s → pIn q.1 q.2.1 c t = true)
/-- how the reference holds them -/
def hg (l : List (Int × Int × Nat)) (k : Nat) : Int × Int × Nat := l.getD k (0, 0, 0)
def rmS (n : Nat) (hs : Nat → List (Int × Int × Nat)) (st : Nat → Option (Nat × Nat)) (F : Nat → Nat → Value) (I : Nat → Nat → Int32) : Prop := F 120 0 = .int (nI n) ∧ (∀ s, s < n → I 121 s = nI (hs s).length) ∧ (∀ s k, s < n → k < (hs s).length → I 122 (16 * s + k) = iI (hg (hs s) k).1 ∧ I 123 (16 * s + k) = iI (hg (hs s) k).2.1 ∧ I 124 (16 * s + k) = nI (hg (hs s) k).2.2) ∧ (∀ s, s < n → st s = none → I 125 s = -1) ∧ (∀ s c t, s < n → st s = some (c, t) → I 125 s = nI c ∧ I 126 s = nI t)
theorem hg_mem {l : List (Int × Int × Nat)} {k : Nat} (h : k < l.length) : hg l k ∈ l := by
  unfold hg
  rw [List.getD_eq_getElem?_getD, List.getElem?_eq_getElem h]
  exact List.getElem_mem h
theorem rmS_congr (n : Nat) (hs : Nat → List (Int × Int × Nat)) (st : Nat → Option (Nat × Nat)) {F F' : Nat → Nat → Value} {I I' : Nat → Nat → Int32} (h : rmS n hs st F I) (hF : F' 120 0 = F 120 0) (h1 : I' 121 = I 121) (h2 : I' 122 = I 122) (h3 : I' 123 = I 123) (h4 : I' 124 = I 124) (h5 : I' 125 = I 125) (h6 : I' 126 = I 126) : rmS n hs st F' I' := by
  unfold rmS at *
  rw [hF, h1, h2, h3, h4, h5, h6]
  exact h
theorem rM_sweep_full (d : Nat) (z : mm_Z) (F : Nat → Nat → Value) (I : Nat → Nat → Int32) (L : Nat → Nat → Int64) (hz : zOK z) (hn : F 120 0 = .int (nI 8)) : mm_E d mX11_sweep 0 [.ref 120] [] (z, F, I, L) = some (some (.int (-5)), (z, F, I, L)) := by
  simp (disch := first | assumption | decide | exact zO_120 hz) only [eX11_sweep_0, eX11_sweep_1, eX11_sweep_4, eX11_sweep_6, eX11_sweep_9, eX11_sweep_11, eX11_sweep_12, eX11_sweep_13, eX11_sweep_16, eX11_sweep_17, eX11_sweep_20, eX11_sweep_21, eX11_sweep_22, eX11_sweep_23, eX11_sweep_26, eX11_sweep_27, eX11_sweep_30, eX11_sweep_31, eX11_sweep_32, eX11_sweep_33, eX11_sweep_34, eX11_sweep_37, eX11_sweep_38, eX11_sweep_39, eX11_sweep_42, eX11_sweep_43, eX11_sweep_46, eX11_sweep_47, eX11_sweep_48, hn, not_true_eq_false, if_false]
theorem rM_sweep (d : Nat) (z : mm_Z) (F : Nat → Nat → Value) (I : Nat → Nat → Int32) (L : Nat → Nat → Int64) (n : Nat) (hz : zOK z) (hF : FixM F) (hn : F 120 0 = .int (nI n)) (h8 : n < 8) : mm_E d mX11_sweep 0 [.ref 120] [] (z, F, I, L) = some (some (.int (nI n)), (z, mm_up2 F 120 0 (.int (nI (n + 1))), mm_up2 (mm_up2 I 121 n 0) 125 n (-1), L)) := by
  have e : ¬ nI n = nI 8 := fun h => by rw [nI_eq (by omega) (by decide)] at h; omega
  have c : (nI n).toNatClampNeg = n := nI_clamp (by omega)
  simp (disch := first | assumption | decide | exact zO_120 hz | exact zT_121 hz | exact zT_125 hz | exact vi (zl_121 hz) h8 (by decide) | exact vi (zl_125 hz) h8 (by decide)) only [eX11_sweep_0, eX11_sweep_1, eX11_sweep_4, eX11_sweep_6, eX11_sweep_9, eX11_sweep_11, eX11_sweep_12, eX11_sweep_13, eX11_sweep_16, eX11_sweep_17, eX11_sweep_20, eX11_sweep_21, eX11_sweep_22, eX11_sweep_23, eX11_sweep_26, eX11_sweep_27, eX11_sweep_30, eX11_sweep_31, eX11_sweep_32, eX11_sweep_33, eX11_sweep_34, eX11_sweep_37, eX11_sweep_38, eX11_sweep_39, eX11_sweep_42, eX11_sweep_43, eX11_sweep_46, eX11_sweep_47, eX11_sweep_48, hn, e, not_false_eq_true, if_true, fM_1 hF, fM_5 hF, c, nI_1, up_s, nI_pred]
theorem rmS_sweep (n : Nat) (hs : Nat → List (Int × Int × Nat)) (st : Nat → Option (Nat × Nat)) {F : Nat → Nat → Value} {I : Nat → Nat → Int32} (h : rmS n hs st F I) : rmS (n + 1) (udf hs n []) (udf st n none) (mm_up2 F 120 0 (.int (nI (n + 1)))) (mm_up2 (mm_up2 I 121 n 0) 125 n (-1)) := by
  obtain ⟨h0, h1, h2, h3, h4⟩ := h
  refine ⟨up_s _ _ _ _, ?_, ?_, ?_, ?_⟩
  · intro s hs'
    rw [up_r _ _ _ _ (by decide)]
    by_cases e : s = n
    · subst e; rw [up_s, udf_s]; rfl
    · rw [up_k _ _ _ _ e, udf_n _ _ e]; exact h1 s (by omega)
  · intro s k hs' hk
    by_cases e : s = n
    · subst e; rw [udf_s] at hk; exact absurd hk (by simp)
    · rw [udf_n _ _ e] at hk ⊢
      rw [up_r _ _ _ _ (by decide), up_r _ _ _ _ (by decide), up_r _ _ _ _ (by decide), up_r _ _ _ _ (by decide), up_r _ _ _ _ (by decide), up_r _ _ _ _ (by decide)]
      exact h2 s k (by omega) hk
  · intro s hs' hn
    by_cases e : s = n
    · subst e; rw [up_s]
    · rw [udf_n _ _ e] at hn
      rw [up_k _ _ _ _ e, up_r _ _ _ _ (by decide)]
      exact h3 s (by omega) hn
  · intro s c t hs' hn
    by_cases e : s = n
    · subst e; rw [udf_s] at hn; exact absurd hn (by simp)
    · rw [udf_n _ _ e] at hn
      rw [up_k _ _ _ _ e, up_r _ _ _ _ (by decide), up_r _ _ _ _ (by decide), up_r _ _ _ _ (by decide)]
      exact h4 s c t (by omega) hn
theorem wOK_sweep (n : Nat) (hs : Nat → List (Int × Int × Nat)) (st : Nat → Option (Nat × Nat)) (h : wOK n hs st) (h8 : n < 8) : wOK (n + 1) (udf hs n []) (udf st n none) := by
  refine ⟨by omega, ?_⟩
  intro s hs'
  by_cases e : s = n
  · subst e
    rw [udf_s, udf_s]
    exact ⟨by simp, by simp, by simp, by simp⟩
  · rw [udf_n _ _ e, udf_n _ _ e]
    exact h.2 s (by omega)
