/-! the class: what a print that is laid tells -/
theorem lH_iff (l : List (Int × Int × Nat)) (c t a : Nat) : ∀ k, (0 < lH l c t k a ↔ ∃ j, j < k ∧ pIn (hg l j).1 (hg l j).2.1 c t = true ∧ (a : Int) = pAt (hg l j).1 (hg l j).2.1 c t) := by
  intro k
  induction k with
  | zero => exact ⟨fun h => absurd h (by unfold lH; omega), fun ⟨j, h, _⟩ => absurd h (by omega)⟩
  | succ k ih =>
    rw [lH]
    split
    · rename_i e
      exact ⟨fun _ => ⟨k, by omega, e⟩, fun _ => by omega⟩
    · rename_i e
      rw [ih]
      constructor
      · rintro ⟨j, h, g⟩; exact ⟨j, by omega, g⟩
      · rintro ⟨j, h, g⟩
        by_cases q : j = k
        · subst q; exact absurd g e
        · exact ⟨j, by omega, g⟩
def unq (l : List (Int × Int × Nat)) : Prop := ∀ j j', j < l.length → j' < l.length → (hg l j).1 = (hg l j').1 → (hg l j).2.1 = (hg l j').2.1 → j = j'
theorem tu_inj {x y x' y' : Int} (t : Nat) (h1 : tuX x y t = tuX x' y' t) (h2 : tuY x y t = tuY x' y' t) : x = x' ∧ y = y' := by
  unfold tuX tuY at *
  repeat' split at h1
  all_goals repeat' split at h2
  all_goals omega
theorem pAt_inj {x y x' y' : Int} {c t : Nat} (h : pIn x y c t = true) (h' : pIn x' y' c t = true) (e : pAt x y c t = pAt x' y' c t) : x = x' ∧ y = y' := by
  have a := pAt_in h
  have b := pAt_in h'
  have gx : pX x y c t = ((c % 8 : Nat) : Int) + tuX x y t := rfl
  have gy : pY x y c t = ((c / 8 : Nat) : Int) + tuY x y t := rfl
  have gx' : pX x' y' c t = ((c % 8 : Nat) : Int) + tuX x' y' t := rfl
  have gy' : pY x' y' c t = ((c / 8 : Nat) : Int) + tuY x' y' t := rfl
  exact tu_inj t (by omega) (by omega)
theorem lH_mark {l : List (Int × Int × Nat)} (u : unq l) (c t a m : Nat) : ∀ k, k ≤ l.length → (lH l c t k a = m + 1 ↔ ∃ j, j < k ∧ pIn (hg l j).1 (hg l j).2.1 c t = true ∧ (a : Int) = pAt (hg l j).1 (hg l j).2.1 c t ∧ (hg l j).2.2 = m) := by
  intro k
  induction k with
  | zero => intro _; exact ⟨fun h => absurd h (by unfold lH; omega), fun ⟨j, h, _⟩ => absurd h (by omega)⟩
  | succ k ih =>
    intro hk
    rw [lH]
    split
    · rename_i e
      constructor
      · intro h; exact ⟨k, by omega, e.1, e.2, by omega⟩
      · rintro ⟨j, h, g1, g2, g3⟩
        have q := pAt_inj g1 e.1 (by omega)
        have := u j k (by omega) (by omega) q.1 q.2
        subst this
        omega
    · rename_i e
      rw [ih (by omega)]
      constructor
      · rintro ⟨j, h, g⟩; exact ⟨j, by omega, g⟩
      · rintro ⟨j, h, g1, g2, g3⟩
        by_cases q : j = k
        · subst q; exact absurd ⟨g1, g2⟩ e
        · exact ⟨j, by omega, g1, g2, g3⟩
theorem dH_iff (l : List (Int × Int × Nat)) (t : Nat) (lf tp : Int) (b : Nat) : ∀ k, (dH l t lf tp k b = true ↔ ∃ j, j < k ∧ (b : Int) = dPs l t j lf tp) := by
  intro k
  induction k with
  | zero => exact ⟨fun h => absurd h (by simp [dH]), fun ⟨j, h, _⟩ => absurd h (by omega)⟩
  | succ k ih =>
    rw [dH, Bool.or_eq_true, ih, decide_eq_true_eq]
    constructor
    · rintro (⟨j, h, g⟩ | g)
      · exact ⟨j, by omega, g⟩
      · exact ⟨k, by omega, g⟩
    · rintro ⟨j, h, g⟩
      by_cases q : j = k
      · subst q; exact Or.inr g
      · exact Or.inl ⟨j, by omega, g⟩
theorem dM_iff (l : List (Int × Int × Nat)) (t : Nat) (lf tp : Int) (m b : Nat) : ∀ k, (dM l t lf tp m k b = true ↔ ∃ j, j < k ∧ (b : Int) = dPs l t j lf tp ∧ (hg l j).2.2 = m) := by
  intro k
  induction k with
  | zero => exact ⟨fun h => absurd h (by simp [dM]), fun ⟨j, h, _⟩ => absurd h (by omega)⟩
  | succ k ih =>
    rw [dM, Bool.or_eq_true, ih, Bool.and_eq_true, decide_eq_true_eq, decide_eq_true_eq]
    constructor
    · rintro (⟨j, h, g⟩ | g)
      · exact ⟨j, by omega, g⟩
      · exact ⟨k, by omega, g.2, g.1⟩
    · rintro ⟨j, h, g1, g2⟩
      by_cases q : j = k
      · subst q; exact Or.inr ⟨g2, g1⟩
      · exact Or.inl ⟨j, by omega, g1, g2⟩
theorem lOk_all {l : List (Int × Int × Nat)} {c t : Nat} (h : lOk l c t l.length = true) {j : Nat} (hj : j < l.length) : pIn (hg l j).1 (hg l j).2.1 c t = true := (lOk_iff l c t l.length (Nat.le_refl _)).mp h j hj
theorem pIn_iff (l : List (Int × Int × Nat)) (c t j : Nat) : pIn (hg l j).1 (hg l j).2.1 c t = true ↔ ((0 ≤ ((c % 8 : Nat) : Int) + tX l t j ∧ ((c % 8 : Nat) : Int) + tX l t j ≤ 7) ∧ (0 ≤ ((c / 8 : Nat) : Int) + tY l t j ∧ ((c / 8 : Nat) : Int) + tY l t j ≤ 7)) := by
  unfold pIn
  rw [decide_eq_true_eq]
  exact Iff.rfl
/-- where a print may be laid -/
theorem lay_iff {l : List (Int × Int × Nat)} (ok : okH l) {c t : Nat} (hc : c < 64) : lOk l c t l.length = true ↔ ((0 ≤ ((c % 8 : Nat) : Int) + mnI (tX l t) l.length ∧ ((c % 8 : Nat) : Int) + mxI (tX l t) l.length < 8) ∧ (0 ≤ ((c / 8 : Nat) : Int) + mnI (tY l t) l.length ∧ ((c / 8 : Nat) : Int) + mxI (tY l t) l.length < 8)) := by
  have bx := mnI_b (tX l t) l.length (fun j hj => (tXY_b ok t hj).1)
  have by' := mnI_b (tY l t) l.length (fun j hj => (tXY_b ok t hj).2)
  have cx := mxI_b (tX l t) l.length (fun j hj => (tXY_b ok t hj).1)
  have cy := mxI_b (tY l t) l.length (fun j hj => (tXY_b ok t hj).2)
  rw [lOk_iff l c t l.length (Nat.le_refl _)]
  constructor
  · intro h
    have h' := fun j hj => (pIn_iff l c t j).mp (h j hj)
    have g1 := mnI_ge (tX l t) (-((c % 8 : Nat) : Int)) (by omega) l.length (fun j hj => by have := h' j hj; omega)
    have g2 := mxI_le (tX l t) (7 - ((c % 8 : Nat) : Int)) (by omega) l.length (fun j hj => by have := h' j hj; omega)
    have g3 := mnI_ge (tY l t) (-((c / 8 : Nat) : Int)) (by omega) l.length (fun j hj => by have := h' j hj; omega)
    have g4 := mxI_le (tY l t) (7 - ((c / 8 : Nat) : Int)) (by omega) l.length (fun j hj => by have := h' j hj; omega)
    omega
  · intro h j hj
    rw [pIn_iff]
    have a1 := bx.2 j hj
    have a2 := by'.2 j hj
    have a3 := cx.2 j hj
    have a4 := cy.2 j hj
    omega
theorem pAt_d {l : List (Int × Int × Nat)} {c t j : Nat} (h : pIn (hg l j).1 (hg l j).2.1 c t = true) (lf tp : Int) : pAt (hg l j).1 (hg l j).2.1 c t = (c : Int) + 8 * tp + lf + dPs l t j lf tp := by
  have a := pAt_in h
  have gx : pX (hg l j).1 (hg l j).2.1 c t = ((c % 8 : Nat) : Int) + tX l t j := rfl
  have gy : pY (hg l j).1 (hg l j).2.1 c t = ((c / 8 : Nat) : Int) + tY l t j := rfl
  rw [a.2.2.1, gx, gy]
  unfold dPs
  omega
/-- a print that is laid -/
def pLd (r rm : Nat) (l : List (Int × Int × Nat)) (c t : Nat) (F : Nat → Nat → Value) (L : Nat → Nat → Int64) : Prop := ∃ dh db sh, F r 1 = .long dh ∧ F r 2 = .long db ∧ F r 7 = .int (nI sh) ∧ (∀ a, a < 64 → lb (dh <<< ((nI sh).toInt64 &&& 63)) a = decide (0 < lH l c t l.length a)) ∧ (∀ a, a < 64 → lb (db <<< ((nI sh).toInt64 &&& 63)) a = lB l c t l.length a) ∧ ∀ m, m < 10 → ∀ a, a < 64 → lb (L rm m <<< ((nI sh).toInt64 &&& 63)) a = decide (lH l c t l.length a = m + 1)
theorem dB_lB {l : List (Int × Int × Nat)} (ok : okH l) {c t : Nat} {lf tp : Int} {sh : Nat} (hsh : (sh : Int) = (c : Int) + 8 * tp + lf) (a : Nat) (hx : ∀ j, j < l.length → lf ≤ tX l t j) (hy : ∀ j, j < l.length → tp ≤ tY l t j) (h0 : lf ≤ 0 ∧ tp ≤ 0) : ∀ k, k ≤ l.length → (∀ j, j < k → pIn (hg l j).1 (hg l j).2.1 c t = true) → (decide (sh ≤ a) && dB l t lf tp k (a - sh)) = lB l c t k a := by
  intro k
  induction k with
  | zero => intro _ _; rw [dB, lB, Bool.and_false]
  | succ k ih =>
    intro hk hp
    rw [dB, lB, ← ih (by omega) (fun j hj => hp j (by omega)), hp k (by omega), Bool.true_and]
    have hxk := hx k (by omega)
    have hyk := hy k (by omega)
    have e : (decide (sh ≤ a) && bRD (-(lf + 8 * tp)) (tX l t k) (tY l t k) (Int.gcd (tX l t k) (tY l t k)) 0 (Int.gcd (tX l t k) (tY l t k)) (a - sh)) = bR (tX l t k) (tY l t k) c (Int.gcd (tX l t k) (tY l t k)) 0 (Int.gcd (tX l t k) (tY l t k)) a := by
      by_cases q : sh ≤ a
      · rw [decide_eq_true q, Bool.true_and]
        unfold bRD bR
        congr 1
        funext j
        apply decide_eq_decide.mpr
        unfold bD bC
        omega
      · rw [decide_eq_false q, Bool.false_and]
        symm
        unfold bR
        rw [List.any_eq_false]
        intro j hj
        rw [List.mem_range'_1] at hj
        rw [decide_eq_true_eq]
        intro g
        have w1 := btw (g := Int.gcd (tX l t k) (tY l t k)) (i := j) (by omega) (Int.gcd_dvd_left (a := tX l t k) (b := tY l t k))
        have w2 := btw (g := Int.gcd (tX l t k) (tY l t k)) (i := j) (by omega) (Int.gcd_dvd_right (a := tX l t k) (b := tY l t k))
        unfold bC at g
        omega
    rw [Bool.and_or_distrib_left, e, Bool.or_comm]
    rfl
theorem pDr_laid {r rm c t : Nat} {l : List (Int × Int × Nat)} {F : Nat → Nat → Value} {L : Nat → Nat → Int64} (ok : okH l) (u : unq l) (hc : c < 64) (h : pDr r rm l t (mnI (tX l t) l.length) (mnI (tY l t) l.length) l.length F L) (hl : lOk l c t l.length = true) : pLd r rm l c t (mm_up2 F r 7 (.int (nI ((c : Int) + 8 * mnI (tY l t) l.length + mnI (tX l t) l.length).toNat))) L := by
  have bx := mnI_b (tX l t) l.length (fun j hj => (tXY_b ok t hj).1)
  have by' := mnI_b (tY l t) l.length (fun j hj => (tXY_b ok t hj).2)
  have li := (lay_iff ok hc).mp hl
  obtain ⟨dh, db, d1, d2, d3, d4, d5⟩ := h
  have sb : (((c : Int) + 8 * mnI (tY l t) l.length + mnI (tX l t) l.length).toNat : Int) = (c : Int) + 8 * mnI (tY l t) l.length + mnI (tX l t) l.length := by omega
  have s64 : ((c : Int) + 8 * mnI (tY l t) l.length + mnI (tX l t) l.length).toNat < 64 := by omega
  generalize hsh : ((c : Int) + 8 * mnI (tY l t) l.length + mnI (tX l t) l.length).toNat = sh at *
  have dp0 : ∀ j, j < l.length → 0 ≤ dPs l t j (mnI (tX l t) l.length) (mnI (tY l t) l.length) := by
    intro j hj
    have := bx.2 j hj
    have := by'.2 j hj
    unfold dPs
    omega
  refine ⟨dh, db, sh, by rw [up_k _ _ _ _ (by decide)]; exact d1, by rw [up_k _ _ _ _ (by decide)]; exact d2, up_s _ _ _ _, ?_, ?_, ?_⟩
  · intro a ha
    rw [lb_shl sh s64 dh ha, d3 _ (by omega)]
    rw [Bool.eq_iff_iff, Bool.and_eq_true, decide_eq_true_eq, dH_iff, decide_eq_true_eq, lH_iff]
    constructor
    · rintro ⟨q, j, g1, g2⟩
      refine ⟨j, g1, lOk_all hl g1, ?_⟩
      rw [pAt_d (lOk_all hl g1) (mnI (tX l t) l.length) (mnI (tY l t) l.length)]
      omega
    · rintro ⟨j, g1, g2, g3⟩
      rw [pAt_d g2 (mnI (tX l t) l.length) (mnI (tY l t) l.length)] at g3
      have := dp0 j g1
      exact ⟨by omega, j, g1, by omega⟩
  · intro a ha
    rw [lb_shl sh s64 db ha, d4 _ (by omega)]
    exact dB_lB ok sb a (fun j hj => bx.2 j hj) (fun j hj => by'.2 j hj) ⟨bx.1.2, by'.1.2⟩ l.length (Nat.le_refl _) (fun j hj => lOk_all hl hj)
  · intro m hm a ha
    rw [lb_shl sh s64 (L rm m) ha, d5 m hm _ (by omega)]
    rw [Bool.eq_iff_iff, Bool.and_eq_true, decide_eq_true_eq, dM_iff, decide_eq_true_eq, lH_mark u c t a m l.length (Nat.le_refl _)]
    constructor
    · rintro ⟨q, j, g1, g2, g3⟩
      refine ⟨j, g1, lOk_all hl g1, ?_, g3⟩
      rw [pAt_d (lOk_all hl g1) (mnI (tX l t) l.length) (mnI (tY l t) l.length)]
      omega
    · rintro ⟨j, g1, g2, g3, g4⟩
      rw [pAt_d g2 (mnI (tX l t) l.length) (mnI (tY l t) l.length)] at g3
      have := dp0 j g1
      exact ⟨by omega, j, g1, by omega, g4⟩
