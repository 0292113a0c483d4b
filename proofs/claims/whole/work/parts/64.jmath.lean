/-! joins: m of them, from ja to jb by jv, of weight jw; which sets agree (numbers by turns of 2^32) -/
def sol (m : Nat) (ja jb : Nat → Nat) (jv : Nat → Int) (S : Nat → Bool) (p : Nat → Int32) : Prop := ∀ j, j < m → S j = true → p (jb j) = p (ja j) + iI (jv j)
def agr (m : Nat) (ja jb : Nat → Nat) (jv : Nat → Int) (S : Nat → Bool) : Prop := ∃ p, sol m ja jb jv S p
def okJ (m : Nat) (ja jb : Nat → Nat) (jv : Nat → Int) (jw : Nat → Nat) : Prop := m ≤ 12 ∧ ∀ j, j < m → ja j < 8 ∧ jb j < 8 ∧ ¬ ja j = jb j ∧ -99 ≤ jv j ∧ jv j ≤ 99 ∧ 1 ≤ jw j ∧ jw j ≤ 50
def UF (m : Nat) (ja jb : Nat → Nat) (jv : Nat → Int) (S : Nat → Bool) (g : Nat → Nat) (x : Nat → Int32) : Prop := (∀ s, s < 8 → g s < 8) ∧ (∀ c : Nat → Int32, sol m ja jb jv S (fun s => x s + c (g s))) ∧ ∀ p, sol m ja jb jv S p → ∀ s s', s < 8 → s' < 8 → g s = g s' → p s - x s = p s' - x s'
def wth (S : Nat → Bool) (j : Nat) : Nat → Bool := fun i => S i || decide (i = j)
theorem UF_init (m : Nat) (ja jb : Nat → Nat) (jv : Nat → Int) (S : Nat → Bool) (hS : ∀ j, j < m → S j = false) : UF m ja jb jv S (fun s => s) (fun _ => 0) := by
  refine ⟨fun s h => h, fun c j hj h => ?_, fun p _ s s' _ _ e => ?_⟩
  · rw [hS j hj] at h; exact absurd h (by simp)
  · simp only [] at e; rw [e]
theorem UF_agr (m : Nat) (ja jb : Nat → Nat) (jv : Nat → Int) {S : Nat → Bool} {g : Nat → Nat} {x : Nat → Int32} (h : UF m ja jb jv S g x) : agr m ja jb jv S := ⟨_, h.2.1 (fun _ => 0)⟩
theorem sol_wth (m : Nat) (ja jb : Nat → Nat) (jv : Nat → Int) {S : Nat → Bool} {j : Nat} {p : Nat → Int32} (hj : j < m) : sol m ja jb jv (wth S j) p ↔ sol m ja jb jv S p ∧ p (jb j) = p (ja j) + iI (jv j) := by
  unfold sol wth
  constructor
  · intro h
    exact ⟨fun i hi hs => h i hi (by rw [hs]; rfl), h j hj (by simp)⟩
  · intro h i hi hs
    by_cases e : i = j
    · rw [e]; exact h.2
    · exact h.1 i hi (by simpa [e] using hs)
theorem sol_mono (m : Nat) (ja jb : Nat → Nat) (jv : Nat → Int) {S T : Nat → Bool} {p : Nat → Int32} (h : ∀ j, j < m → S j = true → T j = true) (hp : sol m ja jb jv T p) : sol m ja jb jv S p := fun j hj hs => hp j hj (h j hj hs)
theorem i32_a (a b c : Int32) (h : a + c - b = 0) : b = a + c := by grind
theorem UF_same (m : Nat) (ja jb : Nat → Nat) (jv : Nat → Int) (jw : Nat → Nat) (ok : okJ m ja jb jv jw) {S : Nat → Bool} {g : Nat → Nat} {x : Nat → Int32} {j : Nat} (hj : j < m) (h : UF m ja jb jv S g x) (e : g (jb j) = g (ja j)) (e0 : x (ja j) + iI (jv j) - x (jb j) = 0) : UF m ja jb jv (wth S j) g x := by
  refine ⟨h.1, fun c => (sol_wth m ja jb jv hj).mpr ⟨h.2.1 c, ?_⟩, fun p hp => h.2.2 p ((sol_wth m ja jb jv hj).mp hp).1⟩
  rw [e]
  grind
theorem UF_no (m : Nat) (ja jb : Nat → Nat) (jv : Nat → Int) (jw : Nat → Nat) (ok : okJ m ja jb jv jw) {S : Nat → Bool} {g : Nat → Nat} {x : Nat → Int32} {j : Nat} (hj : j < m) (h : UF m ja jb jv S g x) (e : g (jb j) = g (ja j)) (e0 : ¬ x (ja j) + iI (jv j) - x (jb j) = 0) : ¬ agr m ja jb jv (wth S j) := by
  intro ⟨p, hp⟩
  have q := (sol_wth m ja jb jv hj).mp hp
  have o := ok.2 j hj
  have r := h.2.2 p q.1 (jb j) (ja j) o.2.1 o.1 e
  have r2 := q.2
  apply e0
  rw [r2] at r
  grind
theorem UF_merge (m : Nat) (ja jb : Nat → Nat) (jv : Nat → Int) (jw : Nat → Nat) (ok : okJ m ja jb jv jw) {S : Nat → Bool} {g : Nat → Nat} {x : Nat → Int32} {j : Nat} (hj : j < m) (h : UF m ja jb jv S g x) (e : ¬ g (jb j) = g (ja j)) : UF m ja jb jv (wth S j) (fun s => if g s = g (jb j) then g (ja j) else g s) (fun s => if g s = g (jb j) then x s + (x (ja j) + iI (jv j) - x (jb j)) else x s) := by
  have o := ok.2 j hj
  refine ⟨fun s hs => ?_, fun c => (sol_wth m ja jb jv hj).mpr ⟨?_, ?_⟩, fun p hp s s' hs hs' e2 => ?_⟩
  · simp only []
    split
    · exact h.1 _ o.1
    · exact h.1 _ hs
  · have := h.2.1 (fun k => if k = g (jb j) then (x (ja j) + iI (jv j) - x (jb j)) + c (g (ja j)) else c k)
    have e3 : (fun s => (if g s = g (jb j) then x s + (x (ja j) + iI (jv j) - x (jb j)) else x s) + c (if g s = g (jb j) then g (ja j) else g s)) = (fun s => x s + (if g s = g (jb j) then (x (ja j) + iI (jv j) - x (jb j)) + c (g (ja j)) else c (g s))) := by
      funext s
      split
      · grind
      · rfl
    rw [e3]
    exact this
  · have e' : ¬ g (ja j) = g (jb j) := fun q => e q.symm
    simp only [e', if_true, if_false]
    grind
  · have q := (sol_wth m ja jb jv hj).mp hp
    have r := fun s s' hs hs' => h.2.2 p q.1 s s' hs hs'
    have r2 := q.2
    have k1 := r s (jb j) hs o.2.1
    have k2 := r s' (jb j) hs' o.2.1
    have k3 := r s (ja j) hs o.1
    have k4 := r s' (ja j) hs' o.1
    have k5 := r s s' hs hs'
    simp only [] at e2 ⊢
    by_cases c1 : g s = g (jb j)
    · by_cases c2 : g s' = g (jb j)
      · have := k5 (by rw [c1, c2])
        rw [if_pos c1, if_pos c2]
        grind
      · rw [if_pos c1, if_neg c2] at e2
        have := k4 e2.symm
        have := k1 c1
        rw [if_pos c1, if_neg c2]
        grind
    · by_cases c2 : g s' = g (jb j)
      · rw [if_neg c1, if_pos c2] at e2
        have := k3 e2
        have := k2 c2
        rw [if_neg c1, if_pos c2]
        grind
      · rw [if_neg c1, if_neg c2] at e2
        have := k5 e2
        rw [if_neg c1, if_neg c2]
        exact this
