/-! the least sum of distances: what it is; as it is reached over sets -/
def inj (p q : Nat) (f : Nat → Nat) : Prop := (∀ i, i < p → f i < q) ∧ ∀ i j, i < p → j < p → f i = f j → i = j
def sD (D : Nat → Nat → Nat) (f : Nat → Nat) (p : Nat) : Nat := sumT (fun i => D i (f i)) p
def ltP (p q : Nat) (D : Nat → Nat → Nat) (v : Nat) : Prop := (∃ f, inj p q f ∧ v = sD D f p) ∧ ∀ f, inj p q f → v ≤ sD D f p
theorem ltP_uniq {p q : Nat} {D : Nat → Nat → Nat} {v v' : Nat} (h : ltP p q D v) (h' : ltP p q D v') : v = v' := by
  obtain ⟨⟨f, f1, f2⟩, f3⟩ := h
  obtain ⟨⟨g, g1, g2⟩, g3⟩ := h'
  have a := f3 g g1
  have b := g3 f f1
  omega
theorem sumT_uq {f : Nat → Nat} : ∀ k, (∀ i j, i < k → j < k → ¬ f i = 0 → ¬ f j = 0 → i = j) → (sumT f k = 0 ∧ ∀ i, i < k → f i = 0) ∨ ∃ i, i < k ∧ sumT f k = f i ∧ ¬ f i = 0 := by
  intro k
  induction k with
  | zero => intro _; exact Or.inl ⟨rfl, fun i hi => absurd hi (by omega)⟩
  | succ k ih =>
    intro h
    rcases ih (fun i j hi hj => h i j (by omega) (by omega)) with ⟨a, b⟩ | ⟨i, i1, i2, i3⟩
    · by_cases c : f k = 0
      · refine Or.inl ⟨by rw [sumT, a, c], fun i hi => ?_⟩
        by_cases e : i = k
        · rw [e]; exact c
        · exact b i (by omega)
      · exact Or.inr ⟨k, by omega, by rw [sumT, a]; omega, c⟩
    · by_cases c : f k = 0
      · exact Or.inr ⟨i, by omega, by rw [sumT, i2, c]; omega, i3⟩
      · have := h i k (by omega) (by omega) i3 c
        omega
theorem sumT_full {f : Nat → Nat} : ∀ k, (∀ j, j < k → f j ≤ 1) → sumT f k = k → ∀ j, j < k → f j = 1 := by
  intro k
  induction k with
  | zero => intro _ _ j hj; omega
  | succ k ih =>
    intro h e j hj
    rw [sumT] at e
    have a := h k (by omega)
    have b : sumT f k ≤ k := by
      have : sumT f k ≤ sumT (fun _ => 1) k := sumT_mono k (fun j hj => h j (by omega))
      have c : ∀ n, sumT (fun _ => 1) n = n := by
        intro n
        induction n with
        | zero => rfl
        | succ n ihn => rw [sumT, ihn]
      rw [c] at this; exact this
    by_cases q : j = k
    · rw [q]; omega
    · exact ih (fun j hj => h j (by omega)) (by omega) j (by omega)
theorem sumT_const1 (n : Nat) : sumT (fun _ => 1) n = n := by
  induction n with
  | zero => rfl
  | succ n ihn => rw [sumT, ihn]
theorem inj_sur {p : Nat} {f : Nat → Nat} (h : inj p p f) : ∀ j, j < p → ∃ i, i < p ∧ f i = j := by
  have uq : ∀ j, (sumT (fun i => if j = f i then 1 else 0) p = 0 ∧ ∀ i, i < p → (if j = f i then 1 else 0) = 0) ∨ ∃ i, i < p ∧ sumT (fun i => if j = f i then 1 else 0) p = (if j = f i then 1 else 0) ∧ ¬ (if j = f i then 1 else 0) = 0 := fun j => sumT_uq p (fun a b ha hb qa qb => by
    by_cases c1 : j = f a
    · by_cases c2 : j = f b
      · exact h.2 a b ha hb (c1.symm.trans c2)
      · rw [if_neg c2] at qb; exact absurd rfl qb
    · rw [if_neg c1] at qa; exact absurd rfl qa)
  have tot : sumT (fun j => sumT (fun i => if j = f i then 1 else 0) p) p = p := by
    rw [sumT_swap (fun j i => if j = f i then 1 else 0) p p]
    have : ∀ i, i < p → sumT (fun m => if m = f i then 1 else 0) p = 1 := fun i hi => by rw [sumT_one, if_pos (h.1 i hi)]
    rw [sumT_congr (g := fun _ => 1) p this]
    exact sumT_const1 p
  intro j hj
  have one := sumT_full p (fun j _ => by
    rcases uq j with ⟨a, _⟩ | ⟨i, _, b, _⟩
    · rw [a]; omega
    · rw [b]; split <;> omega) tot j hj
  rcases uq j with ⟨a, _⟩ | ⟨i, i1, b, c⟩
  · rw [a] at one; exact absurd one (by omega)
  · refine ⟨i, i1, ?_⟩
    by_cases e : j = f i
    · exact e.symm
    · rw [if_neg e] at c; exact absurd rfl c
theorem inj_inv {p : Nat} {f : Nat → Nat} (h : inj p p f) (D : Nat → Nat → Nat) : ∃ g, inj p p g ∧ sD (fun i j => D j i) g p = sD D f p := by
  have su := inj_sur h
  obtain ⟨g, hg⟩ : ∃ g : Nat → Nat, ∀ j, j < p → g j < p ∧ f (g j) = j := by
    refine ⟨fun j => if q : ∃ i, i < p ∧ f i = j then Classical.choose q else 0, fun j hj => ?_⟩
    have q := su j hj
    have e : (if q : ∃ i, i < p ∧ f i = j then Classical.choose q else 0) = Classical.choose q := dif_pos q
    dsimp only
    rw [e]
    exact Classical.choose_spec q
  refine ⟨g, ⟨fun i hi => (hg i hi).1, fun i j hi hj e => by rw [← (hg i hi).2, ← (hg j hj).2, e]⟩, ?_⟩
  unfold sD
  have a : sumT (fun i => D i (f i)) p = sumT (fun i => sumT (fun j => if j = f i then D i (f i) else 0) p) p := sumT_congr p (fun i hi => by rw [sumT_one, if_pos (h.1 i hi)])
  rw [a, sumT_swap (fun i j => if j = f i then D i (f i) else 0) p p]
  apply sumT_congr
  intro j hj
  have b : sumT (fun i => if j = f i then D i (f i) else 0) p = sumT (fun i => if i = g j then D (g j) j else 0) p := sumT_congr p (fun i hi => by
    by_cases c : i = g j
    · rw [if_pos c, c, (hg j hj).2, if_pos rfl]
    · rw [if_neg c, if_neg (fun e => c (h.2 i (g j) hi (hg j hj).1 (by rw [(hg j hj).2]; exact e.symm)))])
  show D (g j) j = _
  rw [b, sumT_one, if_pos (hg j hj).1]
theorem ltP_swap {p : Nat} {D : Nat → Nat → Nat} {v : Nat} (h : ltP p p D v) : ltP p p (fun i j => D j i) v := by
  obtain ⟨⟨f, f1, f2⟩, f3⟩ := h
  refine ⟨?_, fun g hg => ?_⟩
  · obtain ⟨g, g1, g2⟩ := inj_inv f1 D
    exact ⟨g, g1, f2.trans g2.symm⟩
  · obtain ⟨g', g1, g2⟩ := inj_inv hg (fun i j => D j i)
    rw [← g2]
    exact f3 g' g1
/-- the set that f takes -/
def uOf (f : Nat → Nat) : Nat → Nat
  | 0 => 0
  | m + 1 => uOf f m ||| 2 ^ f m
def pop (u : Nat) : Nat := sumT (fun j => if u.testBit j = true then 1 else 0) 6
theorem or_b : ∀ u, u < 64 → ∀ j, j < 6 → (u ||| 2 ^ j) < 64 ∧ ∀ k, k < 6 → (u ||| 2 ^ j).testBit k = (u.testBit k || decide (k = j)) := by decide +kernel
theorem or_n : ∀ u, u < 64 → ∀ j, j < 6 → u.testBit j = false → u < (u ||| 2 ^ j) ∧ pop (u ||| 2 ^ j) = pop u + 1 := by decide +kernel
theorem u_lt {q : Nat} (hq : q ≤ 6) {f : Nat → Nat} : ∀ m, (∀ i, i < m → f i < q) → uOf f m < 2 ^ q := by
  intro m
  induction m with
  | zero => intro _; exact Nat.two_pow_pos q
  | succ m ih =>
    intro h
    exact Nat.or_lt_two_pow (ih (fun i hi => h i (by omega))) (Nat.pow_lt_pow_right (by omega) (h m (by omega)))
theorem pow6 {q : Nat} (hq : q ≤ 6) : 2 ^ q ≤ 64 := Nat.pow_le_pow_right (n := 2) (by omega) hq
theorem u_bit {q : Nat} (hq : q ≤ 6) {f : Nat → Nat} : ∀ m, (∀ i, i < m → f i < q) → ∀ j, j < 6 → ((uOf f m).testBit j = true ↔ ∃ i, i < m ∧ f i = j) := by
  intro m
  induction m with
  | zero => intro _ j _; exact ⟨fun h => absurd h (by rw [uOf]; simp), fun ⟨i, h, _⟩ => absurd h (by omega)⟩
  | succ m ih =>
    intro h j hj
    have a := u_lt hq m (fun i hi => h i (by omega))
    have p6 := pow6 hq
    rw [uOf, (or_b _ (by omega) (f m) (by have := h m (by omega); omega)).2 j hj, Bool.or_eq_true, decide_eq_true_eq, ih (fun i hi => h i (by omega)) j hj]
    constructor
    · rintro (⟨i, i1, i2⟩ | e)
      · exact ⟨i, by omega, i2⟩
      · exact ⟨m, by omega, e.symm⟩
    · rintro ⟨i, i1, i2⟩
      by_cases c : i = m
      · rw [c] at i2; exact Or.inr i2.symm
      · exact Or.inl ⟨i, by omega, i2⟩
theorem u_no {q : Nat} (hq : q ≤ 6) {f : Nat → Nat} {m : Nat} (h : inj (m + 1) q f) : (uOf f m).testBit (f m) = false := by
  have fm := h.1 m (by omega)
  cases e : (uOf f m).testBit (f m) with
  | false => rfl
  | true =>
    obtain ⟨i, i1, i2⟩ := (u_bit hq m (fun i hi => h.1 i (by omega)) (f m) (by omega)).mp e
    have := h.2 i m (by omega) (by omega) i2
    omega
theorem inj_pre {p q m : Nat} {f : Nat → Nat} (h : inj p q f) (hm : m ≤ p) : inj m q f := ⟨fun i hi => h.1 i (by omega), fun i j hi hj => h.2 i j (by omega) (by omega)⟩
theorem u_pop {q : Nat} (hq : q ≤ 6) {f : Nat → Nat} : ∀ m, inj m q f → pop (uOf f m) = m := by
  intro m
  induction m with
  | zero => intro _; show pop 0 = 0; decide
  | succ m ih =>
    intro h
    have a := u_lt hq m (fun i hi => h.1 i (by omega))
    have p6 := pow6 hq
    rw [uOf, (or_n _ (by omega) (f m) (by have := h.1 m (by omega); omega) (u_no hq h)).2, ih (inj_pre h (by omega))]
theorem sD_s (D : Nat → Nat → Nat) (f : Nat → Nat) (m : Nat) : sD D f (m + 1) = sD D f m + D m (f m) := rfl
theorem sD_u (D : Nat → Nat → Nat) (f : Nat → Nat) (m j : Nat) : sD D (udf f m j) m = sD D f m := sumT_congr m (fun i hi => by rw [udf_n _ _ (by omega)])
theorem u_u (f : Nat → Nat) (m j : Nat) : ∀ k, k ≤ m → uOf (udf f m j) k = uOf f k := by
  intro k
  induction k with
  | zero => intro _; rfl
  | succ k ih => intro h; rw [uOf, uOf, ih (by omega), udf_n _ _ (by omega)]
theorem inj_ext {q : Nat} (hq : q ≤ 6) {f : Nat → Nat} {m j : Nat} (h : inj m q f) (hj : j < q) (hb : (uOf f m).testBit j = false) : inj (m + 1) q (udf f m j) := by
  have no : ∀ i, i < m → ¬ f i = j := fun i hi e => by
    have := (u_bit hq m h.1 j (by omega)).mpr ⟨i, hi, e⟩
    rw [hb] at this; exact Bool.noConfusion this
  refine ⟨fun i hi => ?_, fun i k hi hk e => ?_⟩
  · by_cases c : i = m
    · rw [c, udf_s]; exact hj
    · rw [udf_n _ _ c]; exact h.1 i (by omega)
  · by_cases c : i = m
    · by_cases c2 : k = m
      · omega
      · rw [c, udf_s, udf_n _ _ c2] at e; exact absurd e.symm (no k (by omega))
    · by_cases c2 : k = m
      · rw [c2, udf_s, udf_n _ _ c] at e; exact absurd e (no i (by omega))
      · rw [udf_n _ _ c, udf_n _ _ c2] at e; exact h.2 i k (by omega) (by omega) e
def okA (p q : Nat) (D : Nat → Nat → Nat) (t jj : Nat) (A : Nat → Nat) : Prop := (∀ u, u < 2 ^ q → A u ≤ 1000) ∧ A 0 = 0 ∧ (∀ u, u < 2 ^ q → A u < 1000 → ∃ f m, m ≤ p ∧ inj m q f ∧ u = uOf f m ∧ A u = sD D f m) ∧ ∀ f m, m < p → inj (m + 1) q f → (uOf f m < t ∨ (uOf f m = t ∧ f m < jj)) → A (uOf f (m + 1)) ≤ sD D f (m + 1)
/-- a set whose parts are all done -/
theorem okA_at {p q : Nat} {D : Nat → Nat → Nat} {t jj : Nat} {A : Nat → Nat} (hq : q ≤ 6) (h : okA p q D t jj A) (f : Nat → Nat) (m : Nat) (hm : m ≤ p) (hf : inj m q f) (hu : uOf f m ≤ t) : A (uOf f m) ≤ sD D f m := by
  cases m with
  | zero => show A 0 ≤ _; rw [h.2.1]; omega
  | succ m =>
    apply h.2.2.2 f m (by omega) hf
    have a := u_lt hq m (fun i hi => hf.1 i (by omega))
    have p6 := pow6 hq
    have := (or_n _ (by omega) (f m) (by have := hf.1 m (by omega); omega) (u_no hq hf)).1
    rw [uOf] at hu
    omega
theorem okA_in {p q : Nat} {D : Nat → Nat → Nat} {t j : Nat} {A : Nat → Nat} (hq : q ≤ 6) (h : okA p q D t j A) (ht : t < 2 ^ q) (hj : j < q) (hp : pop t < p) (hb : t.testBit j = false) : okA p q D t (j + 1) (udf A (t ||| 2 ^ j) (min (A (t ||| 2 ^ j)) (A t + D (pop t) j))) := by
  have p6 := pow6 hq
  have tn := (or_n t (by omega) j (by omega) hb).1
  have tl : (t ||| 2 ^ j) < 2 ^ q := Nat.or_lt_two_pow ht (Nat.pow_lt_pow_right (by omega) hj)
  obtain ⟨h1, h2, h3, h4⟩ := h
  have le : ∀ u, udf A (t ||| 2 ^ j) (min (A (t ||| 2 ^ j)) (A t + D (pop t) j)) u ≤ A u := fun u => by
    by_cases c : u = (t ||| 2 ^ j)
    · rw [c, udf_s]; omega
    · rw [udf_n _ _ c]; omega
  refine ⟨fun u hu => Nat.le_trans (le u) (h1 u hu), by rw [udf_n _ _ (by omega)]; exact h2, fun u hu hl => ?_, fun f m hm hf hc => ?_⟩
  · by_cases c : u = (t ||| 2 ^ j)
    · rw [c, udf_s] at hl ⊢
      by_cases k : A (t ||| 2 ^ j) ≤ A t + D (pop t) j
      · rw [Nat.min_eq_left k] at hl ⊢
        exact h3 _ tl hl
      · rw [Nat.min_eq_right (by omega)] at hl ⊢
        obtain ⟨f, m, m1, m2, m3, m4⟩ := h3 t ht (by omega)
        have pm := u_pop hq m m2
        rw [← m3] at pm
        have ie := inj_ext hq m2 hj (by rw [← m3]; exact hb)
        refine ⟨udf f m j, m + 1, by omega, ie, ?_, ?_⟩
        · rw [uOf, u_u f m j m (Nat.le_refl _), ← m3, udf_s]
        · rw [sD_s, sD_u, udf_s, ← m4, pm]
    · rw [udf_n _ _ c] at hl ⊢
      exact h3 u hu hl
  · by_cases e : uOf f m = t ∧ f m = j
    · have a : A t ≤ sD D f m := by
        have := okA_at hq ⟨h1, h2, h3, h4⟩ f m (by omega) (inj_pre hf (by omega)) (by omega)
        rw [e.1] at this; exact this
      have pm := u_pop hq m (inj_pre hf (by omega))
      rw [e.1] at pm
      rw [uOf, e.1, e.2, udf_s, sD_s, e.2, ← pm]
      rw [← pm] at a
      omega
    · exact Nat.le_trans (le _) (h4 f m hm hf (by omega))
theorem okA_skip {p q : Nat} {D : Nat → Nat → Nat} {t j : Nat} {A : Nat → Nat} (hq : q ≤ 6) (h : okA p q D t j A) (hb : t.testBit j = true) : okA p q D t (j + 1) A := by
  obtain ⟨h1, h2, h3, h4⟩ := h
  refine ⟨h1, h2, h3, fun f m hm hf hc => h4 f m hm hf ?_⟩
  by_cases e : uOf f m = t ∧ f m = j
  · have := u_no hq hf
    rw [e.1, e.2, hb] at this
    exact Bool.noConfusion this
  · omega
theorem okA_next {p q : Nat} {D : Nat → Nat → Nat} {t : Nat} {A : Nat → Nat} (h : okA p q D t q A) : okA p q D (t + 1) 0 A := by
  obtain ⟨h1, h2, h3, h4⟩ := h
  refine ⟨h1, h2, h3, fun f m hm hf hc => h4 f m hm hf ?_⟩
  have := hf.1 m (by omega)
  omega
theorem okA_full {p q : Nat} {D : Nat → Nat → Nat} {t : Nat} {A : Nat → Nat} (hq : q ≤ 6) (h : okA p q D t 0 A) (hp : ¬ pop t < p) : okA p q D (t + 1) 0 A := by
  obtain ⟨h1, h2, h3, h4⟩ := h
  refine ⟨h1, h2, h3, fun f m hm hf hc => h4 f m hm hf ?_⟩
  by_cases e : uOf f m = t
  · have pm := u_pop hq m (inj_pre hf (by omega))
    rw [e] at pm
    omega
  · omega
def okB (p q : Nat) (D : Nat → Nat → Nat) (t b : Nat) : Prop := b ≤ 1000 ∧ (b < 1000 → ∃ f, inj p q f ∧ b = sD D f p) ∧ ∀ f, inj p q f → uOf f p < t → b ≤ sD D f p
theorem okB_yes {p q : Nat} {D : Nat → Nat → Nat} {t b : Nat} {A : Nat → Nat} (hq : q ≤ 6) (h : okA p q D t 0 A) (hb : okB p q D t b) (ht : t < 2 ^ q) (hp : pop t = p) : okB p q D (t + 1) (min b (A t)) := by
  obtain ⟨b1, b2, b3⟩ := hb
  refine ⟨by omega, fun hl => ?_, fun f hf hu => ?_⟩
  · by_cases k : b ≤ A t
    · rw [Nat.min_eq_left k] at hl ⊢; exact b2 hl
    · rw [Nat.min_eq_right (by omega)] at hl ⊢
      obtain ⟨f, m, m1, m2, m3, m4⟩ := h.2.2.1 t ht hl
      have pm := u_pop hq m m2
      rw [← m3, hp] at pm
      subst pm
      exact ⟨f, m2, m4⟩
  · by_cases e : uOf f p = t
    · have := okA_at hq h f p (Nat.le_refl _) hf (by omega)
      rw [e] at this
      omega
    · have := b3 f hf (by omega)
      omega
theorem okB_no {p q : Nat} {D : Nat → Nat → Nat} {t b : Nat} (hq : q ≤ 6) (hb : okB p q D t b) (hp : ¬ pop t = p) : okB p q D (t + 1) b := by
  obtain ⟨b1, b2, b3⟩ := hb
  refine ⟨b1, b2, fun f hf hu => b3 f hf ?_⟩
  by_cases e : uOf f p = t
  · have pm := u_pop hq p hf
    rw [e] at pm
    exact absurd pm hp
  · omega
theorem sD_le {D : Nat → Nat → Nat} (hD : ∀ i j, D i j ≤ 14) (f : Nat → Nat) (p : Nat) : sD D f p ≤ 14 * p := sumT_le _ 14 (fun j => hD j (f j)) p
theorem okB_end {p q : Nat} {D : Nat → Nat → Nat} {b : Nat} (hq : q ≤ 6) (hpq : p ≤ q) (hD : ∀ i j, D i j ≤ 14) (hb : okB p q D (2 ^ q) b) : ltP p q D b := by
  obtain ⟨b1, b2, b3⟩ := hb
  have all : ∀ f, inj p q f → b ≤ sD D f p := fun f hf => b3 f hf (u_lt hq p hf.1)
  have idi : inj p q (fun i => i) := ⟨fun i hi => by show i < q; omega, fun i j _ _ e => e⟩
  have := all _ idi
  have := sD_le hD (fun i => i) p
  exact ⟨b2 (by omega), all⟩
theorem okB_0 {p q : Nat} (hq : q ≤ 6) (D : Nat → Nat → Nat) : okB p q D 0 (if p = 0 then 0 else 1000) := by
  refine ⟨by split <;> omega, fun h => ?_, fun f _ h => absurd h (by omega)⟩
  by_cases c : p = 0
  · subst c
    exact ⟨fun i => i, ⟨fun i hi => absurd hi (by omega), fun i j hi => absurd hi (by omega)⟩, rfl⟩
  · rw [if_neg c] at h; exact absurd h (by omega)
theorem okA_0 {p q : Nat} (D : Nat → Nat → Nat) : okA p q D 0 0 (fun u => if u = 0 then 0 else 1000) := by
  refine ⟨fun u _ => by show (if u = 0 then 0 else 1000) ≤ 1000; split <;> omega, rfl, fun u _ h => ?_, fun f m _ _ hc => absurd hc (by omega)⟩
  by_cases c : u = 0
  · subst c
    exact ⟨fun i => i, 0, by omega, ⟨fun i hi => absurd hi (by omega), fun i j hi => absurd hi (by omega)⟩, rfl, rfl⟩
  · have h' : (if u = 0 then 0 else 1000) < 1000 := h
    rw [if_neg c] at h'; exact absurd h' (by omega)
