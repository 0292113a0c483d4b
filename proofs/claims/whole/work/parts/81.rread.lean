/-! the text: the reference reads lines -/
theorem tkE_L (k : Nat) (tx : Nat → Nat) {b : Nat} (hb : b < k) (e : isL (tx b) = true) : ∀ j, j < tkE k tx b - b → isL (tx (b + j)) = true := by
  intro j hj
  have te : tkE k tx b = whl (fun j => isL (tx j)) k b := by unfold tkE; rw [if_pos hb, if_pos e]
  rw [te] at hj
  exact whl_a (fun j => isL (tx j)) k b (by omega) (b + j) (by omega) (by omega)
theorem wH_dec {tx : Nat → Nat} {b n v q r : Nat} (hl : ∀ j, j < n → isL (tx (b + j)) = true) (hv : v = 27 * q + r) (hr : 1 ≤ r ∧ r ≤ 26) (h : wH tx b n = v) : ∃ m, n = m + 1 ∧ wH tx b m = q ∧ tx (b + m) = r + 96 := by
  cases n with
  | zero => rw [wH] at h; omega
  | succ m =>
    have := isL_b (hl m (by omega))
    rw [wH] at h
    exact ⟨m, rfl, by omega, by omega⟩
theorem wH_0 {tx : Nat → Nat} {b n : Nat} (hl : ∀ j, j < n → isL (tx (b + j)) = true) (h : wH tx b n = 0) : n = 0 := by
  cases n with
  | zero => rfl
  | succ m =>
    have := isL_b (hl m (by omega))
    rw [wH] at h
    omega
theorem wH_hit {tx : Nat → Nat} {b n : Nat} (hl : ∀ j, j < n → isL (tx (b + j)) = true) : wH tx b n = 6095 ↔ (n = 3 ∧ tx b = 104 ∧ tx (b + 1) = 105 ∧ tx (b + 2) = 116) := by
  constructor
  · intro h
    obtain ⟨m1, e1, h1, c1⟩ := wH_dec hl (q := 225) (r := 20) rfl (by decide) h
    obtain ⟨m2, e2, h2, c2⟩ := wH_dec (fun j hj => hl j (by omega)) (q := 8) (r := 9) rfl (by decide) h1
    obtain ⟨m3, e3, h3, c3⟩ := wH_dec (fun j hj => hl j (by omega)) (q := 0) (r := 8) rfl (by decide) h2
    have m0 := wH_0 (fun j hj => hl j (by omega)) h3
    subst m0; subst e3; subst e2; subst e1
    exact ⟨rfl, c3, c2, c1⟩
  · rintro ⟨rfl, c1, c2, c3⟩
    simp [wH, c1, c2, c3]
theorem wH_empty {tx : Nat → Nat} {b n : Nat} (hl : ∀ j, j < n → isL (tx (b + j)) = true) : wH tx b n = 2925313 ↔ (n = 5 ∧ tx b = 101 ∧ tx (b + 1) = 109 ∧ tx (b + 2) = 112 ∧ tx (b + 3) = 116 ∧ tx (b + 4) = 121) := by
  constructor
  · intro h
    obtain ⟨m1, e1, h1, c1⟩ := wH_dec hl (q := 108344) (r := 25) rfl (by decide) h
    obtain ⟨m2, e2, h2, c2⟩ := wH_dec (fun j hj => hl j (by omega)) (q := 4012) (r := 20) rfl (by decide) h1
    obtain ⟨m3, e3, h3, c3⟩ := wH_dec (fun j hj => hl j (by omega)) (q := 148) (r := 16) rfl (by decide) h2
    obtain ⟨m4, e4, h4, c4⟩ := wH_dec (fun j hj => hl j (by omega)) (q := 5) (r := 13) rfl (by decide) h3
    obtain ⟨m5, e5, h5, c5⟩ := wH_dec (fun j hj => hl j (by omega)) (q := 0) (r := 5) rfl (by decide) h4
    have m0 := wH_0 (fun j hj => hl j (by omega)) h5
    subst m0; subst e5; subst e4; subst e3; subst e2; subst e1
    exact ⟨rfl, c5, c4, c3, c2, c1⟩
  · rintro ⟨rfl, c1, c2, c3, c4, c5⟩
    simp [wH, c1, c2, c3, c4, c5]
theorem wH_mark {tx : Nat → Nat} {b n : Nat} (hl : ∀ j, j < n → isL (tx (b + j)) = true) : wH tx b n = 257105 ↔ (n = 4 ∧ tx b = 109 ∧ tx (b + 1) = 97 ∧ tx (b + 2) = 114 ∧ tx (b + 3) = 107) := by
  constructor
  · intro h
    obtain ⟨m1, e1, h1, c1⟩ := wH_dec hl (q := 9522) (r := 11) rfl (by decide) h
    obtain ⟨m2, e2, h2, c2⟩ := wH_dec (fun j hj => hl j (by omega)) (q := 352) (r := 18) rfl (by decide) h1
    obtain ⟨m3, e3, h3, c3⟩ := wH_dec (fun j hj => hl j (by omega)) (q := 13) (r := 1) rfl (by decide) h2
    obtain ⟨m4, e4, h4, c4⟩ := wH_dec (fun j hj => hl j (by omega)) (q := 0) (r := 13) rfl (by decide) h3
    have m0 := wH_0 (fun j hj => hl j (by omega)) h4
    subst m0; subst e4; subst e3; subst e2; subst e1
    exact ⟨rfl, c4, c3, c2, c1⟩
  · rintro ⟨rfl, c1, c2, c3, c4⟩
    simp [wH, c1, c2, c3, c4]
/-- a token's number as a word -/
theorem tok_w (k : Nat) (tx : Nat → Nat) {b : Nat} {T : Int64} {N : Int32} (hb : b ≤ k) (h : tokR k tx b T N) : (T = 6095 ↔ wdN tx b (tkE k tx b - b) = some 0) ∧ (T = 2925313 ↔ wdN tx b (tkE k tx b - b) = some 1) ∧ (T = 257105 ↔ wdN tx b (tkE k tx b - b) = some 2) := by
  obtain ⟨h1, h2, h3, h4, h5⟩ := h
  by_cases c : b < k
  · cases e : isL (tx b) with
    | true =>
      have t := h2 c e
      have hl := tkE_L k tx c e
      have hb27 := wH_lt tx b (tkE k tx b - b) hl
      generalize hn : tkE k tx b - b = n at *
      have e1 := wH_hit hl
      have e2 := wH_empty hl
      have e3 := wH_mark hl
      have x1 : (6095 : Int64) = lN 6095 := rfl
      have x2 : (2925313 : Int64) = lN 2925313 := rfl
      have x3 : (257105 : Int64) = lN 257105 := rfl
      have key : ∀ v, v < 2 ^ 40 → 0 < v → (v < 10 ^ 8) → (T = lN v ↔ n < 10 ∧ wH tx b n = v) := by
        intro v hv _ _
        rw [t]
        unfold tkL
        by_cases cn : n < 10
        · rw [if_pos cn]
          have : 27 ^ n ≤ 27 ^ 9 := Nat.pow_le_pow_right (by decide) (by omega)
          have p : (27 : Nat) ^ 9 < 2 ^ 63 := by decide
          rw [lN_inj (by omega) (by omega)]
          simp [cn]
        · rw [if_neg cn]
          constructor
          · intro q
            have := congrArg Int64.toInt q
            unfold lN at this
            rw [Int64.toInt_ofNat_of_lt (by omega)] at this
            have m4 : (-4 : Int64).toInt = -4 := rfl
            omega
          · intro q; exact absurd q.1 cn
      rw [x1, x2, x3, key 6095 (by decide) (by decide) (by decide), key 2925313 (by decide) (by decide) (by decide), key 257105 (by decide) (by decide) (by decide), e1, e2, e3]
      unfold wdN
      refine ⟨?_, ?_, ?_⟩
      · constructor
        · intro q; rw [if_pos q.2]
        · intro q
          split at q
          · rename_i g; exact ⟨by omega, g⟩
          · split at q
            · exact absurd q (by simp)
            · split at q
              · exact absurd q (by simp)
              · exact absurd q (by simp)
      · constructor
        · intro q; rw [if_neg (by omega), if_pos q.2]
        · intro q
          split at q
          · exact absurd q (by simp)
          · split at q
            · rename_i g; exact ⟨by omega, g⟩
            · split at q
              · exact absurd q (by simp)
              · exact absurd q (by simp)
      · constructor
        · intro q; rw [if_neg (by omega), if_neg (by omega), if_pos q.2]
        · intro q
          split at q
          · exact absurd q (by simp)
          · split at q
            · exact absurd q (by simp)
            · split at q
              · rename_i g; exact ⟨by omega, g⟩
              · exact absurd q (by simp)
    | false =>
      have nl : ¬ (97 ≤ tx b ∧ tx b ≤ 122) := fun q => by have : isL (tx b) = true := decide_eq_true q; rw [this] at e; exact absurd e (by simp)
      have w : wdN tx b (tkE k tx b - b) = none := by
        unfold wdN
        rw [if_neg (by omega), if_neg (by omega), if_neg (by omega)]
      have t : T = -1 ∨ T = -3 ∨ T = -4 := by
        cases e2 : isD (tx b) with
        | true =>
          by_cases q : tkE k tx b = b + 1
          · exact Or.inl (h3 c e2 q).1
          · exact Or.inr (Or.inr (h4 c e2 q))
        | false =>
          have := h5 c e e2
          split at this
          · exact Or.inr (Or.inl this)
          · exact Or.inr (Or.inr this)
      rw [w]
      rcases t with rfl | rfl | rfl <;> simp
  · have t := h1 (by omega)
    have w : wdN tx b (tkE k tx b - b) = none := by
      unfold tkE
      rw [if_neg c, Nat.sub_self]
      unfold wdN
      rw [if_neg (by omega), if_neg (by omega), if_neg (by omega)]
    rw [w, t]
    simp
/-- a token's number as a digit -/
theorem tok_n (k : Nat) (tx : Nat → Nat) {i : Nat} {T : Int64} {N : Int32} (hi : i ≤ k) (ok : okT k tx) (h : tokR k tx (tkB k tx i) T N) (lo hi' : Nat) (hl : hi' ≤ 9) : (∀ v, nmV k tx i lo hi' = some v → T = -1 ∧ N = nI v ∧ lo ≤ v ∧ v ≤ hi') ∧ (nmV k tx i lo hi' = none → ¬ T = -1 ∨ ¬ ((lo : Int) ≤ N.toInt ∧ N.toInt ≤ hi')) := by
  have bb := tkB_b k tx hi
  have nb := nx_b k tx hi
  obtain ⟨h1, h2, h3, h4, h5⟩ := h
  unfold nmV
  by_cases c : nx k tx i = tkB k tx i + 1
  · have cl : tkB k tx i < k := by omega
    have g6 := ok.2 _ cl
    by_cases d : lo + 48 ≤ tx (tkB k tx i) ∧ tx (tkB k tx i) ≤ hi' + 48
    · rw [if_pos ⟨c, d⟩]
      have e2 : isD (tx (tkB k tx i)) = true := decide_eq_true (by omega)
      have t := h3 cl e2 c
      refine ⟨fun v hv => ?_, fun q => absurd q (by simp)⟩
      have := Option.some.inj hv
      subst this
      exact ⟨t.1, t.2, by omega, by omega⟩
    · rw [if_neg (fun q => d q.2)]
      refine ⟨fun v hv => absurd hv (by simp), fun _ => ?_⟩
      cases e : isL (tx (tkB k tx i)) with
      | true =>
        left
        have t := h2 cl e
        have c' : tkE k tx (tkB k tx i) - tkB k tx i = 1 := by unfold nx at c; omega
        rw [c'] at t
        have eb := isL_b e
        have : T = lN (tx (tkB k tx i) - 96) := by
          rw [t]; unfold tkL; rw [if_pos (by decide), wH, wH, Nat.mul_zero, Nat.zero_add, Nat.add_zero]
        rw [this]
        intro q
        have := congrArg Int64.toInt q
        rw [lN_toInt (by omega)] at this
        have m1 : (-1 : Int64).toInt = -1 := rfl
        omega
      | false =>
        cases e2 : isD (tx (tkB k tx i)) with
        | true =>
          right
          have t := h3 cl e2 c
          have eb := isD_b e2
          rw [t.2, nI_toInt (by omega)]
          omega
        | false =>
          left
          have t := h5 cl e e2
          rw [t]
          split <;> decide
  · rw [if_neg (fun q => c q.1)]
    refine ⟨fun v hv => absurd hv (by simp), fun _ => Or.inl ?_⟩
    by_cases cl : tkB k tx i < k
    · cases e : isL (tx (tkB k tx i)) with
      | true =>
        have t := h2 cl e
        have hl := tkE_L k tx cl e
        have hb27 := wH_lt tx (tkB k tx i) _ hl
        rw [t]
        unfold tkL
        split
        · rename_i cn
          intro q
          have := congrArg Int64.toInt q
          have p1 : 27 ^ (tkE k tx (tkB k tx i) - tkB k tx i) ≤ 27 ^ 9 := Nat.pow_le_pow_right (by decide) (by omega)
          have p : (27 : Nat) ^ 9 < 2 ^ 63 := by decide
          unfold lN at this
          rw [Int64.toInt_ofNat_of_lt (by omega)] at this
          have m1 : (-1 : Int64).toInt = -1 := rfl
          omega
        · decide
      | false =>
        cases e2 : isD (tx (tkB k tx i)) with
        | true => rw [h4 cl e2 c]; decide
        | false =>
          rw [h5 cl e e2]
          split <;> decide
    · rw [h1 (by omega)]; decide
