/-! ways between rooms: steps, and the class's away -/
noncomputable def edg (K : Nat → Nat) (k r q : Nat) : Bool := drC K (k / 16) && nbB (lb (rS K r)) (k / 16) (k / 4 % 4) && nbB (lb (rS K q)) (k / 16) (k % 4)
noncomputable def adB (K : Nat → Nat) (r q : Nat) : Bool := (List.range 1024).any (fun k => edg K k r q)
noncomputable def lvB (K : Nat → Nat) (o : Nat) : Nat → Nat → Bool
  | 0, r => decide (r = o)
  | k + 1, r => lvB K o k r || (List.range (rN K)).any (fun q => lvB K o k q && adB K q r)
theorem lv_s (K : Nat → Nat) (o k r : Nat) : lvB K o (k + 1) r = true ↔ lvB K o k r = true ∨ ∃ q, q < rN K ∧ lvB K o k q = true ∧ adB K q r = true := by
  rw [lvB, Bool.or_eq_true, List.any_eq_true]
  constructor
  · rintro (h | ⟨q, h1, h2⟩)
    · exact Or.inl h
    · rw [List.mem_range] at h1
      rw [Bool.and_eq_true] at h2
      exact Or.inr ⟨q, h1, h2⟩
  · rintro (h | ⟨q, h1, h2⟩)
    · exact Or.inl h
    · exact Or.inr ⟨q, List.mem_range.mpr h1, by rw [Bool.and_eq_true]; exact h2⟩
theorem lv_mono (K : Nat → Nat) (o r : Nat) {j k : Nat} (h : j ≤ k) (g : lvB K o j r = true) : lvB K o k r = true := by
  obtain ⟨d, rfl⟩ : ∃ d, k = j + d := ⟨k - j, by omega⟩
  clear h
  induction d with
  | zero => exact g
  | succ d ih => exact (lv_s K o (j + d) r).mpr (Or.inl ih)
def cR (R : Nat) (f : Nat → Bool) : Nat := sumT (fun r => if f r = true then 1 else 0) R
theorem cR_le (R : Nat) (f : Nat → Bool) : cR R f ≤ R := sumT_le1 _ (fun j => by split <;> omega) R
theorem cR_lt {R : Nat} {f g : Nat → Bool} (h : ∀ a, a < R → f a = true → g a = true) {i : Nat} (hi : i < R) (h1 : f i = false) (h2 : g i = true) : cR R f + 1 ≤ cR R g := by
  have : cR R f + sumT (fun m => if m = i then 1 else 0) R ≤ cR R g := by
    unfold cR
    rw [← sumT_add]
    apply sumT_mono
    intro j hj
    by_cases q : j = i
    · subst q; rw [h1, if_pos rfl, if_pos h2]; simp
    · rw [if_neg q]
      by_cases e : f j = true
      · rw [if_pos e, if_pos (h j hj e)]; exact Nat.le_refl _
      · rw [if_neg e]; exact Nat.zero_le _
  rw [sumT_one, if_pos hi] at this
  exact this
/-- what is reached is reached within as many steps as there are rooms -/
theorem lv_bound (K : Nat → Nat) (o : Nat) (ho : o < rN K) (t : Nat) (ht : t < rN K) : ∀ k, lvB K o k t = true → ∃ j, j < rN K ∧ j ≤ k ∧ lvB K o j t = true := by
  have stab : ∀ k, (∀ r, r < rN K → lvB K o (k + 1) r = lvB K o k r) → ∀ d r, r < rN K → lvB K o (k + d) r = lvB K o k r := by
    intro k h d
    induction d with
    | zero => intro r _; rfl
    | succ d ih =>
      intro r hr
      rw [← h r hr, Bool.eq_iff_iff]
      have e1 := lv_s K o (k + d) r
      have e2 := lv_s K o k r
      rw [show k + (d + 1) = k + d + 1 by omega, e1, e2, ih r hr]
      constructor
      · rintro (q | ⟨q, q1, q2, q3⟩)
        · exact Or.inl q
        · exact Or.inr ⟨q, q1, by rw [← ih q q1]; exact q2, q3⟩
      · rintro (q | ⟨q, q1, q2, q3⟩)
        · exact Or.inl q
        · exact Or.inr ⟨q, q1, by rw [ih q q1]; exact q2, q3⟩
  have grow : ∀ k, (∃ j, j < k ∧ ∀ r, r < rN K → lvB K o (j + 1) r = lvB K o j r) ∨ k + 1 ≤ cR (rN K) (lvB K o k) := by
    intro k
    induction k with
    | zero =>
      right
      have : cR (rN K) (fun _ => false) + 1 ≤ cR (rN K) (lvB K o 0) := cR_lt (fun a _ q => absurd q (by simp)) ho rfl (by rw [lvB]; simp)
      omega
    | succ k ih =>
      rcases ih with ⟨j, j1, j2⟩ | ih
      · exact Or.inl ⟨j, by omega, j2⟩
      · by_cases e : ∀ r, r < rN K → lvB K o (k + 1) r = lvB K o k r
        · exact Or.inl ⟨k, by omega, e⟩
        · right
          have : ∃ r, r < rN K ∧ lvB K o k r = false ∧ lvB K o (k + 1) r = true := by
            apply Classical.byContradiction
            intro hn
            apply e
            intro r hr
            cases q : lvB K o k r with
            | true => exact lv_mono K o r (by omega) q
            | false =>
              cases q2 : lvB K o (k + 1) r with
              | false => rfl
              | true => exact absurd ⟨r, hr, q, q2⟩ hn
          obtain ⟨r, r1, r2, r3⟩ := this
          have := cR_lt (f := lvB K o k) (g := lvB K o (k + 1)) (fun a _ q => lv_mono K o a (by omega) q) r1 r2 r3
          omega
  intro k hk
  by_cases c : k < rN K
  · exact ⟨k, c, Nat.le_refl _, hk⟩
  · have cl := cR_le (rN K) (lvB K o (rN K))
    rcases grow (rN K) with ⟨j, j1, j2⟩ | g
    · refine ⟨j, j1, by omega, ?_⟩
      have := stab j j2 (k - j) t ht
      rw [show j + (k - j) = k by omega] at this
      rw [← this]; exact hk
    · omega
/-- how far two rooms are -/
def awP (K : Nat → Nat) (o t : Nat) (v : Int) : Prop := (∃ k : Nat, v = k ∧ k < rN K ∧ lvB K o k t = true ∧ ∀ j, j < k → lvB K o j t = false) ∨ (v = -1 ∧ ∀ k, lvB K o k t = false)
theorem awP_uniq {K : Nat → Nat} {o t : Nat} {v v' : Int} (h : awP K o t v) (h' : awP K o t v') : v = v' := by
  rcases h with ⟨k, a1, a2, a3, a4⟩ | ⟨a1, a2⟩ <;> rcases h' with ⟨k', b1, b2, b3, b4⟩ | ⟨b1, b2⟩
  · rcases Nat.lt_trichotomy k k' with q | q | q
    · rw [b4 k q] at a3; exact absurd a3 (by simp)
    · rw [a1, b1, q]
    · rw [a4 k' q] at b3; exact absurd b3 (by simp)
  · rw [b2 k] at a3; exact absurd a3 (by simp)
  · rw [a2 k'] at b3; exact absurd b3 (by simp)
  · rw [a1, b1]
/-- a set of cells is the union of the rooms of f -/
def isU (K : Nat → Nat) (f : Nat → Bool) (S : Int64) : Prop := ∀ a, a < 64 → (lb S a = true ↔ ∃ r, r < rN K ∧ f r = true ∧ lb (rS K r) a = true)
theorem adB_iff (K : Nat → Nat) (r q : Nat) : adB K r q = true ↔ ∃ D, D < 64 ∧ drC K D = true ∧ nbA (lb (rS K r)) D = true ∧ nbA (lb (rS K q)) D = true := by
  have nbx : ∀ (T : Nat → Bool) (a k : Nat), k < 4 → nbB T a k = true → nbA T a = true := by
    intro T a k hk g
    have e : k = 0 ∨ k = 1 ∨ k = 2 ∨ k = 3 := by omega
    unfold nbA
    rcases e with rfl | rfl | rfl | rfl <;> rw [g] <;> simp
  have nby : ∀ (T : Nat → Bool) (a : Nat), nbA T a = true → ∃ k, k < 4 ∧ nbB T a k = true := by
    intro T a g
    obtain ⟨k, hk, k1, k2⟩ := nbA_ex g
    exact ⟨k, hk, by unfold nbB; rw [decide_eq_true k1, k2]; rfl⟩
  unfold adB
  rw [List.any_eq_true]
  constructor
  · rintro ⟨k, h1, h2⟩
    rw [List.mem_range] at h1
    unfold edg at h2
    rw [Bool.and_eq_true, Bool.and_eq_true] at h2
    exact ⟨k / 16, by omega, h2.1.1, nbx _ _ _ (by omega) h2.1.2, nbx _ _ _ (by omega) h2.2⟩
  · rintro ⟨D, h1, h2, h3, h4⟩
    obtain ⟨i, i1, i2⟩ := nby _ _ h3
    obtain ⟨j, j1, j2⟩ := nby _ _ h4
    refine ⟨16 * D + 4 * i + j, List.mem_range.mpr (by omega), ?_⟩
    unfold edg
    rw [show (16 * D + 4 * i + j) / 16 = D by omega, show (16 * D + 4 * i + j) / 4 % 4 = i by omega, show (16 * D + 4 * i + j) % 4 = j by omega, h2, i2, j2]
    rfl
/-- the rooms behind a union of rooms -/
theorem beh_iff (K : Nat → Nat) (f : Nat → Bool) (S : Int64) (h : isU K f S) (q : Nat) : (¬ rS K q &&& besL (besL S &&& lOr (drC K) 64) = 0) ↔ ∃ r, r < rN K ∧ f r = true ∧ adB K r q = true := by
  have ex : (¬ rS K q &&& besL (besL S &&& lOr (drC K) 64) = 0) ↔ ∃ b, b < 64 ∧ lb (rS K q) b = true ∧ nbA (lb (besL S &&& lOr (drC K) 64)) b = true := by
    constructor
    · intro hn
      apply Classical.byContradiction
      intro hx
      apply hn
      apply lb_ext
      intro b hb
      rw [lb_and, lb_bes _ hb, lb_0]
      cases e1 : lb (rS K q) b with
      | false => rfl
      | true =>
        cases e2 : nbA (lb (besL S &&& lOr (drC K) 64)) b with
        | false => rfl
        | true => exact absurd ⟨b, hb, e1, e2⟩ hx
    · rintro ⟨b, hb, e1, e2⟩ hx
      have := congrArg (fun x => lb x b) hx
      simp only [lb_and, lb_bes _ hb, lb_0, e1, e2] at this
      exact absurd this (by simp)
  have dl : ∀ D, D < 64 → lb (besL S &&& lOr (drC K) 64) D = (nbA (lb S) D && drC K D) := by
    intro D hD
    rw [lb_and, lb_bes _ hD, lb_lOr (drC K) D 64 (Nat.le_refl _), decide_eq_true hD, Bool.true_and]
  rw [ex]
  constructor
  · rintro ⟨b, hb, e1, e2⟩
    obtain ⟨k, hk, k1, k2⟩ := nbA_ex e2
    have bb := bsI_b b k
    have hD : (bsI b k).toNat < 64 := by omega
    rw [dl _ hD, Bool.and_eq_true] at k2
    obtain ⟨i, hi, i1, i2⟩ := nbA_ex k2.1
    have bi := bsI_b (bsI b k).toNat i
    obtain ⟨r, r1, r2, r3⟩ := (h _ (by omega)).mp i2
    obtain ⟨k', hk', w⟩ := bs_sym hb hk k1
    exact ⟨r, r1, r2, (adB_iff K r q).mpr ⟨(bsI b k).toNat, hD, k2.2, nbA_of hi (by omega : bsI (bsI b k).toNat i = (((bsI (bsI b k).toNat i).toNat : Nat) : Int)) r3, nbA_of hk' w e1⟩⟩
  · rintro ⟨r, r1, r2, r3⟩
    obtain ⟨D, hD, d1, d2, d3⟩ := (adB_iff K r q).mp r3
    obtain ⟨j, hj, j1, j2⟩ := nbA_ex d3
    have bj := bsI_b D j
    obtain ⟨j', hj', w⟩ := bs_sym hD hj j1
    refine ⟨(bsI D j).toNat, by omega, j2, nbA_of hj' w ?_⟩
    rw [dl D hD, d1, Bool.and_true]
    exact nbA_mono (fun a ha g => (h a ha).mpr ⟨r, r1, r2, g⟩) D d2
theorem cPl_behind (d : Nat) (z : mm_Z) (F : Nat → Nat → Value) (I : Nat → Nat → Int32) (L : Nat → Nat → Int64) (K : Nat → Nat) (hz : zOK z) (h0 : cH0 F) (h : cPn K F L) (f : Nat → Bool) (S : Int64) (hS : isU K f S) : ∃ R, mm_E (d + 1) mX4_roomsBehind 0 [.ref 7, .long S, uu, uu, uu, uu, uu, uu] [] (z, F, I, L) = some (some (.long R), (z, F, I, L)) ∧ isU K (fun q => (List.range (rN K)).any (fun r => f r && adB K r q)) R := by
  have rl := rN_le K
  obtain ⟨_, h3, h1, h2⟩ := h
  have be := fun d' x => cPl_beside d' z F I L x
  have bi := beh_iff K f S hS
  generalize hB : besL (besL S &&& lOr (drC K) 64) = B at *
  have l : ∀ i, i ≤ rN K → ∀ R, (∀ a, a < 64 → (lb R a = true ↔ ∃ q, q < i ∧ (List.range (rN K)).any (fun r => f r && adB K r q) = true ∧ lb (rS K q) a = true)) → ∃ R', mm_E (d + 1) mX4_roomsBehind 19 [.ref 7, .long S, uu, .long B, uu, .long R, uu, .int (nI i)] [] (z, F, I, L) = some (some (.long R'), (z, F, I, L)) ∧ isU K (fun q => (List.range (rN K)).any (fun r => f r && adB K r q)) R' := by
    apply lp
    · intro R hR
      refine ⟨R, ?_, hR⟩
      rw [eX4_roomsBehind_19]
      simp (disch := first | assumption | exact bI_or _ | exact zOK_O hz (by decide) (by decide) rfl | exact zOK_T hz (by decide) (by decide) rfl | (refine ix (zOK_l hz (by decide) (by decide) rfl) ?_; omega) | decide | omega) only [eX4_roomsBehind_0, eX4_roomsBehind_1, eX4_roomsBehind_4, eX4_roomsBehind_5, eX4_roomsBehind_8, eX4_roomsBehind_9, eX4_roomsBehind_12, eX4_roomsBehind_13, eX4_roomsBehind_14, eX4_roomsBehind_16, eX4_roomsBehind_17, eX4_roomsBehind_21, eX4_roomsBehind_22, eX4_roomsBehind_25, eX4_roomsBehind_28, eX4_roomsBehind_29, eX4_roomsBehind_32, eX4_roomsBehind_34, eX4_roomsBehind_35, eX4_roomsBehind_36, eX4_roomsBehind_37, eX4_roomsBehind_38, eX4_roomsBehind_39, eX4_roomsBehind_42, eX4_roomsBehind_44, eX4_roomsBehind_45, eX4_roomsBehind_48, eX4_roomsBehind_50, eX4_roomsBehind_51, eX4_roomsBehind_52, eX4_roomsBehind_54, eX4_roomsBehind_57, eX4_roomsBehind_60, eX4_roomsBehind_62, Int.cast_ofNat_Int, Nat.reduceLT, Nat.reduceLeDiff, Nat.reduceEqDiff, Nat.reduceAdd, Nat.reduceMul, Int.reduceLE, Int.reduceLT, Int.reduceEq, not_false_iff, nlr, Nat.zero_add, Nat.add_zero, e10f, e01f, eq_self, true_and, and_true, false_and, and_false, and_self, decide_true, decide_false, mm_bd_i, mm_bd_v, if_true, if_false, not_true_eq_false, not_false_eq_true, nI_1, Bool.true_eq_false, Bool.false_eq_true, bI_0, n_le0, n_0lt, n_lt0, n_0le, n_eq0, n_eqm, n_eq1, n_le1, n_1lt, n_1le, n_lt1, nn_le, nI_ltI, nI_eq, nI_clamp, nI_add, pk_mul, i_eq0, i_eqm, i_0le, i_le0, i_0lt, i_lt0, i_mle, i_ltm, ii_le, iI_lt, iI_eq, ni_le, ni_lt, ni_eq, in_le, in_lt, in_eq, ni_add, in_add, ni_sub, in_sub, ni_mul, in_mul, iI_add, iI_sub, iI_mul, i_p1, iI_neg, n_neg, h1]
    · intro i hi ih R hR
      have q2 := h2 i hi
      have any : (List.range (rN K)).any (fun r => f r && adB K r i) = true ↔ ∃ r, r < rN K ∧ f r = true ∧ adB K r i = true := by
        rw [List.any_eq_true]
        constructor
        · rintro ⟨r, r1, r2⟩
          rw [List.mem_range] at r1
          rw [Bool.and_eq_true] at r2
          exact ⟨r, r1, r2⟩
        · rintro ⟨r, r1, r2⟩
          exact ⟨r, List.mem_range.mpr r1, by rw [Bool.and_eq_true]; exact r2⟩
      by_cases c : rS K i &&& B = 0
      · have nn : ¬ (List.range (rN K)).any (fun r => f r && adB K r i) = true := fun q => absurd c ((bi i).mpr (any.mp q))
        obtain ⟨R', k1, k2⟩ := ih R (fun a ha => by
          rw [hR a ha]
          constructor
          · rintro ⟨q, q1, q3⟩; exact ⟨q, by omega, q3⟩
          · rintro ⟨q, q1, q3, q4⟩
            by_cases e : q = i
            · subst e; exact absurd q3 nn
            · exact ⟨q, by omega, q3, q4⟩)
        refine ⟨R', ?_, k2⟩
        rw [← k1, eX4_roomsBehind_19]
        simp (disch := first | assumption | exact bI_or _ | exact zOK_O hz (by decide) (by decide) rfl | exact zOK_T hz (by decide) (by decide) rfl | (refine ix (zOK_l hz (by decide) (by decide) rfl) ?_; omega) | decide | omega) only [eX4_roomsBehind_0, eX4_roomsBehind_1, eX4_roomsBehind_4, eX4_roomsBehind_5, eX4_roomsBehind_8, eX4_roomsBehind_9, eX4_roomsBehind_12, eX4_roomsBehind_13, eX4_roomsBehind_14, eX4_roomsBehind_16, eX4_roomsBehind_17, eX4_roomsBehind_21, eX4_roomsBehind_22, eX4_roomsBehind_25, eX4_roomsBehind_28, eX4_roomsBehind_29, eX4_roomsBehind_32, eX4_roomsBehind_34, eX4_roomsBehind_35, eX4_roomsBehind_36, eX4_roomsBehind_37, eX4_roomsBehind_38, eX4_roomsBehind_39, eX4_roomsBehind_42, eX4_roomsBehind_44, eX4_roomsBehind_45, eX4_roomsBehind_48, eX4_roomsBehind_50, eX4_roomsBehind_51, eX4_roomsBehind_52, eX4_roomsBehind_54, eX4_roomsBehind_57, eX4_roomsBehind_60, eX4_roomsBehind_62, Int.cast_ofNat_Int, Nat.reduceLT, Nat.reduceLeDiff, Nat.reduceEqDiff, Nat.reduceAdd, Nat.reduceMul, Int.reduceLE, Int.reduceLT, Int.reduceEq, not_false_iff, nlr, Nat.zero_add, Nat.add_zero, e10f, e01f, eq_self, true_and, and_true, false_and, and_false, and_self, decide_true, decide_false, mm_bd_i, mm_bd_v, if_true, if_false, not_true_eq_false, not_false_eq_true, nI_1, Bool.true_eq_false, Bool.false_eq_true, bI_0, n_le0, n_0lt, n_lt0, n_0le, n_eq0, n_eqm, n_eq1, n_le1, n_1lt, n_1le, n_lt1, nn_le, nI_ltI, nI_eq, nI_clamp, nI_add, pk_mul, i_eq0, i_eqm, i_0le, i_le0, i_0lt, i_lt0, i_mle, i_ltm, ii_le, iI_lt, iI_eq, ni_le, ni_lt, ni_eq, in_le, in_lt, in_eq, ni_add, in_add, ni_sub, in_sub, ni_mul, in_mul, iI_add, iI_sub, iI_mul, i_p1, iI_neg, n_neg, h1, hi, h0.1.2.2.2.2, q2, lg_cmp_eq, c]
      · have yy : (List.range (rN K)).any (fun r => f r && adB K r i) = true := any.mpr ((bi i).mp c)
        obtain ⟨R', k1, k2⟩ := ih (R ||| rS K i) (fun a ha => by
          rw [lb_or, Bool.or_eq_true, hR a ha]
          constructor
          · rintro (⟨q, q1, q3⟩ | q)
            · exact ⟨q, by omega, q3⟩
            · exact ⟨i, by omega, yy, q⟩
          · rintro ⟨q, q1, q3, q4⟩
            by_cases e : q = i
            · subst e; exact Or.inr q4
            · exact Or.inl ⟨q, by omega, q3, q4⟩)
        refine ⟨R', ?_, k2⟩
        rw [← k1, eX4_roomsBehind_19]
        simp (disch := first | assumption | exact bI_or _ | exact zOK_O hz (by decide) (by decide) rfl | exact zOK_T hz (by decide) (by decide) rfl | (refine ix (zOK_l hz (by decide) (by decide) rfl) ?_; omega) | decide | omega) only [eX4_roomsBehind_0, eX4_roomsBehind_1, eX4_roomsBehind_4, eX4_roomsBehind_5, eX4_roomsBehind_8, eX4_roomsBehind_9, eX4_roomsBehind_12, eX4_roomsBehind_13, eX4_roomsBehind_14, eX4_roomsBehind_16, eX4_roomsBehind_17, eX4_roomsBehind_21, eX4_roomsBehind_22, eX4_roomsBehind_25, eX4_roomsBehind_28, eX4_roomsBehind_29, eX4_roomsBehind_32, eX4_roomsBehind_34, eX4_roomsBehind_35, eX4_roomsBehind_36, eX4_roomsBehind_37, eX4_roomsBehind_38, eX4_roomsBehind_39, eX4_roomsBehind_42, eX4_roomsBehind_44, eX4_roomsBehind_45, eX4_roomsBehind_48, eX4_roomsBehind_50, eX4_roomsBehind_51, eX4_roomsBehind_52, eX4_roomsBehind_54, eX4_roomsBehind_57, eX4_roomsBehind_60, eX4_roomsBehind_62, Int.cast_ofNat_Int, Nat.reduceLT, Nat.reduceLeDiff, Nat.reduceEqDiff, Nat.reduceAdd, Nat.reduceMul, Int.reduceLE, Int.reduceLT, Int.reduceEq, not_false_iff, nlr, Nat.zero_add, Nat.add_zero, e10f, e01f, eq_self, true_and, and_true, false_and, and_false, and_self, decide_true, decide_false, mm_bd_i, mm_bd_v, if_true, if_false, not_true_eq_false, not_false_eq_true, nI_1, Bool.true_eq_false, Bool.false_eq_true, bI_0, n_le0, n_0lt, n_lt0, n_0le, n_eq0, n_eqm, n_eq1, n_le1, n_1lt, n_1le, n_lt1, nn_le, nI_ltI, nI_eq, nI_clamp, nI_add, pk_mul, i_eq0, i_eqm, i_0le, i_le0, i_0lt, i_lt0, i_mle, i_ltm, ii_le, iI_lt, iI_eq, ni_le, ni_lt, ni_eq, in_le, in_lt, in_eq, ni_add, in_add, ni_sub, in_sub, ni_mul, in_mul, iI_add, iI_sub, iI_mul, i_p1, iI_neg, n_neg, h1, hi, h0.1.2.2.2.2, q2, lg_cmp_eq, c]
  obtain ⟨R', k1, k2⟩ := l 0 (by omega) 0 (fun a _ => by
    rw [lb_0]
    constructor
    · intro q; exact absurd q (by simp)
    · rintro ⟨q, q1, _⟩; omega)
  refine ⟨R', ?_, k2⟩
  rw [← k1, ← hB]
  simp (disch := first | assumption | exact bI_or _ | exact zOK_O hz (by decide) (by decide) rfl | exact zOK_T hz (by decide) (by decide) rfl | (refine ix (zOK_l hz (by decide) (by decide) rfl) ?_; omega) | decide | omega) only [eX4_roomsBehind_0, eX4_roomsBehind_1, eX4_roomsBehind_4, eX4_roomsBehind_5, eX4_roomsBehind_8, eX4_roomsBehind_9, eX4_roomsBehind_12, eX4_roomsBehind_13, eX4_roomsBehind_14, eX4_roomsBehind_16, eX4_roomsBehind_17, eX4_roomsBehind_21, eX4_roomsBehind_22, eX4_roomsBehind_25, eX4_roomsBehind_28, eX4_roomsBehind_29, eX4_roomsBehind_32, eX4_roomsBehind_34, eX4_roomsBehind_35, eX4_roomsBehind_36, eX4_roomsBehind_37, eX4_roomsBehind_38, eX4_roomsBehind_39, eX4_roomsBehind_42, eX4_roomsBehind_44, eX4_roomsBehind_45, eX4_roomsBehind_48, eX4_roomsBehind_50, eX4_roomsBehind_51, eX4_roomsBehind_52, eX4_roomsBehind_54, eX4_roomsBehind_57, eX4_roomsBehind_60, eX4_roomsBehind_62, Int.cast_ofNat_Int, Nat.reduceLT, Nat.reduceLeDiff, Nat.reduceEqDiff, Nat.reduceAdd, Nat.reduceMul, Int.reduceLE, Int.reduceLT, Int.reduceEq, not_false_iff, nlr, Nat.zero_add, Nat.add_zero, e10f, e01f, eq_self, true_and, and_true, false_and, and_false, and_self, decide_true, decide_false, mm_bd_i, mm_bd_v, if_true, if_false, not_true_eq_false, not_false_eq_true, nI_1, Bool.true_eq_false, Bool.false_eq_true, bI_0, n_le0, n_0lt, n_lt0, n_0le, n_eq0, n_eqm, n_eq1, n_le1, n_1lt, n_1le, n_lt1, nn_le, nI_ltI, nI_eq, nI_clamp, nI_add, pk_mul, i_eq0, i_eqm, i_0le, i_le0, i_0lt, i_lt0, i_mle, i_ltm, ii_le, iI_lt, iI_eq, ni_le, ni_lt, ni_eq, in_le, in_lt, in_eq, ni_add, in_add, ni_sub, in_sub, ni_mul, in_mul, iI_add, iI_sub, iI_mul, i_p1, iI_neg, n_neg, be, h3]
  rfl
theorem rm_seed (K : Nat → Nat) : ∀ c, c ≤ 64 → ∀ i, i < (rmF K c).2.1 → ∃ a, a < 64 ∧ lb ((rmF K c).2.2 i) a = true := by
  intro c
  induction c with
  | zero => intro _ i q; exact absurd q (by simp [rmF])
  | succ c ih =>
    intro hc i hi
    by_cases e : flB K c = true ∧ (rmF K c).1 c = false
    · by_cases g : clA K (cm (flB K) c) 64 = true
      · have r2 : (rmF K (c + 1)).2 = ((rmF K c).2.1 + 1, udf (rmF K c).2.2 (rmF K c).2.1 (cm (flB K) c)) := by rw [rmF, if_pos e, if_pos g]
        rw [r2] at hi ⊢
        dsimp only at hi ⊢
        by_cases x : i = (rmF K c).2.1
        · subst x; rw [udf_s]; exact ⟨c, by omega, (cm_spec (flB K) c (by omega)).1⟩
        · rw [udf_n _ _ x]; exact ih (by omega) i (by omega)
      · have r2 : (rmF K (c + 1)).2 = (rmF K c).2 := by rw [rmF, if_pos e, if_neg g]
        rw [r2] at hi ⊢
        exact ih (by omega) i hi
    · have r0 : rmF K (c + 1) = rmF K c := by rw [rmF, if_neg e]
      rw [r0] at hi ⊢
      exact ih (by omega) i hi
theorem rS_seed (K : Nat → Nat) {i : Nat} (hi : i < rN K) : ∃ a, a < 64 ∧ lb (rS K i) a = true := rm_seed K 64 (Nat.le_refl _) i hi
theorem cPl_away (d : Nat) (z : mm_Z) (F : Nat → Nat → Value) (I : Nat → Nat → Int32) (L : Nat → Nat → Int64) (K : Nat → Nat) (hz : zOK z) (h0 : cH0 F) (h : cPn K F L) (o t : Nat) (ho : o < rN K) (ht : t < rN K) : ∃ v, mm_E (d + 3) mX4_doorsBetween 0 [.ref 7, .int (nI o), .int (nI t), uu, uu, uu, uu, uu] [] (z, F, I, L) = some (some (.int (iI v)), (z, F, I, L)) ∧ awP K o t v := by
  have rl := rN_le K
  have c1 := fun d' => cPl_cells d' z F I L K hz h0 h o ho
  have c2 := fun d' => cPl_cells d' z F I L K hz h0 h t ht
  have gi : ∀ (f : Nat → Bool) (S : Int64), isU K f S → ((S &&& rS K t = 0) ↔ f t = false) := by
    intro f S hS
    constructor
    · intro q
      obtain ⟨a, ha, g⟩ := rS_seed K ht
      cases e : f t with
      | false => rfl
      | true =>
        have := congrArg (fun x => lb x a) q
        simp only [lb_and, lb_0, g, Bool.and_true] at this
        rw [(hS a ha).mpr ⟨t, ht, e, g⟩] at this
        exact absurd this (by simp)
    · intro q
      apply lb_ext
      intro a ha
      rw [lb_and, lb_0]
      cases e1 : lb S a with
      | false => rfl
      | true =>
        cases e2 : lb (rS K t) a with
        | false => rfl
        | true =>
          obtain ⟨r, r1, r2, r3⟩ := (hS a ha).mp e1
          rw [rS_dis K r1 ht ha r3 e2, q] at r2
          exact absurd r2 (by simp)
  have l : ∀ k, k ≤ 64 → ∀ S, isU K (lvB K o k) S → (∀ j, j < k → lvB K o j t = false) → ∃ v, mm_E (d + 3) mX4_doorsBetween 16 [.ref 7, .int (nI o), .int (nI t), .long S, uu, .long (rS K t), uu, .int (nI k)] [] (z, F, I, L) = some (some (.int (iI v)), (z, F, I, L)) ∧ awP K o t v := by
    apply lp
    · intro S hS hn
      refine ⟨-1, ?_, Or.inr ⟨rfl, fun k => ?_⟩⟩
      · rw [eX4_doorsBetween_16, iI_m1]
        simp (disch := first | assumption | exact bI_or _ | exact zOK_O hz (by decide) (by decide) rfl | exact zOK_T hz (by decide) (by decide) rfl | (refine ix (zOK_l hz (by decide) (by decide) rfl) ?_; omega) | decide | omega) only [eX4_doorsBetween_0, eX4_doorsBetween_1, eX4_doorsBetween_2, eX4_doorsBetween_5, eX4_doorsBetween_6, eX4_doorsBetween_7, eX4_doorsBetween_8, eX4_doorsBetween_11, eX4_doorsBetween_13, eX4_doorsBetween_14, eX4_doorsBetween_18, eX4_doorsBetween_20, eX4_doorsBetween_23, eX4_doorsBetween_24, eX4_doorsBetween_26, eX4_doorsBetween_27, eX4_doorsBetween_28, eX4_doorsBetween_29, eX4_doorsBetween_32, eX4_doorsBetween_34, eX4_doorsBetween_35, eX4_doorsBetween_36, eX4_doorsBetween_37, eX4_doorsBetween_38, eX4_doorsBetween_41, eX4_doorsBetween_42, eX4_doorsBetween_43, eX4_doorsBetween_46, eX4_doorsBetween_49, eX4_doorsBetween_50, Int.cast_ofNat_Int, Nat.reduceLT, Nat.reduceLeDiff, Nat.reduceEqDiff, Nat.reduceAdd, Nat.reduceMul, Int.reduceLE, Int.reduceLT, Int.reduceEq, not_false_iff, nlr, Nat.zero_add, Nat.add_zero, e10f, e01f, eq_self, true_and, and_true, false_and, and_false, and_self, decide_true, decide_false, mm_bd_i, mm_bd_v, if_true, if_false, not_true_eq_false, not_false_eq_true, nI_1, Bool.true_eq_false, Bool.false_eq_true, bI_0, n_le0, n_0lt, n_lt0, n_0le, n_eq0, n_eqm, n_eq1, n_le1, n_1lt, n_1le, n_lt1, nn_le, nI_ltI, nI_eq, nI_clamp, nI_add, pk_mul, i_eq0, i_eqm, i_0le, i_le0, i_0lt, i_lt0, i_mle, i_ltm, ii_le, iI_lt, iI_eq, ni_le, ni_lt, ni_eq, in_le, in_lt, in_eq, ni_add, in_add, ni_sub, in_sub, ni_mul, in_mul, iI_add, iI_sub, iI_mul, i_p1, iI_neg, n_neg]
      · cases q : lvB K o k t with
        | false => rfl
        | true =>
          obtain ⟨j, j1, j2, j3⟩ := lv_bound K o ho t ht k q
          rw [hn j (by omega)] at j3
          exact absurd j3 (by simp)
    · intro k hk ih S hS hn
      have g := gi _ S hS
      cases e : lvB K o k t with
      | true =>
        have c : ¬ S &&& rS K t = 0 := fun q => by rw [g.mp q] at e; exact absurd e (by simp)
        obtain ⟨j, j1, j2, j3⟩ := lv_bound K o ho t ht k e
        have jk : j = k := by
          rcases Nat.lt_or_ge j k with q | q
          · rw [hn j q] at j3; exact absurd j3 (by simp)
          · omega
        refine ⟨k, ?_, Or.inl ⟨k, rfl, by omega, e, hn⟩⟩
        rw [← nI_iI, eX4_doorsBetween_16]
        simp (disch := first | assumption | exact bI_or _ | exact zOK_O hz (by decide) (by decide) rfl | exact zOK_T hz (by decide) (by decide) rfl | (refine ix (zOK_l hz (by decide) (by decide) rfl) ?_; omega) | decide | omega) only [eX4_doorsBetween_0, eX4_doorsBetween_1, eX4_doorsBetween_2, eX4_doorsBetween_5, eX4_doorsBetween_6, eX4_doorsBetween_7, eX4_doorsBetween_8, eX4_doorsBetween_11, eX4_doorsBetween_13, eX4_doorsBetween_14, eX4_doorsBetween_18, eX4_doorsBetween_20, eX4_doorsBetween_23, eX4_doorsBetween_24, eX4_doorsBetween_26, eX4_doorsBetween_27, eX4_doorsBetween_28, eX4_doorsBetween_29, eX4_doorsBetween_32, eX4_doorsBetween_34, eX4_doorsBetween_35, eX4_doorsBetween_36, eX4_doorsBetween_37, eX4_doorsBetween_38, eX4_doorsBetween_41, eX4_doorsBetween_42, eX4_doorsBetween_43, eX4_doorsBetween_46, eX4_doorsBetween_49, eX4_doorsBetween_50, Int.cast_ofNat_Int, Nat.reduceLT, Nat.reduceLeDiff, Nat.reduceEqDiff, Nat.reduceAdd, Nat.reduceMul, Int.reduceLE, Int.reduceLT, Int.reduceEq, not_false_iff, nlr, Nat.zero_add, Nat.add_zero, e10f, e01f, eq_self, true_and, and_true, false_and, and_false, and_self, decide_true, decide_false, mm_bd_i, mm_bd_v, if_true, if_false, not_true_eq_false, not_false_eq_true, nI_1, Bool.true_eq_false, Bool.false_eq_true, bI_0, n_le0, n_0lt, n_lt0, n_0le, n_eq0, n_eqm, n_eq1, n_le1, n_1lt, n_1le, n_lt1, nn_le, nI_ltI, nI_eq, nI_clamp, nI_add, pk_mul, i_eq0, i_eqm, i_0le, i_le0, i_0lt, i_lt0, i_mle, i_ltm, ii_le, iI_lt, iI_eq, ni_le, ni_lt, ni_eq, in_le, in_lt, in_eq, ni_add, in_add, ni_sub, in_sub, ni_mul, in_mul, iI_add, iI_sub, iI_mul, i_p1, iI_neg, n_neg, hk, lg_cmp_eq, c]
      | false =>
        have c : S &&& rS K t = 0 := g.mpr e
        obtain ⟨R, b1, b2⟩ := cPl_behind (d + 1) z F I L K hz h0 h _ S hS
        obtain ⟨v, k1, k2⟩ := ih (S ||| R) (fun a ha => by
          rw [lb_or, Bool.or_eq_true, hS a ha, b2 a ha]
          constructor
          · rintro (⟨r, r1, r2, r3⟩ | ⟨r, r1, r2, r3⟩)
            · exact ⟨r, r1, lv_mono K o r (by omega) r2, r3⟩
            · exact ⟨r, r1, by
                rw [lvB, Bool.or_eq_true]
                exact Or.inr r2, r3⟩
          · rintro ⟨r, r1, r2, r3⟩
            rw [lvB, Bool.or_eq_true] at r2
            rcases r2 with q | q
            · exact Or.inl ⟨r, r1, q, r3⟩
            · exact Or.inr ⟨r, r1, q, r3⟩) (fun j hj => by
          by_cases q : j = k
          · rw [q]; exact e
          · exact hn j (by omega))
        refine ⟨v, ?_, k2⟩
        rw [← k1, eX4_doorsBetween_16]
        simp (disch := first | assumption | exact bI_or _ | exact zOK_O hz (by decide) (by decide) rfl | exact zOK_T hz (by decide) (by decide) rfl | (refine ix (zOK_l hz (by decide) (by decide) rfl) ?_; omega) | decide | omega) only [eX4_doorsBetween_0, eX4_doorsBetween_1, eX4_doorsBetween_2, eX4_doorsBetween_5, eX4_doorsBetween_6, eX4_doorsBetween_7, eX4_doorsBetween_8, eX4_doorsBetween_11, eX4_doorsBetween_13, eX4_doorsBetween_14, eX4_doorsBetween_18, eX4_doorsBetween_20, eX4_doorsBetween_23, eX4_doorsBetween_24, eX4_doorsBetween_26, eX4_doorsBetween_27, eX4_doorsBetween_28, eX4_doorsBetween_29, eX4_doorsBetween_32, eX4_doorsBetween_34, eX4_doorsBetween_35, eX4_doorsBetween_36, eX4_doorsBetween_37, eX4_doorsBetween_38, eX4_doorsBetween_41, eX4_doorsBetween_42, eX4_doorsBetween_43, eX4_doorsBetween_46, eX4_doorsBetween_49, eX4_doorsBetween_50, Int.cast_ofNat_Int, Nat.reduceLT, Nat.reduceLeDiff, Nat.reduceEqDiff, Nat.reduceAdd, Nat.reduceMul, Int.reduceLE, Int.reduceLT, Int.reduceEq, not_false_iff, nlr, Nat.zero_add, Nat.add_zero, e10f, e01f, eq_self, true_and, and_true, false_and, and_false, and_self, decide_true, decide_false, mm_bd_i, mm_bd_v, if_true, if_false, not_true_eq_false, not_false_eq_true, nI_1, Bool.true_eq_false, Bool.false_eq_true, bI_0, n_le0, n_0lt, n_lt0, n_0le, n_eq0, n_eqm, n_eq1, n_le1, n_1lt, n_1le, n_lt1, nn_le, nI_ltI, nI_eq, nI_clamp, nI_add, pk_mul, i_eq0, i_eqm, i_0le, i_le0, i_0lt, i_lt0, i_mle, i_ltm, ii_le, iI_lt, iI_eq, ni_le, ni_lt, ni_eq, in_le, in_lt, in_eq, ni_add, in_add, ni_sub, in_sub, ni_mul, in_mul, iI_add, iI_sub, iI_mul, i_p1, iI_neg, n_neg, hk, lg_cmp_eq, c, b1]
  obtain ⟨v, k1, k2⟩ := l 0 (by omega) (rS K o) (fun a ha => by
    constructor
    · intro q; exact ⟨o, ho, by rw [lvB]; simp, q⟩
    · rintro ⟨r, r1, r2, r3⟩
      rw [lvB, decide_eq_true_eq] at r2
      rw [← r2]; exact r3) (fun j hj => absurd hj (by omega))
  refine ⟨v, ?_, k2⟩
  rw [← k1]
  simp (disch := first | assumption | exact bI_or _ | exact zOK_O hz (by decide) (by decide) rfl | exact zOK_T hz (by decide) (by decide) rfl | (refine ix (zOK_l hz (by decide) (by decide) rfl) ?_; omega) | decide | omega) only [eX4_doorsBetween_0, eX4_doorsBetween_1, eX4_doorsBetween_2, eX4_doorsBetween_5, eX4_doorsBetween_6, eX4_doorsBetween_7, eX4_doorsBetween_8, eX4_doorsBetween_11, eX4_doorsBetween_13, eX4_doorsBetween_14, eX4_doorsBetween_18, eX4_doorsBetween_20, eX4_doorsBetween_23, eX4_doorsBetween_24, eX4_doorsBetween_26, eX4_doorsBetween_27, eX4_doorsBetween_28, eX4_doorsBetween_29, eX4_doorsBetween_32, eX4_doorsBetween_34, eX4_doorsBetween_35, eX4_doorsBetween_36, eX4_doorsBetween_37, eX4_doorsBetween_38, eX4_doorsBetween_41, eX4_doorsBetween_42, eX4_doorsBetween_43, eX4_doorsBetween_46, eX4_doorsBetween_49, eX4_doorsBetween_50, Int.cast_ofNat_Int, Nat.reduceLT, Nat.reduceLeDiff, Nat.reduceEqDiff, Nat.reduceAdd, Nat.reduceMul, Int.reduceLE, Int.reduceLT, Int.reduceEq, not_false_iff, nlr, Nat.zero_add, Nat.add_zero, e10f, e01f, eq_self, true_and, and_true, false_and, and_false, and_self, decide_true, decide_false, mm_bd_i, mm_bd_v, if_true, if_false, not_true_eq_false, not_false_eq_true, nI_1, Bool.true_eq_false, Bool.false_eq_true, bI_0, n_le0, n_0lt, n_lt0, n_0le, n_eq0, n_eqm, n_eq1, n_le1, n_1lt, n_1le, n_lt1, nn_le, nI_ltI, nI_eq, nI_clamp, nI_add, pk_mul, i_eq0, i_eqm, i_0le, i_le0, i_0lt, i_lt0, i_mle, i_ltm, ii_le, iI_lt, iI_eq, ni_le, ni_lt, ni_eq, in_le, in_lt, in_eq, ni_add, in_add, ni_sub, in_sub, ni_mul, in_mul, iI_add, iI_sub, iI_mul, i_p1, iI_neg, n_neg, c1, c2]
  rfl
theorem cX_away_unk (d : Nat) (z : mm_Z) (F : Nat → Nat → Value) (I : Nat → Nat → Int32) (L : Nat → Nat → Int64) (K : Nat → Nat) (hz : zOK z) (ht : cTop F) (h0 : cH0 F) (h : cPn K F L) (x y : Int32) (hn : ¬ ((0 ≤ x.toInt ∧ x.toInt < rN K) ∧ (0 ≤ y.toInt ∧ y.toInt < rN K))) : mm_E (d + 2) mX10_away 0 [.ref 2, .int x, .int y, uu] [] (z, F, I, L) = some (some (.int (-2)), (z, F, I, L)) := by
  have i1 := fun d' => cPl_isRoom d' z F I L K hz h x
  have i2 := fun d' => cPl_isRoom d' z F I L K hz h y
  by_cases c : 0 ≤ x.toInt ∧ x.toInt < rN K
  · have c2 : ¬ (0 ≤ y.toInt ∧ y.toInt < rN K) := fun q => hn ⟨c, q⟩
    simp (disch := first | assumption | exact bI_or _ | exact zOK_O hz (by decide) (by decide) rfl | exact zOK_T hz (by decide) (by decide) rfl | (refine ix (zOK_l hz (by decide) (by decide) rfl) ?_; omega) | decide | omega) only [eX10_away_0, eX10_away_1, eX10_away_4, eX10_away_7, eX10_away_7N, eX10_away_8, eX10_away_9, eX10_away_10, eX10_away_13, eX10_away_16, eX10_away_17, eX10_away_18, eX10_away_21, eX10_away_24, eX10_away_25, eX10_away_26, eX10_away_27, eX10_away_30, eX10_away_33, eX10_away_35, Int.cast_ofNat_Int, Nat.reduceLT, Nat.reduceLeDiff, Nat.reduceEqDiff, Nat.reduceAdd, Nat.reduceMul, Int.reduceLE, Int.reduceLT, Int.reduceEq, not_false_iff, nlr, Nat.zero_add, Nat.add_zero, e10f, e01f, eq_self, true_and, and_true, false_and, and_false, and_self, decide_true, decide_false, mm_bd_i, mm_bd_v, if_true, if_false, not_true_eq_false, not_false_eq_true, nI_1, Bool.true_eq_false, Bool.false_eq_true, bI_0, n_le0, n_0lt, n_lt0, n_0le, n_eq0, n_eqm, n_eq1, n_le1, n_1lt, n_1le, n_lt1, nn_le, nI_ltI, nI_eq, nI_clamp, nI_add, pk_mul, i_eq0, i_eqm, i_0le, i_le0, i_0lt, i_lt0, i_mle, i_ltm, ii_le, iI_lt, iI_eq, ni_le, ni_lt, ni_eq, in_le, in_lt, in_eq, ni_add, in_add, ni_sub, in_sub, ni_mul, in_mul, iI_add, iI_sub, iI_mul, i_p1, iI_neg, n_neg, ht.1, h0.1.2.2.1, i1, i2, c, c2]
  · simp (disch := first | assumption | exact bI_or _ | exact zOK_O hz (by decide) (by decide) rfl | exact zOK_T hz (by decide) (by decide) rfl | (refine ix (zOK_l hz (by decide) (by decide) rfl) ?_; omega) | decide | omega) only [eX10_away_0, eX10_away_1, eX10_away_4, eX10_away_7, eX10_away_7N, eX10_away_8, eX10_away_9, eX10_away_10, eX10_away_13, eX10_away_16, eX10_away_17, eX10_away_18, eX10_away_21, eX10_away_24, eX10_away_25, eX10_away_26, eX10_away_27, eX10_away_30, eX10_away_33, eX10_away_35, Int.cast_ofNat_Int, Nat.reduceLT, Nat.reduceLeDiff, Nat.reduceEqDiff, Nat.reduceAdd, Nat.reduceMul, Int.reduceLE, Int.reduceLT, Int.reduceEq, not_false_iff, nlr, Nat.zero_add, Nat.add_zero, e10f, e01f, eq_self, true_and, and_true, false_and, and_false, and_self, decide_true, decide_false, mm_bd_i, mm_bd_v, if_true, if_false, not_true_eq_false, not_false_eq_true, nI_1, Bool.true_eq_false, Bool.false_eq_true, bI_0, n_le0, n_0lt, n_lt0, n_0le, n_eq0, n_eqm, n_eq1, n_le1, n_1lt, n_1le, n_lt1, nn_le, nI_ltI, nI_eq, nI_clamp, nI_add, pk_mul, i_eq0, i_eqm, i_0le, i_le0, i_0lt, i_lt0, i_mle, i_ltm, ii_le, iI_lt, iI_eq, ni_le, ni_lt, ni_eq, in_le, in_lt, in_eq, ni_add, in_add, ni_sub, in_sub, ni_mul, in_mul, iI_add, iI_sub, iI_mul, i_p1, iI_neg, n_neg, ht.1, h0.1.2.2.1, i1, c]
theorem cX_away (d : Nat) (z : mm_Z) (F : Nat → Nat → Value) (I : Nat → Nat → Int32) (L : Nat → Nat → Int64) (K : Nat → Nat) (hz : zOK z) (ht : cTop F) (h0 : cH0 F) (h : cPn K F L) (o t : Nat) (ho : o < rN K) (hk : t < rN K) : ∃ v, mm_E (d + 4) mX10_away 0 [.ref 2, .int (nI o), .int (nI t), uu] [] (z, F, I, L) = some (some (.int (iI v)), (z, F, I, L)) ∧ awP K o t v := by
  have rl := rN_le K
  have i1 := fun d' => cPl_isRoom d' z F I L K hz h (nI o)
  have i2 := fun d' => cPl_isRoom d' z F I L K hz h (nI t)
  have q1 : 0 ≤ (o : Int) ∧ (o : Int) < rN K := by omega
  have q2 : 0 ≤ (t : Int) ∧ (t : Int) < rN K := by omega
  obtain ⟨v, k1, k2⟩ := cPl_away d z F I L K hz h0 h o t ho hk
  refine ⟨v, ?_, k2⟩
  simp (disch := first | assumption | exact bI_or _ | exact zOK_O hz (by decide) (by decide) rfl | exact zOK_T hz (by decide) (by decide) rfl | (refine ix (zOK_l hz (by decide) (by decide) rfl) ?_; omega) | decide | omega) only [eX10_away_0, eX10_away_1, eX10_away_4, eX10_away_7, eX10_away_7N, eX10_away_8, eX10_away_9, eX10_away_10, eX10_away_13, eX10_away_16, eX10_away_17, eX10_away_18, eX10_away_21, eX10_away_24, eX10_away_25, eX10_away_26, eX10_away_27, eX10_away_30, eX10_away_33, eX10_away_35, Int.cast_ofNat_Int, Nat.reduceLT, Nat.reduceLeDiff, Nat.reduceEqDiff, Nat.reduceAdd, Nat.reduceMul, Int.reduceLE, Int.reduceLT, Int.reduceEq, not_false_iff, nlr, Nat.zero_add, Nat.add_zero, e10f, e01f, eq_self, true_and, and_true, false_and, and_false, and_self, decide_true, decide_false, mm_bd_i, mm_bd_v, if_true, if_false, not_true_eq_false, not_false_eq_true, nI_1, Bool.true_eq_false, Bool.false_eq_true, bI_0, n_le0, n_0lt, n_lt0, n_0le, n_eq0, n_eqm, n_eq1, n_le1, n_1lt, n_1le, n_lt1, nn_le, nI_ltI, nI_eq, nI_clamp, nI_add, pk_mul, i_eq0, i_eqm, i_0le, i_le0, i_0lt, i_lt0, i_mle, i_ltm, ii_le, iI_lt, iI_eq, ni_le, ni_lt, ni_eq, in_le, in_lt, in_eq, ni_add, in_add, ni_sub, in_sub, ni_mul, in_mul, iI_add, iI_sub, iI_mul, i_p1, iI_neg, n_neg, ht.1, h0.1.2.2.1, i1, i2, tI0, tI1, tIm1, tIm7, nI_toInt, iI_toInt, Int.cast_ofNat_Int, q1, q2, k1]
