/-! the head of the law, and the first state -/
def sG (N : Nat) : Nat → Nat ⊕ (Nat × Nat) := i11g (va_up (cG9 (va_up (fun r => if r = 1 then .inr (6, N) else .inl 99) 2 (.inl 10))) 120 (.inl 11))
def sF : Nat → Nat → Value := i11F (va_up (cF9 (va_up (fun _ _ => .null) 2 (dfF 10))) 120 (dfF 11))
def sI (xs : Nat → Int32) : Nat → Nat → Int32 := cI1 (fun r => if r = 1 then xs else fun _ => 0)
def sL : Nat → Nat → Int64 := iCL 73 (fun _ _ => 0) 3
theorem sL_0 (x : Nat) (h : ¬ (74 ≤ x ∧ x ≤ 76)) : sL x = fun _ => 0 := by
  show mm_up2 (mm_up2 (mm_up2 (fun _ _ => 0) (73 + (1 + 0)) 0 (-1)) (73 + (1 + 1)) 0 (-1)) (73 + (1 + 2)) 0 (-1) x = _
  rw [up_row _ _ _ (by omega), up_row _ _ _ (by omega), up_row _ _ _ (by omega)]
theorem sI_0 (xs : Nat → Int32) (x : Nat) (h : ¬ x = 57) (h1 : ¬ x = 1) : sI xs x = fun _ => 0 := by
  unfold sI cI1
  rw [up_row _ _ _ h, up_row _ _ _ h, up_row _ _ _ h, if_neg h1]
theorem lw_head (d N : Nat) (xs : Nat → Int32) : ∃ Q, mm_E (d + 31) mL_law 0 [.ref 1, uu, uu, uu] [] (mm_H0 N xs) = mm_E (d + 31) mL_law 18 [.ref 1, .ref 2, .ref 120, .int (nI 0)] [] ((150, Q, sG N), sF, sI xs, sL) ∧ Q ≤ 10000 := by
  have d10 : (fun j => defaultValue (mm_ty 10 j)) = dfF 10 := rfl
  have d11 : (fun j => defaultValue (mm_ty 11 j)) = dfF 11 := rfl
  obtain ⟨Q, e1, e2⟩ := mk10 (d + 27) (0 + mm_nf 10) (va_up (fun r => if r = 1 then .inr (6, N) else .inl 99) 2 (.inl 10)) (va_up (fun _ _ => .null) 2 (dfF 10)) (fun r => if r = 1 then xs else fun _ => 0) (fun _ _ => 0) (vu_s _ _ _) (fun x hx => if_neg (by omega)) (fun _ _ => rfl)
  have e3 := mk11 (d + 30) (Q + mm_nf 11) (va_up (cG9 (va_up (fun r => if r = 1 then .inr (6, N) else .inl 99) 2 (.inl 10))) 120 (.inl 11)) (va_up (cF9 (va_up (fun _ _ => .null) 2 (dfF 10))) 120 (dfF 11)) (sI xs) sL (vu_s _ _ _) (fun x hx => sI_0 xs x (by omega) (by omega)) (fun x hx => sL_0 x (by omega))
  have z10 : mm_zO (2 + 1, 0 + mm_nf 10, va_up (fun r => if r = 1 then .inr (6, N) else .inl 99) 2 (.inl 10)) 2 10 := zO_new (by omega)
  have z11 : mm_zO (120 + 1, Q + mm_nf 11, va_up (cG9 (va_up (fun r => if r = 1 then .inr (6, N) else .inl 99) 2 (.inl 10))) 120 (.inl 11)) 120 11 := zO_new (by omega)
  refine ⟨i11q (Q + mm_nf 11), ?_, ?_⟩
  · unfold mm_H0
    simp (disch := first | assumption) only [eL_law_0, eL_law_3, mm_nO, d10]
    simp (disch := first | assumption) only [eL_law_4]
    rw [show (2 + 1 : Nat) = 3 from rfl, show d + 30 = d + 27 + 3 from rfl, e1]
    simp (disch := first | assumption) only [eL_law_7, eL_law_7N, eL_law_8, eL_law_11, mm_nO, mm_bd_v, d11]
    simp (disch := first | assumption) only [eL_law_12]
    rw [show (120 + 1 : Nat) = 121 from rfl]
    show mm_bd _ _ _ _ _ (mm_E (d + 30) mX11_init 0 [.ref 120] [] ((121, Q + mm_nf 11, _), _, sI xs, sL)) = _
    rw [e3]
    simp (disch := first | assumption) only [eL_law_15, eL_law_15N, eL_law_16, eL_law_17, mm_bd_v]
    rfl
  · have n10 : mm_nf 10 = 9 := rfl
    have n11 : mm_nf 11 = 50 := rfl
    unfold i11q
    omega
theorem sG_kt (N : Nat) : ∀ r, 2 ≤ r → r < 150 → sG N r = mm_kt.getD r (.inl 99) := by
  intro r h2 hr
  match r, h2, hr with
  | 0, h, _ => exact absurd h (by omega)
  | 1, h, _ => exact absurd h (by omega)
  | 2, _, _ => rfl
  | 3, _, _ => rfl
  | 4, _, _ => rfl
  | 5, _, _ => rfl
  | 6, _, _ => rfl
  | 7, _, _ => rfl
  | 8, _, _ => rfl
  | 9, _, _ => rfl
  | 10, _, _ => rfl
  | 11, _, _ => rfl
  | 12, _, _ => rfl
  | 13, _, _ => rfl
  | 14, _, _ => rfl
  | 15, _, _ => rfl
  | 16, _, _ => rfl
  | 17, _, _ => rfl
  | 18, _, _ => rfl
  | 19, _, _ => rfl
  | 20, _, _ => rfl
  | 21, _, _ => rfl
  | 22, _, _ => rfl
  | 23, _, _ => rfl
  | 24, _, _ => rfl
  | 25, _, _ => rfl
  | 26, _, _ => rfl
  | 27, _, _ => rfl
  | 28, _, _ => rfl
  | 29, _, _ => rfl
  | 30, _, _ => rfl
  | 31, _, _ => rfl
  | 32, _, _ => rfl
  | 33, _, _ => rfl
  | 34, _, _ => rfl
  | 35, _, _ => rfl
  | 36, _, _ => rfl
  | 37, _, _ => rfl
  | 38, _, _ => rfl
  | 39, _, _ => rfl
  | 40, _, _ => rfl
  | 41, _, _ => rfl
  | 42, _, _ => rfl
  | 43, _, _ => rfl
  | 44, _, _ => rfl
  | 45, _, _ => rfl
  | 46, _, _ => rfl
  | 47, _, _ => rfl
  | 48, _, _ => rfl
  | 49, _, _ => rfl
  | 50, _, _ => rfl
  | 51, _, _ => rfl
  | 52, _, _ => rfl
  | 53, _, _ => rfl
  | 54, _, _ => rfl
  | 55, _, _ => rfl
  | 56, _, _ => rfl
  | 57, _, _ => rfl
  | 58, _, _ => rfl
  | 59, _, _ => rfl
  | 60, _, _ => rfl
  | 61, _, _ => rfl
  | 62, _, _ => rfl
  | 63, _, _ => rfl
  | 64, _, _ => rfl
  | 65, _, _ => rfl
  | 66, _, _ => rfl
  | 67, _, _ => rfl
  | 68, _, _ => rfl
  | 69, _, _ => rfl
  | 70, _, _ => rfl
  | 71, _, _ => rfl
  | 72, _, _ => rfl
  | 73, _, _ => rfl
  | 74, _, _ => rfl
  | 75, _, _ => rfl
  | 76, _, _ => rfl
  | 77, _, _ => rfl
  | 78, _, _ => rfl
  | 79, _, _ => rfl
  | 80, _, _ => rfl
  | 81, _, _ => rfl
  | 82, _, _ => rfl
  | 83, _, _ => rfl
  | 84, _, _ => rfl
  | 85, _, _ => rfl
  | 86, _, _ => rfl
  | 87, _, _ => rfl
  | 88, _, _ => rfl
  | 89, _, _ => rfl
  | 90, _, _ => rfl
  | 91, _, _ => rfl
  | 92, _, _ => rfl
  | 93, _, _ => rfl
  | 94, _, _ => rfl
  | 95, _, _ => rfl
  | 96, _, _ => rfl
  | 97, _, _ => rfl
  | 98, _, _ => rfl
  | 99, _, _ => rfl
  | 100, _, _ => rfl
  | 101, _, _ => rfl
  | 102, _, _ => rfl
  | 103, _, _ => rfl
  | 104, _, _ => rfl
  | 105, _, _ => rfl
  | 106, _, _ => rfl
  | 107, _, _ => rfl
  | 108, _, _ => rfl
  | 109, _, _ => rfl
  | 110, _, _ => rfl
  | 111, _, _ => rfl
  | 112, _, _ => rfl
  | 113, _, _ => rfl
  | 114, _, _ => rfl
  | 115, _, _ => rfl
  | 116, _, _ => rfl
  | 117, _, _ => rfl
  | 118, _, _ => rfl
  | 119, _, _ => rfl
  | 120, _, _ => rfl
  | 121, _, _ => rfl
  | 122, _, _ => rfl
  | 123, _, _ => rfl
  | 124, _, _ => rfl
  | 125, _, _ => rfl
  | 126, _, _ => rfl
  | 127, _, _ => rfl
  | 128, _, _ => rfl
  | 129, _, _ => rfl
  | 130, _, _ => rfl
  | 131, _, _ => rfl
  | 132, _, _ => rfl
  | 133, _, _ => rfl
  | 134, _, _ => rfl
  | 135, _, _ => rfl
  | 136, _, _ => rfl
  | 137, _, _ => rfl
  | 138, _, _ => rfl
  | 139, _, _ => rfl
  | 140, _, _ => rfl
  | 141, _, _ => rfl
  | 142, _, _ => rfl
  | 143, _, _ => rfl
  | 144, _, _ => rfl
  | 145, _, _ => rfl
  | 146, _, _ => rfl
  | 147, _, _ => rfl
  | 148, _, _ => rfl
  | 149, _, _ => rfl
  | k + 150, _, h => exact absurd h (by omega)
theorem sG_1 (N : Nat) : sG N 1 = .inr (6, N) := rfl
theorem sZ (N Q : Nat) : zOK (150, Q, sG N) := ⟨rfl, sG_kt N⟩
theorem sZS (N Q : Nat) : mm_zS (150, Q, sG N) ∧ mm_zl (150, Q, sG N) 1 = N := by
  have e : mm_zl (150, Q, sG N) 1 = N := by
    unfold mm_zl
    dsimp only
    rw [sG_1]
  refine ⟨?_, e⟩
  unfold mm_zS
  rw [e]
  dsimp only
  exact sG_1 N
theorem eight {P : Nat → Prop} (h0 : P 0) (h1 : P 1) (h2 : P 2) (h3 : P 3) (h4 : P 4) (h5 : P 5) (h6 : P 6) (h7 : P 7) : ∀ s, s < 8 → P s := by
  intro w hw
  match w, hw with
  | 0, _ => exact h0
  | 1, _ => exact h1
  | 2, _ => exact h2
  | 3, _ => exact h3
  | 4, _ => exact h4
  | 5, _ => exact h5
  | 6, _ => exact h6
  | 7, _ => exact h7
  | k + 8, h => exact absurd h (by omega)
set_option maxRecDepth 20000 in
theorem sF_M : FixM sF := by
  unfold FixM mm_stM
  simp only [List.forall_mem_cons]
  exact ⟨rfl, rfl, rfl, rfl, rfl, rfl, rfl, rfl, rfl, rfl, rfl, rfl, rfl, rfl, rfl, rfl, rfl, rfl, rfl, rfl, rfl, rfl, rfl, rfl, rfl, rfl, rfl, rfl, rfl, fun _ h => absurd h (by simp)⟩
theorem kd_0 (hs : Nat → List (Int × Int × Nat)) (st : Nat → Option (Nat × Nat)) : kd 0 hs st = fun _ => 0 := funext (fun _ => rfl)
theorem drC_0 : drC (fun _ => 0) = fun _ => false := by
  funext c
  rfl
theorem rmF_0 : ∀ c, rmF (fun _ => 0) c = (fun _ => false, 0, fun _ => 0) := by
  intro c
  induction c with
  | zero => rfl
  | succ c ih =>
    rw [rmF, if_neg (fun q => by have := q.1; unfold flB at this; simp at this)]
    exact ih
theorem rN_0 : rN (fun _ => 0) = 0 := by unfold rN; rw [rmF_0]
theorem lOr_0 : lOr (fun _ => false) 64 = 0 := by
  apply lb_ext
  intro i hi
  rw [lb_lOr _ _ _ (by omega), lb_0, Bool.and_false]
def lm0 : Nat → Nat := fun k => if k = 0 then 3 else 0
set_option maxRecDepth 20000 in
theorem s_hall (xs : Nat → Int32) : cHl 0 (fun _ => []) (fun _ => none) sF (sI xs) sL := by
  refine ⟨⟨⟨rfl, rfl, rfl, rfl, rfl⟩, ?_⟩, ⟨rfl, rfl, fun s h => absurd h (by omega), ?_⟩, fun s c t h => absurd h (by omega), ⟨0, 0, rfl, rfl, fun a _ => lb_0 a, fun a _ => lb_0 a⟩, ?_⟩
  · apply eight <;> exact ⟨rfl, rfl, rfl⟩
  · have h8 : ∀ s, s < 8 → swp s [] sF (sI xs) ∧ sF (9 + 6 * s) 5 = .int (bI false) := by
      apply eight <;> exact ⟨⟨⟨rfl, rfl, rfl⟩, rfl, fun k h => absurd h (by simp)⟩, rfl⟩
    exact fun s _ h => h8 s h
  · rw [kd_0]
    refine ⟨⟨0, rfl, fun a _ => lb_0 a⟩, ?_, ?_, ?_⟩
    · rw [drC_0, lOr_0]; rfl
    · rw [rN_0]; rfl
    · intro r h; rw [rN_0] at h; omega
set_option maxRecDepth 20000 in
theorem s_C (xs : Nat → Int32) : gC 0 (fun _ => []) (fun _ => none) lm0 0 (fun _ => 0) 0 th0 (fun _ _ => 0) 0 (fun _ => 0) (fun _ => 0) (fun _ => 0) (fun _ => 0) 0 (fun _ => 0) (fun _ => false) 0 (fun _ => 0) (fun _ => 0) (fun _ => 0) sF (sI xs) sL := by
  refine ⟨⟨rfl, rfl, rfl, rfl, rfl, rfl, rfl⟩, s_hall xs, ?_, ⟨rfl, rfl, fun i h => absurd h (by omega)⟩, ⟨60, 66, Or.inl ⟨rfl, rfl⟩, rfl, rfl, ⟨rfl, rfl, rfl, rfl, rfl⟩, ⟨rfl, rfl, rfl, rfl, rfl⟩, rfl, fun q h => absurd h (by omega)⟩, ⟨⟨⟨rfl, rfl, rfl, rfl⟩, ?_⟩, ?_⟩, ?_, ⟨rfl, rfl, rfl, fun i h => absurd h (by omega)⟩, ⟨rfl, rfl, rfl, rfl, rfl, fun i h => absurd h (by omega)⟩⟩
  · intro k hk
    have : k = 0 ∨ k = 1 ∨ k = 2 := by omega
    rcases this with rfl | rfl | rfl <;> rfl
  · intro k hk
    have : k = 0 ∨ k = 1 ∨ k = 2 := by omega
    rcases this with rfl | rfl | rfl <;> rfl
  · intro k hk x hx a ha
    have e : ∀ x, sL (74 + k) x = if x = 0 then -1 else 0 := by
      intro x
      have : k = 0 ∨ k = 1 ∨ k = 2 := by omega
      show mm_up2 (mm_up2 (mm_up2 (fun _ _ => 0) (73 + (1 + 0)) 0 (-1)) (73 + (1 + 1)) 0 (-1)) (73 + (1 + 2)) 0 (-1) (74 + k) x = _
      unfold mm_up2
      rcases this with rfl | rfl | rfl <;> by_cases q : x = 0 <;> simp [q]
    rw [e x]
    by_cases q : x = 0
    · rw [if_pos q, lb_m1 a ha, q]; rfl
    · rw [if_neg q, lb_0, decide_eq_false (fun h => q h.symm)]
  · refine ⟨⟨⟨rfl, rfl, rfl, rfl, rfl, rfl⟩, ?_, rfl, fun j h => absurd h (by omega)⟩, 0, 0, 0, rfl, rfl, rfl, by omega, fun _ => ⟨by decide, ⟨fun _ => 0, fun j h => absurd h (by omega)⟩, fun T hT _ => ?_⟩⟩
    · intro i hi
      match i, hi with
      | 0, _ => exact ⟨rfl, rfl⟩
      | 1, _ => exact ⟨rfl, rfl⟩
      | 2, _ => exact ⟨rfl, rfl⟩
      | 3, _ => exact ⟨rfl, rfl⟩
      | 4, _ => exact ⟨rfl, rfl⟩
      | 5, _ => exact ⟨rfl, rfl⟩
      | 6, _ => exact ⟨rfl, rfl⟩
      | 7, _ => exact ⟨rfl, rfl⟩
      | 8, _ => exact ⟨rfl, rfl⟩
      | 9, _ => exact ⟨rfl, rfl⟩
      | 10, _ => exact ⟨rfl, rfl⟩
      | 11, _ => exact ⟨rfl, rfl⟩
      | 12, _ => exact ⟨rfl, rfl⟩
      | k + 13, h => exact absurd h (by omega)
    · have e : T = 0 := by have : (2 : Nat) ^ 0 = 1 := rfl; omega
      subst e
      exact Or.inr ⟨rfl, by omega⟩
set_option maxRecDepth 20000 in
theorem s_R (xs : Nat → Int32) : gR 0 (fun _ => []) (fun _ => none) lm0 0 (fun _ => 0) 0 th0 (fun _ _ => 0) 0 (fun _ => 0) (fun _ => 0) (fun _ => 0) (fun _ => 0) 0 (fun _ => 0) (fun _ => false) 0 (fun _ => 0) (fun _ => 0) (fun _ => 0) sF (sI xs) := by
  refine ⟨sF_M, ⟨rfl, fun s h => absurd h (by omega), fun s k h => absurd h (by omega), fun s h => absurd h (by omega), fun s c t h => absurd h (by omega)⟩, ⟨rfl, rfl, rfl⟩, ⟨rfl, fun i h => absurd h (by omega)⟩, ⟨rfl, fun i h => absurd h (by omega)⟩, ?_, ⟨rfl, fun i h => absurd h (by omega)⟩, ⟨rfl, fun i h => absurd h (by omega)⟩, ⟨rfl, fun i h => absurd h (by omega)⟩⟩
  intro k hk a ha
  rw [sI_0 xs 136 (by omega) (by omega)]
  rfl
theorem s_I (xs : Nat → Int32) : gI sF (sI xs) sL := ⟨0, _, _, lm0, 0, _, 0, th0, _, 0, _, _, _, _, 0, _, _, 0, _, _, _, ⟨⟨by omega, fun s h => absurd h (by omega)⟩, ⟨by decide, by decide, by decide⟩, ⟨by omega, fun i h => absurd h (by omega)⟩, ⟨by omega, fun i h => absurd h (by omega)⟩, fun _ _ => by omega, ⟨by omega, fun i h => absurd h (by omega)⟩, ⟨by omega, fun i h => absurd h (by omega)⟩, ⟨by omega, fun i h => absurd h (by omega)⟩⟩, s_C xs, s_R xs⟩
theorem lw_all (d N : Nat) (xs : Nat → Int32) (hN : N ≤ 2560) : ∃ H1, mm_E (d + 31) mL_law 0 [.ref 1, uu, uu, uu] [] (mm_H0 N xs) = some (some (.int 1), H1) ∧ H1.1.1 ≤ 600000 ∧ H1.1.2.1 ≤ 7302250 := by
  obtain ⟨Q, e1, e2⟩ := lw_head d N xs
  obtain ⟨zs, zl⟩ := sZS N Q
  obtain ⟨F', I', L', e3⟩ := lw_loop_all d (150, Q, sG N) (sZ N Q) zs (by rw [zl]; exact hN) 513 0 sF (sI xs) sL (by rw [zl]; omega) (by omega) (s_I xs)
  exact ⟨_, e1.trans e3, by dsimp only; omega, by dsimp only; omega⟩
