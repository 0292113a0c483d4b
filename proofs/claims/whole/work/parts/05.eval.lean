/-! what the small machine comes to, without counting instructions -/
theorem mm_run_s (n d : Nat) (M : mm_M) (pc : Nat) (ls st : List Value) (H : mm_H) : mm_run (n + 1) d M pc ls st H = match mm_S M pc ls st H with
    | none => none
    | some (.inl (pc, ls, st, H)) => mm_run n d M pc ls st H
    | some (.inr (.inr r)) => some r
    | some (.inr (.inl (C, As, st))) => match (if C.2.2.2.2.2.2.1 = 3 then mm_wk As H else match d, mm_in C As with
        | d + 1, some l => mm_run n d C 0 l [] H
        | _, _ => none) with
      | some (v, H) => mm_run n d M (pc + 3) ls (v.toList ++ st) H
      | none => none := rfl
/-- a call, by what runs are -/
def mm_cr (run : Nat → mm_M → Nat → List Value → List Value → mm_H → mm_R) (d : Nat) (C : mm_M) (As : List Value) (H : mm_H) : mm_R :=
  if C.2.2.2.2.2.2.1 = 3 then mm_wk As H else match d, mm_in C As with
    | d + 1, some l => run d C 0 l [] H
    | _, _ => none
/-- one instruction, then what runs are -/
def mm_nx (run : Nat → mm_M → Nat → List Value → List Value → mm_H → mm_R) (d : Nat) (M : mm_M) (pc : Nat) (ls : List Value) (H : mm_H) (q : mm_Q) : mm_R := match q with
    | none => none
    | some (.inl (pc, ls, st, H)) => run d M pc ls st H
    | some (.inr (.inr r)) => some r
    | some (.inr (.inl (C, As, st))) => match mm_cr run d C As H with
      | some (v, H) => run d M (pc + 3) ls (v.toList ++ st) H
      | none => none
theorem mm_run_nx (n d : Nat) (M : mm_M) (pc : Nat) (ls st : List Value) (H : mm_H) : mm_run (n + 1) d M pc ls st H = mm_nx (mm_run n) d M pc ls H (mm_S M pc ls st H) := rfl
def mm_le (a b : mm_R) : Prop := ∀ r, a = some r → b = some r
theorem mm_cr_mono {f g : Nat → mm_M → Nat → List Value → List Value → mm_H → mm_R} (h : ∀ d M pc ls st H, mm_le (f d M pc ls st H) (g d M pc ls st H)) (d : Nat) (C : mm_M) (As : List Value) (H : mm_H) : mm_le (mm_cr f d C As H) (mm_cr g d C As H) := by
  unfold mm_cr
  by_cases h3 : C.2.2.2.2.2.2.1 = 3
  · rw [if_pos h3, if_pos h3]; exact fun _ e => e
  · rw [if_neg h3, if_neg h3]
    cases d with
    | zero => exact fun _ e => e
    | succ d =>
      cases hi : mm_in C As with
      | none => exact fun _ e => e
      | some l => exact h d C 0 l [] H
theorem mm_nx_mono {f g : Nat → mm_M → Nat → List Value → List Value → mm_H → mm_R} (h : ∀ d M pc ls st H, mm_le (f d M pc ls st H) (g d M pc ls st H)) (d : Nat) (M : mm_M) (pc : Nat) (ls : List Value) (H : mm_H) (q : mm_Q) : mm_le (mm_nx f d M pc ls H q) (mm_nx g d M pc ls H q) := by
  match q with
  | none => exact fun _ e => e
  | some (.inl (pc, ls, st, H)) => exact h d M pc ls st H
  | some (.inr (.inr r)) => exact fun _ e => e
  | some (.inr (.inl (C, As, st))) =>
    intro r hr
    simp only [mm_nx] at hr ⊢
    cases hc : mm_cr f d C As H with
    | none => rw [hc] at hr; cases hr
    | some x =>
      rw [mm_cr_mono h d C As H x hc]
      rw [hc] at hr
      exact h _ _ _ _ _ _ _ hr
theorem mm_run_mono (n : Nat) : ∀ d M pc ls st H, mm_le (mm_run n d M pc ls st H) (mm_run (n + 1) d M pc ls st H) := by
  induction n with
  | zero => intro d M pc ls st H r h; cases h
  | succ n ih =>
    intro d M pc ls st H
    rw [mm_run_nx, mm_run_nx]
    exact mm_nx_mono ih d M pc ls H _
theorem mm_run_le {n m : Nat} (h : n ≤ m) : ∀ d M pc ls st H, mm_le (mm_run n d M pc ls st H) (mm_run m d M pc ls st H) := by
  induction h with
  | refl => intro d M pc ls st H r h; exact h
  | step h ih => intro d M pc ls st H r hr; exact mm_run_mono _ d M pc ls st H r (ih d M pc ls st H r hr)
noncomputable def mm_E (d : Nat) (M : mm_M) (pc : Nat) (ls st : List Value) (H : mm_H) : mm_R :=
  @dite mm_R (∃ r n, mm_run n d M pc ls st H = some r) (Classical.propDecidable _) (fun h => some (Classical.choose h)) (fun _ => none)
theorem mm_E_iff {d : Nat} {M : mm_M} {pc : Nat} {ls st : List Value} {H : mm_H} {r : Option Value × mm_H} : mm_E d M pc ls st H = some r ↔ ∃ n, mm_run n d M pc ls st H = some r := by
  unfold mm_E
  by_cases h : ∃ r n, mm_run n d M pc ls st H = some r
  · rw [dif_pos h]
    obtain ⟨m, hm⟩ := Classical.choose_spec h
    constructor
    · intro e
      cases e
      exact ⟨m, hm⟩
    · rintro ⟨n, hn⟩
      have h1 := mm_run_le (Nat.le_max_left n m) d M pc ls st H r hn
      have h2 := mm_run_le (Nat.le_max_right n m) d M pc ls st H _ hm
      rw [h1] at h2
      exact h2.symm
  · rw [dif_neg h]
    constructor
    · intro e; cases e
    · rintro ⟨n, hn⟩; exact (h ⟨r, n, hn⟩).elim
theorem mm_E_nx (d : Nat) (M : mm_M) (pc : Nat) (ls st : List Value) (H : mm_H) : mm_E d M pc ls st H = mm_nx mm_E d M pc ls H (mm_S M pc ls st H) := by
  apply Option.ext
  intro r
  rw [mm_E_iff]
  constructor
  · rintro ⟨n, hn⟩
    cases n with
    | zero => cases hn
    | succ n =>
      rw [mm_run_nx] at hn
      exact mm_nx_mono (fun d M pc ls st H r h => mm_E_iff.mpr ⟨n, h⟩) d M pc ls H _ r hn
  · intro h
    match hq : mm_S M pc ls st H with
    | none => rw [hq] at h; cases h
    | some (.inl (pc', ls', st', H')) =>
      rw [hq] at h
      obtain ⟨n, hn⟩ := mm_E_iff.mp h
      exact ⟨n + 1, by rw [mm_run_nx, hq]; exact hn⟩
    | some (.inr (.inr x)) =>
      rw [hq] at h
      exact ⟨1, by rw [mm_run_nx, hq]; exact h⟩
    | some (.inr (.inl (C, As, st'))) =>
      rw [hq] at h
      simp only [mm_nx] at h
      cases hc : mm_cr mm_E d C As H with
      | none => rw [hc] at h; cases h
      | some x =>
        rw [hc] at h
        obtain ⟨n, hn⟩ := mm_E_iff.mp h
        have hk : ∃ m, mm_cr (mm_run m) d C As H = some x := by
          unfold mm_cr at hc ⊢
          by_cases h3 : C.2.2.2.2.2.2.1 = 3
          · rw [if_pos h3] at hc
            exact ⟨0, by rw [if_pos h3]; exact hc⟩
          · rw [if_neg h3] at hc
            cases d with
            | zero => cases hc
            | succ d =>
              cases hi : mm_in C As with
              | none => rw [hi] at hc; cases hc
              | some l =>
                rw [hi] at hc
                obtain ⟨m, hm⟩ := mm_E_iff.mp hc
                exact ⟨m, by rw [if_neg h3]; exact hm⟩
        obtain ⟨m, hm⟩ := hk
        refine ⟨max n m + 1, ?_⟩
        rw [mm_run_nx, hq]
        simp only [mm_nx]
        rw [mm_cr_mono (mm_run_le (Nat.le_max_right n m)) d C As H x hm]
        exact mm_run_le (Nat.le_max_left n m) _ _ _ _ _ _ _ hn
/-- goes on -/
theorem mm_E_go {d : Nat} {M : mm_M} {pc pc' : Nat} {ls st ls' st' : List Value} {H H' : mm_H} (h : mm_S M pc ls st H = some (.inl (pc', ls', st', H'))) : mm_E d M pc ls st H = mm_E d M pc' ls' st' H' := by
  rw [mm_E_nx, h]; rfl
theorem mm_E_if {d : Nat} {M : mm_M} {pc pc1 pc2 : Nat} {ls st ls1 st1 ls2 st2 : List Value} {H H1 H2 : mm_H} {c : Prop} [Decidable c] (h : mm_S M pc ls st H = if c then some (.inl (pc1, ls1, st1, H1)) else some (.inl (pc2, ls2, st2, H2))) : mm_E d M pc ls st H = if c then mm_E d M pc1 ls1 st1 H1 else mm_E d M pc2 ls2 st2 H2 := by
  rw [mm_E_nx, h]
  by_cases hc : c
  · rw [if_pos hc, if_pos hc]; rfl
  · rw [if_neg hc, if_neg hc]; rfl
theorem mm_E_rt {d : Nat} {M : mm_M} {pc : Nat} {ls st : List Value} {H : mm_H} {r : Option Value × mm_H} (h : mm_S M pc ls st H = some (.inr (.inr r))) : mm_E d M pc ls st H = some r := by
  rw [mm_E_nx, h]; rfl
/-- behind a call -/
noncomputable def mm_bd (d : Nat) (M : mm_M) (pc : Nat) (ls st : List Value) (r : mm_R) : mm_R := match r with
  | some (v, H) => mm_E d M pc ls (v.toList ++ st) H
  | none => none
theorem mm_bd_i (d : Nat) (M : mm_M) (pc : Nat) (ls st : List Value) (v : Value) (H : mm_H) : mm_bd d M pc ls st (some (some v, H)) = mm_E d M pc ls (v :: st) H := rfl
theorem mm_bd_v (d : Nat) (M : mm_M) (pc : Nat) (ls st : List Value) (H : mm_H) : mm_bd d M pc ls st (some (none, H)) = mm_E d M pc ls st H := rfl
theorem mm_E_ca {d : Nat} {M C : mm_M} {pc : Nat} {ls st As st' l : List Value} {H : mm_H} (h : mm_S M pc ls st H = some (.inr (.inl (C, As, st')))) (h3 : ¬ C.2.2.2.2.2.2.1 = 3) (hi : mm_in C As = some l) : mm_E (d + 1) M pc ls st H = mm_bd (d + 1) M (pc + 3) ls st' (mm_E d C 0 l [] H) := by
  rw [mm_E_nx, h]
  simp only [mm_nx, mm_cr]
  rw [if_neg h3, hi]
  rfl
theorem mm_E_cw {d : Nat} {M C : mm_M} {pc : Nat} {ls st As st' : List Value} {H : mm_H} (h : mm_S M pc ls st H = some (.inr (.inl (C, As, st')))) (h3 : C.2.2.2.2.2.2.1 = 3) : mm_E d M pc ls st H = mm_bd d M (pc + 3) ls st' (mm_wk As H) := by
  rw [mm_E_nx, h]
  simp only [mm_nx, mm_cr]
  rw [if_pos h3]
  rfl
