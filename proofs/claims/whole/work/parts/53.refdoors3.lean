/-! the reference: doors -/
theorem rM_findDoors (d : Nat) (z : mm_Z) (F : Nat → Nat → Value) (I : Nat → Nat → Int32) (L : Nat → Nat → Int64) (hz : zOK z) (hF : FixM F) (K : Nat → Nat) (hK : ∀ c, c < 64 → I 127 c = nI (K c) ∧ K c ≤ 3) : ∃ F', mm_E (d + 3) mX11_findDoors 0 [.ref 120, uu, uu, uu, uu, uu, uu] [] (z, F, I, L) = some (none, (z, F', I, L)) ∧ FixM F' ∧ F' 120 17 = .long (lOr (drC K) 64) ∧ ∀ r j, ¬ (r = 120 ∧ j = 17) → F' r j = F r j := by
  obtain ⟨F', g1, g2, g3, g4⟩ := rM_doors_l d z I L hz K hK 64 0 (mm_up2 F 120 17 (.long 0)) (by omega) (FixM_up hF (by decide)) (up_s _ _ _ _) uu uu uu uu uu
  refine ⟨F', ?_, g2, g3, ?_⟩
  · rw [← g1]
    simp (disch := first | assumption | decide | exact zO_120 hz) only [eX11_findDoors_0, eX11_findDoors_1, eX11_findDoors_2, eX11_findDoors_5, eX11_findDoors_6]
    rfl
  · intro r j hn
    rw [g4 r j hn]
    unfold mm_up2
    rw [if_neg hn]
theorem rM_doors (d : Nat) (z : mm_Z) (F : Nat → Nat → Value) (I : Nat → Nat → Int32) (L : Nat → Nat → Int64) (n : Nat) (hs : Nat → List (Int × Int × Nat)) (st : Nat → Option (Nat × Nat)) (hz : zOK z) (hF : FixM F) (w : wOK n hs st) (h : rmS n hs st F I) : ∃ F' I', mm_E (d + 5) mX11_doors 0 [.ref 120] [] (z, F, I, L) = some (some (.long (lOr (drC (kd n hs st)) 64)), (z, F', I', L)) ∧ lookG I I' ∧ FixM F' ∧ ∀ r j, ¬ (r = 120 ∧ j = 17) → F' r j = F r j := by
  obtain ⟨I', g1, g2, g3⟩ := rM_look d z F I L n hs st hz hF w h
  obtain ⟨F', k1, k2, k3, k4⟩ := rM_findDoors (d + 1) z F I' L hz hF (kd n hs st) (fun c hc => ⟨g3 c hc, kd_le n hs st c⟩)
  refine ⟨F', I', ?_, g2, k2, k4⟩
  simp (disch := first | assumption | decide | exact zO_120 hz) only [eX11_doors_0, eX11_doors_1, eX11_doors_4, eX11_doors_5, eX11_doors_8, eX11_doors_9, eX11_doors_12, g1, mm_bd_v, k1, k3]
