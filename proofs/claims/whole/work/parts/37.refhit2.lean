/-! the reference: hit's end, and the whole of it -/
theorem rM_hit_full (d : Nat) (z : mm_Z) (F : Nat → Nat → Value) (I : Nat → Nat → Int32) (L : Nat → Nat → Int64) (n : Nat) (hs : Nat → List (Int × Int × Nat)) (st : Nat → Option (Nat × Nat)) (hz : zOK z) (hF : FixM F) (w : wOK n hs st) (h : rmS n hs st F I) (s : Nat) (hs' : s < n) (hl : (hs s).length = 16) (x y m k : Value) : mm_E d mX11_hit 123 [.ref 120, .int (nI s), x, y, m, k] [] (z, F, I, L) = some (some (.int (-5)), (z, F, I, L)) := by
  have h8 := w.1
  have c : (nI s).toNatClampNeg = s := nI_clamp (by omega)
  have g := h.2.1 s hs'
  rw [hl] at g
  simp (disch := first | assumption | decide | exact zO_120 hz | exact zT_121 hz | exact zT_122 hz | exact zT_123 hz | exact zT_124 hz | exact vi (zl_121 hz) (by omega) (by decide) | exact vi (zl_122 hz) (by omega) (by decide) | exact vi (zl_123 hz) (by omega) (by decide) | exact vi (zl_124 hz) (by omega) (by decide)) only [eX11_hit_123, eX11_hit_124, eX11_hit_127, eX11_hit_128, eX11_hit_129, eX11_hit_131, eX11_hit_134, eX11_hit_136, fM_1 hF, c, g, not_true_eq_false, if_false]
def mm_hitI (I : Nat → Nat → Int32) (s l : Nat) (x y m : Int32) : Nat → Nat → Int32 := mm_up2 (mm_up2 (mm_up2 (mm_up2 I 122 (16 * s + l) x) 123 (16 * s + l) y) 124 (16 * s + l) m) 121 s (nI (l + 1))
theorem rM_hit_add (d : Nat) (z : mm_Z) (F : Nat → Nat → Value) (I : Nat → Nat → Int32) (L : Nat → Nat → Int64) (n : Nat) (hs : Nat → List (Int × Int × Nat)) (st : Nat → Option (Nat × Nat)) (hz : zOK z) (hF : FixM F) (w : wOK n hs st) (h : rmS n hs st F I) (s : Nat) (hs' : s < n) (hl : (hs s).length < 16) (x y m : Int32) (k : Value) : mm_E d mX11_hit 123 [.ref 120, .int (nI s), .int x, .int y, .int m, k] [] (z, F, I, L) = some (some (.int (nI ((hs s).length + 1))), (z, F, mm_hitI I s (hs s).length x y m, L)) := by
  have h8 := w.1
  have c : (nI s).toNatClampNeg = s := nI_clamp (by omega)
  have g := h.2.1 s hs'
  have e : ¬ nI (hs s).length = nI 16 := fun q => by rw [nI_eq (by omega) (by decide)] at q; omega
  have ci : (nI (16 * s + (hs s).length)).toNatClampNeg = 16 * s + (hs s).length := nI_clamp (by omega)
  have v1 : vp_in (nI s) (mm_zl z 121) := vi (zl_121 hz) (by omega) (by decide)
  have v2 : vp_in (nI (16 * s + (hs s).length)) (mm_zl z 122) := vi (zl_122 hz) (by omega) (by decide)
  have v3 : vp_in (nI (16 * s + (hs s).length)) (mm_zl z 123) := vi (zl_123 hz) (by omega) (by decide)
  have v4 : vp_in (nI (16 * s + (hs s).length)) (mm_zl z 124) := vi (zl_124 hz) (by omega) (by decide)
  simp (disch := first | assumption | decide | exact zO_120 hz | exact zT_121 hz | exact zT_122 hz | exact zT_123 hz | exact zT_124 hz) only [eX11_hit_123, eX11_hit_124, eX11_hit_127, eX11_hit_128, eX11_hit_129, eX11_hit_131, eX11_hit_134, eX11_hit_136, eX11_hit_137, eX11_hit_139, eX11_hit_140, eX11_hit_141, eX11_hit_142, eX11_hit_145, eX11_hit_146, eX11_hit_147, eX11_hit_148, eX11_hit_150, eX11_hit_151, eX11_hit_154, eX11_hit_156, eX11_hit_157, eX11_hit_158, eX11_hit_159, eX11_hit_162, eX11_hit_164, eX11_hit_165, eX11_hit_166, eX11_hit_167, eX11_hit_170, eX11_hit_172, eX11_hit_174, eX11_hit_175, eX11_hit_176, eX11_hit_179, eX11_hit_180, eX11_hit_181, eX11_hit_182, eX11_hit_183, eX11_hit_184, eX11_hit_185, eX11_hit_186, eX11_hit_189, eX11_hit_190, eX11_hit_191, fM_1 hF, fM_2 hF, fM_3 hF, fM_4 hF, c, g, e, not_false_eq_true, if_true, pk_mul, nI_add, ci, up_r, up_s, nI_1]
  rfl
theorem hg_app {l : List (Int × Int × Nat)} {q : Int × Int × Nat} {k : Nat} (h : k < l.length) : hg (l ++ [q]) k = hg l k := by
  unfold hg
  rw [List.getD_eq_getElem?_getD, List.getD_eq_getElem?_getD, List.getElem?_append_left h]
theorem hg_last {l : List (Int × Int × Nat)} {q : Int × Int × Nat} : hg (l ++ [q]) l.length = q := by
  unfold hg
  rw [List.getD_eq_getElem?_getD, List.getElem?_concat_length]
  rfl
theorem rmS_hit (n : Nat) (hs : Nat → List (Int × Int × Nat)) (st : Nat → Option (Nat × Nat)) {F : Nat → Nat → Value} {I : Nat → Nat → Int32} (h : rmS n hs st F I) (w : wOK n hs st) (s : Nat) (hs' : s < n) (hl : (hs s).length < 16) (x y : Int) (m : Nat) : rmS n (udf hs s (hs s ++ [(x, y, m)])) st F (mm_hitI I s (hs s).length (iI x) (iI y) (nI m)) := by
  obtain ⟨h0, h1, h2, h3, h4⟩ := h
  have h8 := w.1
  refine ⟨h0, ?_, ?_, ?_, ?_⟩
  · intro a ha
    unfold mm_hitI
    by_cases e : a = s
    · subst e; rw [up_s, udf_s, List.length_append]; rfl
    · rw [up_k _ _ _ _ e, udf_n _ _ e, up_r _ _ _ _ (by decide), up_r _ _ _ _ (by decide), up_r _ _ _ _ (by decide)]; exact h1 a ha
  · intro a k ha hk
    unfold mm_hitI
    simp (disch := decide) only [up_r]
    have la := (w.2 a ha).1
    by_cases e : a = s
    · subst e
      rw [udf_s] at hk ⊢
      rw [List.length_append] at hk
      have hk' : k < (hs a).length + 1 := hk
      by_cases e2 : k = (hs a).length
      · subst e2
        rw [up_s, up_s, up_s, hg_last]
        exact ⟨rfl, rfl, rfl⟩
      · have e3 : ¬ 16 * a + k = 16 * a + (hs a).length := by omega
        simp (disch := first | exact e3 | decide) only [up_k, up_r]
        rw [hg_app (by omega)]
        exact h2 a k ha (by omega)
    · rw [udf_n _ _ e] at hk ⊢
      have e3 : ¬ 16 * a + k = 16 * s + (hs s).length := by omega
      simp (disch := first | exact e3 | decide) only [up_k, up_r]
      exact h2 a k ha hk
  · intro a ha hn
    unfold mm_hitI
    rw [up_r _ _ _ _ (by decide), up_r _ _ _ _ (by decide), up_r _ _ _ _ (by decide), up_r _ _ _ _ (by decide)]
    exact h3 a ha hn
  · intro a c t ha hn
    unfold mm_hitI
    rw [up_r _ _ _ _ (by decide), up_r _ _ _ _ (by decide), up_r _ _ _ _ (by decide), up_r _ _ _ _ (by decide), up_r _ _ _ _ (by decide), up_r _ _ _ _ (by decide), up_r _ _ _ _ (by decide), up_r _ _ _ _ (by decide)]
    exact h4 a c t ha hn
theorem wOK_hit (n : Nat) (hs : Nat → List (Int × Int × Nat)) (st : Nat → Option (Nat × Nat)) (w : wOK n hs st) (s : Nat) (hs' : s < n) (hl : (hs s).length < 16) (x y : Int) (m : Nat) (hx : -7 ≤ x ∧ x ≤ 7) (hy : -7 ≤ y ∧ y ≤ 7) (h0 : ¬ (x = 0 ∧ y = 0)) (hm : m ≤ 9) (e : st s = none) (hj : ∀ j, j < (hs s).length → ¬ ((hg (hs s) j).1 = x ∧ (hg (hs s) j).2.1 = y)) : wOK n (udf hs s (hs s ++ [(x, y, m)])) st := by
  refine ⟨w.1, ?_⟩
  intro a ha
  have g := w.2 a ha
  by_cases q : a = s
  · subst q
    rw [udf_s]
    refine ⟨by rw [List.length_append]; exact hl, ?_, ?_, ?_⟩
    · intro p hp
      rcases List.mem_append.mp hp with hp | hp
      · exact g.2.1 p hp
      · rw [List.mem_singleton] at hp
        subst hp
        exact ⟨hx, hy, hm, h0⟩
    · rw [List.map_append, List.nodup_append]
      refine ⟨g.2.2.1, by simp, ?_⟩
      intro p hp p' hp' e2
      subst e2
      rw [List.mem_map] at hp
      obtain ⟨r, hr, er⟩ := hp
      have e3 : p = (x, y) := by simpa using hp'
      obtain ⟨k, hk, ek⟩ := List.mem_iff_getElem.mp hr
      have e4 : hg (hs a) k = r := by
        unfold hg
        rw [List.getD_eq_getElem?_getD, List.getElem?_eq_getElem hk]
        exact ek
      refine hj k hk ?_
      rw [e4]
      rw [e3] at er
      exact ⟨congrArg Prod.fst er, congrArg Prod.snd er⟩
    · intro c t e2
      rw [e] at e2
      exact absurd e2 (by simp)
  · rw [udf_n _ _ q]
    exact g
