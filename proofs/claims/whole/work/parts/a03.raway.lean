/-! ways between rooms: the reference -/
theorem n_m4 (a : Nat) : nI a - nI (a / 4 * 4) = nI (a % 4) := by rw [pk_sub (by omega)]; congr 1; omega
def snd' (K : Nat → Nat) (o : Nat) (f : Nat → Nat) : Prop := ∀ r, r < rN K → f r ≤ 1000 ∧ (f r < 1000 → lvB K o (f r) r = true)
theorem edg_nb {K : Nat → Nat} {k r q : Nat} (h : edg K k r q = true) : drC K (k / 16) = true ∧ (¬ bsI (k / 16) (k / 4 % 4) = -1 ∧ lb (rS K r) (bsI (k / 16) (k / 4 % 4)).toNat = true) ∧ ¬ bsI (k / 16) (k % 4) = -1 ∧ lb (rS K q) (bsI (k / 16) (k % 4)).toNat = true := by
  unfold edg nbB at h
  simp only [Bool.and_eq_true, decide_eq_true_eq] at h
  exact ⟨h.1.1, h.1.2, h.2⟩
theorem edg_ad {K : Nat → Nat} {k r q : Nat} (hk : k < 1024) (h : edg K k r q = true) : adB K r q = true := List.any_eq_true.mpr ⟨k, List.mem_range.mpr hk, h⟩
theorem room_c (K : Nat → Nat) (a : Nat) : (∃ r, r < rN K ∧ lb (rS K r) a = true) ∨ ∀ r, r < rN K → lb (rS K r) a = false := by
  by_cases h : ∃ r, r < rN K ∧ lb (rS K r) a = true
  · exact Or.inl h
  · right
    intro r hr
    cases e : lb (rS K r) a with
    | false => rfl
    | true => exact absurd ⟨r, hr, e⟩ h
theorem rM_away_in (d : Nat) (z : mm_Z) (F : Nat → Nat → Value) (L : Nat → Nat → Int64) (K : Nat → Nat) (hz : zOK z) (hF : FixM F) (h17 : F 120 17 = .long (lOr (drC K) 64)) (h18 : F 120 18 = .int (nI (rN K))) (hL : ∀ r, r < rN K → L 131 r = rS K r) (o : Nat) (a1 a2 a3 : Value) : ∀ j, j ≤ 1024 → ∀ (I : Nat → Nat → Int32) (f : Nat → Nat) (a5 a6 a7 a8 : Value), (∀ r, r < rN K → I 132 r = nI (f r)) → snd' K o f → ∃ I' f' b5 b6 b7 b8, mm_E (d + 3) mX11_away 82 [.ref 120, a1, a2, a3, .int (nI j), a5, a6, a7, a8] [] (z, F, I, L) = mm_E (d + 3) mX11_away 231 [.ref 120, a1, a2, a3, .int (nI 1024), b5, b6, b7, b8] [] (z, F, I', L) ∧ (∀ r, r < rN K → I' 132 r = nI (f' r)) ∧ snd' K o f' ∧ (∀ r, r < rN K → f' r ≤ f r) ∧ (∀ k, j ≤ k → k < 1024 → ∀ r q, r < rN K → q < rN K → edg K k r q = true → f' q ≤ f r + 1) ∧ ∀ x, ¬ x = 132 → I' x = I x := by
  have rl := rN_le K
  apply lp
  · intro I f a5 a6 a7 a8 hI hs
    refine ⟨I, f, a5, a6, a7, a8, ?_, hI, hs, fun _ _ => Nat.le_refl _, fun k k1 k2 => by omega, fun _ _ => rfl⟩
    rw [eX11_away_82]
    simp (disch := first | assumption | exact bI_or _ | exact zOK_O hz (by decide) (by decide) rfl | exact zOK_T hz (by decide) (by decide) rfl | (refine ix (zOK_l hz (by decide) (by decide) rfl) ?_; omega) | decide | omega) only [eX11_away_84, eX11_away_87, eX11_away_90, eX11_away_92, eX11_away_94, eX11_away_95, eX11_away_97, eX11_away_98, eX11_away_100, eX11_away_102, eX11_away_103, eX11_away_104, eX11_away_105, eX11_away_106, eX11_away_109, eX11_away_111, eX11_away_112, eX11_away_114, eX11_away_116, eX11_away_117, eX11_away_118, eX11_away_121, eX11_away_123, eX11_away_124, eX11_away_127, eX11_away_129, eX11_away_132, eX11_away_135, eX11_away_137, eX11_away_138, eX11_away_141, eX11_away_143, eX11_away_144, eX11_away_147, eX11_away_148, eX11_away_150, eX11_away_153, eX11_away_154, eX11_away_157, eX11_away_158, eX11_away_160, eX11_away_163, eX11_away_164, eX11_away_167, eX11_away_168, eX11_away_171, eX11_away_172, eX11_away_174, eX11_away_177, eX11_away_178, eX11_away_179, eX11_away_180, eX11_away_182, eX11_away_183, eX11_away_186, eX11_away_187, eX11_away_189, eX11_away_192, eX11_away_194, eX11_away_195, eX11_away_198, eX11_away_199, eX11_away_201, eX11_away_204, eX11_away_205, eX11_away_208, eX11_away_210, eX11_away_213, eX11_away_214, eX11_away_217, eX11_away_218, eX11_away_220, eX11_away_223, eX11_away_224, eX11_away_225, eX11_away_228, Int.cast_ofNat_Int, Nat.reduceLT, Nat.reduceLeDiff, Nat.reduceEqDiff, Nat.reduceAdd, Nat.reduceMul, Int.reduceLE, Int.reduceLT, Int.reduceEq, not_false_iff, nlr, Nat.zero_add, Nat.add_zero, e10f, e01f, eq_self, true_and, and_true, false_and, and_false, and_self, decide_true, decide_false, mm_bd_i, mm_bd_v, if_true, if_false, not_true_eq_false, not_false_eq_true, nI_1, Bool.true_eq_false, Bool.false_eq_true, bI_0, n_le0, n_0lt, n_lt0, n_0le, n_eq0, n_eqm, n_eq1, n_le1, n_1lt, n_1le, n_lt1, nn_le, nI_ltI, nI_eq, nI_clamp, nI_add, pk_mul, i_eq0, i_eqm, i_0le, i_le0, i_0lt, i_lt0, i_mle, i_ltm, ii_le, iI_lt, iI_eq, ni_le, ni_lt, ni_eq, in_le, in_lt, in_eq, ni_add, in_add, ni_sub, in_sub, ni_mul, in_mul, iI_add, iI_sub, iI_mul, i_p1, iI_neg, n_neg]
  · intro j hj ih I f a5 a6 a7 a8 hI hs
    have e16 : ¬ nI 16 = 0 := by decide
    have e4 : ¬ nI 4 = 0 := by decide
    have hD : j / 16 < 64 := by omega
    have q1 : j / 4 % 4 < 4 := by omega
    have q2 : j % 4 < 4 := by omega
    have be1 := fun d' => rM_beside d' z F I L (.ref 120) (j / 16) (j / 4 % 4) hD q1
    have be2 := fun d' => rM_beside d' z F I L (.ref 120) (j / 16) (j % 4) hD q2
    have bb1 := bsI_b (j / 16) (j / 4 % 4)
    have bb2 := bsI_b (j / 16) (j % 4)
    have hd := fun d' w => rM_has d' z F I L (lOr (drC K) 64) (j / 16) hD w
    rw [lb_lOr (drC K) _ 64 (Nat.le_refl _), decide_eq_true hD, Bool.true_and] at hd
    -- nothing happens
    have same : (∀ r q, r < rN K → q < rN K → ¬ edg K j r q = true) → ∀ b5 b6 b7 b8, mm_E (d + 3) mX11_away 82 [.ref 120, a1, a2, a3, .int (nI j), a5, a6, a7, a8] [] (z, F, I, L) = mm_E (d + 3) mX11_away 82 [.ref 120, a1, a2, a3, .int (nI (j + 1)), b5, b6, b7, b8] [] (z, F, I, L) → ∃ I' f' b5 b6 b7 b8, mm_E (d + 3) mX11_away 82 [.ref 120, a1, a2, a3, .int (nI j), a5, a6, a7, a8] [] (z, F, I, L) = mm_E (d + 3) mX11_away 231 [.ref 120, a1, a2, a3, .int (nI 1024), b5, b6, b7, b8] [] (z, F, I', L) ∧ (∀ r, r < rN K → I' 132 r = nI (f' r)) ∧ snd' K o f' ∧ (∀ r, r < rN K → f' r ≤ f r) ∧ (∀ k, j ≤ k → k < 1024 → ∀ r q, r < rN K → q < rN K → edg K k r q = true → f' q ≤ f r + 1) ∧ ∀ x, ¬ x = 132 → I' x = I x := by
      intro hn b5 b6 b7 b8 he
      obtain ⟨I', f', c5, c6, c7, c8, g1, g2, g3, g4, g5, g6⟩ := ih I f b5 b6 b7 b8 hI hs
      refine ⟨I', f', c5, c6, c7, c8, he.trans g1, g2, g3, g4, fun k k1 k2 r q r1 r2 g => ?_, g6⟩
      by_cases e : k = j
      · subst e; exact absurd g (hn r q r1 r2)
      · exact g5 k (by omega) k2 r q r1 r2 g
    cases eD : drC K (j / 16) with
    | false =>
      rw [eD] at hd
      refine same (fun r q _ _ g => absurd (edg_nb g).1 (by rw [eD]; simp)) (.int (nI (j / 16))) (.int (iI (bsI (j / 16) (j / 4 % 4)))) (.int (iI (bsI (j / 16) (j % 4)))) a8 ?_
      rw [eX11_away_82]
      simp (disch := first | assumption | exact bI_or _ | exact zOK_O hz (by decide) (by decide) rfl | exact zOK_T hz (by decide) (by decide) rfl | (refine ix (zOK_l hz (by decide) (by decide) rfl) ?_; omega) | decide | omega) only [eX11_away_84, eX11_away_87, eX11_away_90, eX11_away_92, eX11_away_94, eX11_away_95, eX11_away_97, eX11_away_98, eX11_away_100, eX11_away_102, eX11_away_103, eX11_away_104, eX11_away_105, eX11_away_106, eX11_away_109, eX11_away_111, eX11_away_112, eX11_away_114, eX11_away_116, eX11_away_117, eX11_away_118, eX11_away_121, eX11_away_123, eX11_away_124, eX11_away_127, eX11_away_129, eX11_away_132, eX11_away_135, eX11_away_137, eX11_away_138, eX11_away_141, eX11_away_143, eX11_away_144, eX11_away_147, eX11_away_148, eX11_away_150, eX11_away_153, eX11_away_154, eX11_away_157, eX11_away_158, eX11_away_160, eX11_away_163, eX11_away_164, eX11_away_167, eX11_away_168, eX11_away_171, eX11_away_172, eX11_away_174, eX11_away_177, eX11_away_178, eX11_away_179, eX11_away_180, eX11_away_182, eX11_away_183, eX11_away_186, eX11_away_187, eX11_away_189, eX11_away_192, eX11_away_194, eX11_away_195, eX11_away_198, eX11_away_199, eX11_away_201, eX11_away_204, eX11_away_205, eX11_away_208, eX11_away_210, eX11_away_213, eX11_away_214, eX11_away_217, eX11_away_218, eX11_away_220, eX11_away_223, eX11_away_224, eX11_away_225, eX11_away_228, Int.cast_ofNat_Int, Nat.reduceLT, Nat.reduceLeDiff, Nat.reduceEqDiff, Nat.reduceAdd, Nat.reduceMul, Int.reduceLE, Int.reduceLT, Int.reduceEq, not_false_iff, nlr, Nat.zero_add, Nat.add_zero, e10f, e01f, eq_self, true_and, and_true, false_and, and_false, and_self, decide_true, decide_false, mm_bd_i, mm_bd_v, if_true, if_false, not_true_eq_false, not_false_eq_true, nI_1, Bool.true_eq_false, Bool.false_eq_true, bI_0, n_le0, n_0lt, n_lt0, n_0le, n_eq0, n_eqm, n_eq1, n_le1, n_1lt, n_1le, n_lt1, nn_le, nI_ltI, nI_eq, nI_clamp, nI_add, pk_mul, i_eq0, i_eqm, i_0le, i_le0, i_0lt, i_lt0, i_mle, i_ltm, ii_le, iI_lt, iI_eq, ni_le, ni_lt, ni_eq, in_le, in_lt, in_eq, ni_add, in_add, ni_sub, in_sub, ni_mul, in_mul, iI_add, iI_sub, iI_mul, i_p1, iI_neg, n_neg, hj, pk_div, n_m4, be1, be2, h17, hd]
    | true =>
      rw [eD] at hd
      by_cases ea : bsI (j / 16) (j / 4 % 4) = -1
      · refine same (fun r q _ _ g => absurd ea (edg_nb g).2.1.1) (.int (nI (j / 16))) (.int (iI (bsI (j / 16) (j / 4 % 4)))) (.int (iI (bsI (j / 16) (j % 4)))) a8 ?_
        rw [eX11_away_82]
        simp (disch := first | assumption | exact bI_or _ | exact zOK_O hz (by decide) (by decide) rfl | exact zOK_T hz (by decide) (by decide) rfl | (refine ix (zOK_l hz (by decide) (by decide) rfl) ?_; omega) | decide | omega) only [eX11_away_84, eX11_away_87, eX11_away_90, eX11_away_92, eX11_away_94, eX11_away_95, eX11_away_97, eX11_away_98, eX11_away_100, eX11_away_102, eX11_away_103, eX11_away_104, eX11_away_105, eX11_away_106, eX11_away_109, eX11_away_111, eX11_away_112, eX11_away_114, eX11_away_116, eX11_away_117, eX11_away_118, eX11_away_121, eX11_away_123, eX11_away_124, eX11_away_127, eX11_away_129, eX11_away_132, eX11_away_135, eX11_away_137, eX11_away_138, eX11_away_141, eX11_away_143, eX11_away_144, eX11_away_147, eX11_away_148, eX11_away_150, eX11_away_153, eX11_away_154, eX11_away_157, eX11_away_158, eX11_away_160, eX11_away_163, eX11_away_164, eX11_away_167, eX11_away_168, eX11_away_171, eX11_away_172, eX11_away_174, eX11_away_177, eX11_away_178, eX11_away_179, eX11_away_180, eX11_away_182, eX11_away_183, eX11_away_186, eX11_away_187, eX11_away_189, eX11_away_192, eX11_away_194, eX11_away_195, eX11_away_198, eX11_away_199, eX11_away_201, eX11_away_204, eX11_away_205, eX11_away_208, eX11_away_210, eX11_away_213, eX11_away_214, eX11_away_217, eX11_away_218, eX11_away_220, eX11_away_223, eX11_away_224, eX11_away_225, eX11_away_228, Int.cast_ofNat_Int, Nat.reduceLT, Nat.reduceLeDiff, Nat.reduceEqDiff, Nat.reduceAdd, Nat.reduceMul, Int.reduceLE, Int.reduceLT, Int.reduceEq, not_false_iff, nlr, Nat.zero_add, Nat.add_zero, e10f, e01f, eq_self, true_and, and_true, false_and, and_false, and_self, decide_true, decide_false, mm_bd_i, mm_bd_v, if_true, if_false, not_true_eq_false, not_false_eq_true, nI_1, Bool.true_eq_false, Bool.false_eq_true, bI_0, n_le0, n_0lt, n_lt0, n_0le, n_eq0, n_eqm, n_eq1, n_le1, n_1lt, n_1le, n_lt1, nn_le, nI_ltI, nI_eq, nI_clamp, nI_add, pk_mul, i_eq0, i_eqm, i_0le, i_le0, i_0lt, i_lt0, i_mle, i_ltm, ii_le, iI_lt, iI_eq, ni_le, ni_lt, ni_eq, in_le, in_lt, in_eq, ni_add, in_add, ni_sub, in_sub, ni_mul, in_mul, iI_add, iI_sub, iI_mul, i_p1, iI_neg, n_neg, hj, pk_div, n_m4, be1, be2, h17, hd, ea]
      · by_cases eb : bsI (j / 16) (j % 4) = -1
        · refine same (fun r q _ _ g => absurd eb (edg_nb g).2.2.1) (.int (nI (j / 16))) (.int (iI (bsI (j / 16) (j / 4 % 4)))) (.int (iI (bsI (j / 16) (j % 4)))) a8 ?_
          rw [eX11_away_82]
          simp (disch := first | assumption | exact bI_or _ | exact zOK_O hz (by decide) (by decide) rfl | exact zOK_T hz (by decide) (by decide) rfl | (refine ix (zOK_l hz (by decide) (by decide) rfl) ?_; omega) | decide | omega) only [eX11_away_84, eX11_away_87, eX11_away_90, eX11_away_92, eX11_away_94, eX11_away_95, eX11_away_97, eX11_away_98, eX11_away_100, eX11_away_102, eX11_away_103, eX11_away_104, eX11_away_105, eX11_away_106, eX11_away_109, eX11_away_111, eX11_away_112, eX11_away_114, eX11_away_116, eX11_away_117, eX11_away_118, eX11_away_121, eX11_away_123, eX11_away_124, eX11_away_127, eX11_away_129, eX11_away_132, eX11_away_135, eX11_away_137, eX11_away_138, eX11_away_141, eX11_away_143, eX11_away_144, eX11_away_147, eX11_away_148, eX11_away_150, eX11_away_153, eX11_away_154, eX11_away_157, eX11_away_158, eX11_away_160, eX11_away_163, eX11_away_164, eX11_away_167, eX11_away_168, eX11_away_171, eX11_away_172, eX11_away_174, eX11_away_177, eX11_away_178, eX11_away_179, eX11_away_180, eX11_away_182, eX11_away_183, eX11_away_186, eX11_away_187, eX11_away_189, eX11_away_192, eX11_away_194, eX11_away_195, eX11_away_198, eX11_away_199, eX11_away_201, eX11_away_204, eX11_away_205, eX11_away_208, eX11_away_210, eX11_away_213, eX11_away_214, eX11_away_217, eX11_away_218, eX11_away_220, eX11_away_223, eX11_away_224, eX11_away_225, eX11_away_228, Int.cast_ofNat_Int, Nat.reduceLT, Nat.reduceLeDiff, Nat.reduceEqDiff, Nat.reduceAdd, Nat.reduceMul, Int.reduceLE, Int.reduceLT, Int.reduceEq, not_false_iff, nlr, Nat.zero_add, Nat.add_zero, e10f, e01f, eq_self, true_and, and_true, false_and, and_false, and_self, decide_true, decide_false, mm_bd_i, mm_bd_v, if_true, if_false, not_true_eq_false, not_false_eq_true, nI_1, Bool.true_eq_false, Bool.false_eq_true, bI_0, n_le0, n_0lt, n_lt0, n_0le, n_eq0, n_eqm, n_eq1, n_le1, n_1lt, n_1le, n_lt1, nn_le, nI_ltI, nI_eq, nI_clamp, nI_add, pk_mul, i_eq0, i_eqm, i_0le, i_le0, i_0lt, i_lt0, i_mle, i_ltm, ii_le, iI_lt, iI_eq, ni_le, ni_lt, ni_eq, in_le, in_lt, in_eq, ni_add, in_add, ni_sub, in_sub, ni_mul, in_mul, iI_add, iI_sub, iI_mul, i_p1, iI_neg, n_neg, hj, pk_div, n_m4, be1, be2, h17, hd, ea, eb]
        · have na : iI (bsI (j / 16) (j / 4 % 4)) = nI (bsI (j / 16) (j / 4 % 4)).toNat := iI_nn (by omega)
          have nb : iI (bsI (j / 16) (j % 4)) = nI (bsI (j / 16) (j % 4)).toNat := iI_nn (by omega)
          have la : (bsI (j / 16) (j / 4 % 4)).toNat < 64 := by omega
          have lb' : (bsI (j / 16) (j % 4)).toNat < 64 := by omega
          have ra := fun d' => rM_roomOf d' z F I L hz hF (rN K) rl h18 (bsI (j / 16) (j / 4 % 4)).toNat la
          have rb := fun d' => rM_roomOf d' z F I L hz hF (rN K) rl h18 (bsI (j / 16) (j % 4)).toNat lb'
          rw [roF_cg (rN K) (fun i hi => hL i hi)] at ra rb
          rcases room_c K (bsI (j / 16) (j / 4 % 4)).toNat with ⟨r, r1, r2⟩ | hn
          · rw [roF_at (rN K) r r1 r2 (fun i hi g => rS_dis K hi r1 la g r2), ← nI_iI] at ra
            rcases room_c K (bsI (j / 16) (j % 4)).toNat with ⟨q, s1, s2⟩ | hn
            · rw [roF_at (rN K) q s1 s2 (fun i hi g => rS_dis K hi s1 lb' g s2), ← nI_iI] at rb
              have fr := hs r r1
              have fq := hs q s1
              have ed : edg K j r q = true := by
                unfold edg nbB
                rw [eD, decide_eq_true ea, decide_eq_true eb, r2, s2]
                rfl
              have ad := edg_ad hj ed
              have uni : ∀ r' q', r' < rN K → q' < rN K → edg K j r' q' = true → r' = r ∧ q' = q := by
                intro r' q' h1 h2 g
                have w := edg_nb g
                exact ⟨rS_dis K h1 r1 la w.2.1.2 r2, rS_dis K h2 s1 lb' w.2.2.2 s2⟩
              by_cases c : f r + 1 < f q
              · obtain ⟨I', f', c5, c6, c7, c8, g1, g2, g3, g4, g5, g6⟩ := ih (mm_up2 I 132 q (nI (f r + 1))) (udf f q (f r + 1)) (.int (nI (j / 16))) (.int (nI (bsI (j / 16) (j / 4 % 4)).toNat)) (.int (nI (bsI (j / 16) (j % 4)).toNat)) (.int (nI (f r + 1))) (fun x hx => by
                    by_cases e : x = q
                    · subst e; rw [up_s, udf_s]
                    · rw [up_k _ _ _ _ e, udf_n _ _ e]; exact hI x hx) (fun x hx => by
                    by_cases e : x = q
                    · subst e
                      rw [udf_s]
                      exact ⟨by omega, fun _ => (lv_s K o (f r) x).mpr (Or.inr ⟨r, r1, fr.2 (by omega), ad⟩)⟩
                    · rw [udf_n _ _ e]; exact hs x hx)
                have le : ∀ x, x < rN K → f' x ≤ f x := by
                  intro x hx
                  have := g4 x hx
                  by_cases e : x = q
                  · subst e; rw [udf_s] at this; omega
                  · rw [udf_n _ _ e] at this; exact this
                refine ⟨I', f', c5, c6, c7, c8, ?_, g2, g3, le, fun k k1 k2 r' q' x1 x2 g => ?_, fun x hx => by rw [g6 x hx, up_row _ _ _ hx]⟩
                · rw [← g1, eX11_away_82]
                  simp (disch := first | assumption | exact bI_or _ | exact zOK_O hz (by decide) (by decide) rfl | exact zOK_T hz (by decide) (by decide) rfl | (refine ix (zOK_l hz (by decide) (by decide) rfl) ?_; omega) | decide | omega) only [eX11_away_84, eX11_away_87, eX11_away_90, eX11_away_92, eX11_away_94, eX11_away_95, eX11_away_97, eX11_away_98, eX11_away_100, eX11_away_102, eX11_away_103, eX11_away_104, eX11_away_105, eX11_away_106, eX11_away_109, eX11_away_111, eX11_away_112, eX11_away_114, eX11_away_116, eX11_away_117, eX11_away_118, eX11_away_121, eX11_away_123, eX11_away_124, eX11_away_127, eX11_away_129, eX11_away_132, eX11_away_135, eX11_away_137, eX11_away_138, eX11_away_141, eX11_away_143, eX11_away_144, eX11_away_147, eX11_away_148, eX11_away_150, eX11_away_153, eX11_away_154, eX11_away_157, eX11_away_158, eX11_away_160, eX11_away_163, eX11_away_164, eX11_away_167, eX11_away_168, eX11_away_171, eX11_away_172, eX11_away_174, eX11_away_177, eX11_away_178, eX11_away_179, eX11_away_180, eX11_away_182, eX11_away_183, eX11_away_186, eX11_away_187, eX11_away_189, eX11_away_192, eX11_away_194, eX11_away_195, eX11_away_198, eX11_away_199, eX11_away_201, eX11_away_204, eX11_away_205, eX11_away_208, eX11_away_210, eX11_away_213, eX11_away_214, eX11_away_217, eX11_away_218, eX11_away_220, eX11_away_223, eX11_away_224, eX11_away_225, eX11_away_228, Int.cast_ofNat_Int, Nat.reduceLT, Nat.reduceLeDiff, Nat.reduceEqDiff, Nat.reduceAdd, Nat.reduceMul, Int.reduceLE, Int.reduceLT, Int.reduceEq, not_false_iff, nlr, Nat.zero_add, Nat.add_zero, e10f, e01f, eq_self, true_and, and_true, false_and, and_false, and_self, decide_true, decide_false, mm_bd_i, mm_bd_v, if_true, if_false, not_true_eq_false, not_false_eq_true, nI_1, Bool.true_eq_false, Bool.false_eq_true, bI_0, n_le0, n_0lt, n_lt0, n_0le, n_eq0, n_eqm, n_eq1, n_le1, n_1lt, n_1le, n_lt1, nn_le, nI_ltI, nI_eq, nI_clamp, nI_add, pk_mul, i_eq0, i_eqm, i_0le, i_le0, i_0lt, i_lt0, i_mle, i_ltm, ii_le, iI_lt, iI_eq, ni_le, ni_lt, ni_eq, in_le, in_lt, in_eq, ni_add, in_add, ni_sub, in_sub, ni_mul, in_mul, iI_add, iI_sub, iI_mul, i_p1, iI_neg, n_neg, hj, pk_div, n_m4, be1, be2, h17, hd, ea, eb, na, nb, ra, rb, fM_20 hF, hI r r1, hI q s1, c]
                · by_cases e : k = j
                  · subst e
                    obtain ⟨e1, e2⟩ := uni r' q' x1 x2 g
                    subst e1; subst e2
                    have := g4 q' x2
                    rw [udf_s] at this
                    exact this
                  · have := g5 k (by omega) k2 r' q' x1 x2 g
                    by_cases e2 : r' = q
                    · subst e2; rw [udf_s] at this; omega
                    · rw [udf_n _ _ e2] at this; exact this
              · obtain ⟨I', f', c5, c6, c7, c8, g1, g2, g3, g4, g5, g6⟩ := ih (mm_up2 I 132 q (nI (f q))) f (.int (nI (j / 16))) (.int (nI (bsI (j / 16) (j / 4 % 4)).toNat)) (.int (nI (bsI (j / 16) (j % 4)).toNat)) (.int (nI (f r + 1))) (fun x hx => by
                    by_cases e : x = q
                    · subst e; rw [up_s]
                    · rw [up_k _ _ _ _ e]; exact hI x hx) hs
                refine ⟨I', f', c5, c6, c7, c8, ?_, g2, g3, g4, fun k k1 k2 r' q' x1 x2 g => ?_, fun x hx => by rw [g6 x hx, up_row _ _ _ hx]⟩
                · rw [← g1, eX11_away_82]
                  simp (disch := first | assumption | exact bI_or _ | exact zOK_O hz (by decide) (by decide) rfl | exact zOK_T hz (by decide) (by decide) rfl | (refine ix (zOK_l hz (by decide) (by decide) rfl) ?_; omega) | decide | omega) only [eX11_away_84, eX11_away_87, eX11_away_90, eX11_away_92, eX11_away_94, eX11_away_95, eX11_away_97, eX11_away_98, eX11_away_100, eX11_away_102, eX11_away_103, eX11_away_104, eX11_away_105, eX11_away_106, eX11_away_109, eX11_away_111, eX11_away_112, eX11_away_114, eX11_away_116, eX11_away_117, eX11_away_118, eX11_away_121, eX11_away_123, eX11_away_124, eX11_away_127, eX11_away_129, eX11_away_132, eX11_away_135, eX11_away_137, eX11_away_138, eX11_away_141, eX11_away_143, eX11_away_144, eX11_away_147, eX11_away_148, eX11_away_150, eX11_away_153, eX11_away_154, eX11_away_157, eX11_away_158, eX11_away_160, eX11_away_163, eX11_away_164, eX11_away_167, eX11_away_168, eX11_away_171, eX11_away_172, eX11_away_174, eX11_away_177, eX11_away_178, eX11_away_179, eX11_away_180, eX11_away_182, eX11_away_183, eX11_away_186, eX11_away_187, eX11_away_189, eX11_away_192, eX11_away_194, eX11_away_195, eX11_away_198, eX11_away_199, eX11_away_201, eX11_away_204, eX11_away_205, eX11_away_208, eX11_away_210, eX11_away_213, eX11_away_214, eX11_away_217, eX11_away_218, eX11_away_220, eX11_away_223, eX11_away_224, eX11_away_225, eX11_away_228, Int.cast_ofNat_Int, Nat.reduceLT, Nat.reduceLeDiff, Nat.reduceEqDiff, Nat.reduceAdd, Nat.reduceMul, Int.reduceLE, Int.reduceLT, Int.reduceEq, not_false_iff, nlr, Nat.zero_add, Nat.add_zero, e10f, e01f, eq_self, true_and, and_true, false_and, and_false, and_self, decide_true, decide_false, mm_bd_i, mm_bd_v, if_true, if_false, not_true_eq_false, not_false_eq_true, nI_1, Bool.true_eq_false, Bool.false_eq_true, bI_0, n_le0, n_0lt, n_lt0, n_0le, n_eq0, n_eqm, n_eq1, n_le1, n_1lt, n_1le, n_lt1, nn_le, nI_ltI, nI_eq, nI_clamp, nI_add, pk_mul, i_eq0, i_eqm, i_0le, i_le0, i_0lt, i_lt0, i_mle, i_ltm, ii_le, iI_lt, iI_eq, ni_le, ni_lt, ni_eq, in_le, in_lt, in_eq, ni_add, in_add, ni_sub, in_sub, ni_mul, in_mul, iI_add, iI_sub, iI_mul, i_p1, iI_neg, n_neg, hj, pk_div, n_m4, be1, be2, h17, hd, ea, eb, na, nb, ra, rb, fM_20 hF, hI r r1, hI q s1, c]
                · by_cases e : k = j
                  · subst e
                    obtain ⟨e1, e2⟩ := uni r' q' x1 x2 g
                    subst e1; subst e2
                    have := g4 q' x2
                    omega
                  · exact g5 k (by omega) k2 r' q' x1 x2 g
            · rw [roF_no (rN K) hn, iI_m1] at rb
              refine same (fun r q _ h2 g => by have := (edg_nb g).2.2.2; rw [hn q h2] at this; exact absurd this (by simp)) (.int (nI (j / 16))) (.int (nI (bsI (j / 16) (j / 4 % 4)).toNat)) (.int (nI (bsI (j / 16) (j % 4)).toNat)) a8 ?_
              rw [eX11_away_82]
              simp (disch := first | assumption | exact bI_or _ | exact zOK_O hz (by decide) (by decide) rfl | exact zOK_T hz (by decide) (by decide) rfl | (refine ix (zOK_l hz (by decide) (by decide) rfl) ?_; omega) | decide | omega) only [eX11_away_84, eX11_away_87, eX11_away_90, eX11_away_92, eX11_away_94, eX11_away_95, eX11_away_97, eX11_away_98, eX11_away_100, eX11_away_102, eX11_away_103, eX11_away_104, eX11_away_105, eX11_away_106, eX11_away_109, eX11_away_111, eX11_away_112, eX11_away_114, eX11_away_116, eX11_away_117, eX11_away_118, eX11_away_121, eX11_away_123, eX11_away_124, eX11_away_127, eX11_away_129, eX11_away_132, eX11_away_135, eX11_away_137, eX11_away_138, eX11_away_141, eX11_away_143, eX11_away_144, eX11_away_147, eX11_away_148, eX11_away_150, eX11_away_153, eX11_away_154, eX11_away_157, eX11_away_158, eX11_away_160, eX11_away_163, eX11_away_164, eX11_away_167, eX11_away_168, eX11_away_171, eX11_away_172, eX11_away_174, eX11_away_177, eX11_away_178, eX11_away_179, eX11_away_180, eX11_away_182, eX11_away_183, eX11_away_186, eX11_away_187, eX11_away_189, eX11_away_192, eX11_away_194, eX11_away_195, eX11_away_198, eX11_away_199, eX11_away_201, eX11_away_204, eX11_away_205, eX11_away_208, eX11_away_210, eX11_away_213, eX11_away_214, eX11_away_217, eX11_away_218, eX11_away_220, eX11_away_223, eX11_away_224, eX11_away_225, eX11_away_228, Int.cast_ofNat_Int, Nat.reduceLT, Nat.reduceLeDiff, Nat.reduceEqDiff, Nat.reduceAdd, Nat.reduceMul, Int.reduceLE, Int.reduceLT, Int.reduceEq, not_false_iff, nlr, Nat.zero_add, Nat.add_zero, e10f, e01f, eq_self, true_and, and_true, false_and, and_false, and_self, decide_true, decide_false, mm_bd_i, mm_bd_v, if_true, if_false, not_true_eq_false, not_false_eq_true, nI_1, Bool.true_eq_false, Bool.false_eq_true, bI_0, n_le0, n_0lt, n_lt0, n_0le, n_eq0, n_eqm, n_eq1, n_le1, n_1lt, n_1le, n_lt1, nn_le, nI_ltI, nI_eq, nI_clamp, nI_add, pk_mul, i_eq0, i_eqm, i_0le, i_le0, i_0lt, i_lt0, i_mle, i_ltm, ii_le, iI_lt, iI_eq, ni_le, ni_lt, ni_eq, in_le, in_lt, in_eq, ni_add, in_add, ni_sub, in_sub, ni_mul, in_mul, iI_add, iI_sub, iI_mul, i_p1, iI_neg, n_neg, hj, pk_div, n_m4, be1, be2, h17, hd, ea, eb, na, nb, ra, rb]
          · rw [roF_no (rN K) hn, iI_m1] at ra
            refine same (fun r q h1 _ g => by have := (edg_nb g).2.1.2; rw [hn r h1] at this; exact absurd this (by simp)) (.int (nI (j / 16))) (.int (nI (bsI (j / 16) (j / 4 % 4)).toNat)) (.int (nI (bsI (j / 16) (j % 4)).toNat)) a8 ?_
            rw [eX11_away_82]
            simp (disch := first | assumption | exact bI_or _ | exact zOK_O hz (by decide) (by decide) rfl | exact zOK_T hz (by decide) (by decide) rfl | (refine ix (zOK_l hz (by decide) (by decide) rfl) ?_; omega) | decide | omega) only [eX11_away_84, eX11_away_87, eX11_away_90, eX11_away_92, eX11_away_94, eX11_away_95, eX11_away_97, eX11_away_98, eX11_away_100, eX11_away_102, eX11_away_103, eX11_away_104, eX11_away_105, eX11_away_106, eX11_away_109, eX11_away_111, eX11_away_112, eX11_away_114, eX11_away_116, eX11_away_117, eX11_away_118, eX11_away_121, eX11_away_123, eX11_away_124, eX11_away_127, eX11_away_129, eX11_away_132, eX11_away_135, eX11_away_137, eX11_away_138, eX11_away_141, eX11_away_143, eX11_away_144, eX11_away_147, eX11_away_148, eX11_away_150, eX11_away_153, eX11_away_154, eX11_away_157, eX11_away_158, eX11_away_160, eX11_away_163, eX11_away_164, eX11_away_167, eX11_away_168, eX11_away_171, eX11_away_172, eX11_away_174, eX11_away_177, eX11_away_178, eX11_away_179, eX11_away_180, eX11_away_182, eX11_away_183, eX11_away_186, eX11_away_187, eX11_away_189, eX11_away_192, eX11_away_194, eX11_away_195, eX11_away_198, eX11_away_199, eX11_away_201, eX11_away_204, eX11_away_205, eX11_away_208, eX11_away_210, eX11_away_213, eX11_away_214, eX11_away_217, eX11_away_218, eX11_away_220, eX11_away_223, eX11_away_224, eX11_away_225, eX11_away_228, Int.cast_ofNat_Int, Nat.reduceLT, Nat.reduceLeDiff, Nat.reduceEqDiff, Nat.reduceAdd, Nat.reduceMul, Int.reduceLE, Int.reduceLT, Int.reduceEq, not_false_iff, nlr, Nat.zero_add, Nat.add_zero, e10f, e01f, eq_self, true_and, and_true, false_and, and_false, and_self, decide_true, decide_false, mm_bd_i, mm_bd_v, if_true, if_false, not_true_eq_false, not_false_eq_true, nI_1, Bool.true_eq_false, Bool.false_eq_true, bI_0, n_le0, n_0lt, n_lt0, n_0le, n_eq0, n_eqm, n_eq1, n_le1, n_1lt, n_1le, n_lt1, nn_le, nI_ltI, nI_eq, nI_clamp, nI_add, pk_mul, i_eq0, i_eqm, i_0le, i_le0, i_0lt, i_lt0, i_mle, i_ltm, ii_le, iI_lt, iI_eq, ni_le, ni_lt, ni_eq, in_le, in_lt, in_eq, ni_add, in_add, ni_sub, in_sub, ni_mul, in_mul, iI_add, iI_sub, iI_mul, i_p1, iI_neg, n_neg, hj, pk_div, n_m4, be1, be2, h17, hd, ea, eb, na, nb, ra]
theorem rM_away_unk (d : Nat) (z : mm_Z) (F : Nat → Nat → Value) (I : Nat → Nat → Int32) (L : Nat → Nat → Int64) (n : Nat) (hs : Nat → List (Int × Int × Nat)) (st : Nat → Option (Nat × Nat)) (hz : zOK z) (hF : FixM F) (w : wOK n hs st) (h : rmS n hs st F I) (x y : Int32) (hn : ¬ ((0 ≤ x.toInt ∧ x.toInt < rN (kd n hs st)) ∧ (0 ≤ y.toInt ∧ y.toInt < rN (kd n hs st)))) : ∃ F' I' L', mm_E (d + 6) mX11_away 0 [.ref 120, .int x, .int y, uu, uu, uu, uu, uu, uu] [] (z, F, I, L) = some (some (.int (-2)), (z, F', I', L')) ∧ rmFr F F' I I' L L' := by
  obtain ⟨F', I', L', k1, k2, k3, k4, k5, k6, k7⟩ := rM_findRooms d z F I L n hs st hz hF w h
  have rl := rN_le (kd n hs st)
  refine ⟨F', I', L', ?_, k2⟩
  by_cases c : 0 ≤ x.toInt ∧ x.toInt ≤ (rN (kd n hs st) : Int) - 1
  · have c2 : ¬ (0 ≤ y.toInt ∧ y.toInt ≤ (rN (kd n hs st) : Int) - 1) := fun q => hn ⟨by omega, by omega⟩
    simp (disch := first | assumption | exact bI_or _ | exact zOK_O hz (by decide) (by decide) rfl | exact zOK_T hz (by decide) (by decide) rfl | (refine ix (zOK_l hz (by decide) (by decide) rfl) ?_; omega) | decide | omega) only [eX11_away_0, eX11_away_1, eX11_away_4, eX11_away_5, eX11_away_6, eX11_away_7, eX11_away_10, eX11_away_11, eX11_away_12, eX11_away_15, eX11_away_18, eX11_away_19, eX11_away_20, eX11_away_21, eX11_away_24, eX11_away_25, eX11_away_26, eX11_away_29, eX11_away_32, eX11_away_34, eX11_away_35, eX11_away_36, Int.cast_ofNat_Int, Nat.reduceLT, Nat.reduceLeDiff, Nat.reduceEqDiff, Nat.reduceAdd, Nat.reduceMul, Int.reduceLE, Int.reduceLT, Int.reduceEq, not_false_iff, nlr, Nat.zero_add, Nat.add_zero, e10f, e01f, eq_self, true_and, and_true, false_and, and_false, and_self, decide_true, decide_false, mm_bd_i, mm_bd_v, if_true, if_false, not_true_eq_false, not_false_eq_true, nI_1, Bool.true_eq_false, Bool.false_eq_true, bI_0, n_le0, n_0lt, n_lt0, n_0le, n_eq0, n_eqm, n_eq1, n_le1, n_1lt, n_1le, n_lt1, nn_le, nI_ltI, nI_eq, nI_clamp, nI_add, pk_mul, i_eq0, i_eqm, i_0le, i_le0, i_0lt, i_lt0, i_mle, i_ltm, ii_le, iI_lt, iI_eq, ni_le, ni_lt, ni_eq, in_le, in_lt, in_eq, ni_add, in_add, ni_sub, in_sub, ni_mul, in_mul, iI_add, iI_sub, iI_mul, i_p1, iI_neg, n_neg, k1, k6, n_s1, rM_in, tI0, tI1, tIm1, tIm7, nI_toInt, iI_toInt, Int.cast_ofNat_Int, c, c2]
  · simp (disch := first | assumption | exact bI_or _ | exact zOK_O hz (by decide) (by decide) rfl | exact zOK_T hz (by decide) (by decide) rfl | (refine ix (zOK_l hz (by decide) (by decide) rfl) ?_; omega) | decide | omega) only [eX11_away_0, eX11_away_1, eX11_away_4, eX11_away_5, eX11_away_6, eX11_away_7, eX11_away_10, eX11_away_11, eX11_away_12, eX11_away_15, eX11_away_18, eX11_away_19, eX11_away_20, eX11_away_21, eX11_away_24, eX11_away_25, eX11_away_26, eX11_away_29, eX11_away_32, eX11_away_34, eX11_away_35, eX11_away_36, Int.cast_ofNat_Int, Nat.reduceLT, Nat.reduceLeDiff, Nat.reduceEqDiff, Nat.reduceAdd, Nat.reduceMul, Int.reduceLE, Int.reduceLT, Int.reduceEq, not_false_iff, nlr, Nat.zero_add, Nat.add_zero, e10f, e01f, eq_self, true_and, and_true, false_and, and_false, and_self, decide_true, decide_false, mm_bd_i, mm_bd_v, if_true, if_false, not_true_eq_false, not_false_eq_true, nI_1, Bool.true_eq_false, Bool.false_eq_true, bI_0, n_le0, n_0lt, n_lt0, n_0le, n_eq0, n_eqm, n_eq1, n_le1, n_1lt, n_1le, n_lt1, nn_le, nI_ltI, nI_eq, nI_clamp, nI_add, pk_mul, i_eq0, i_eqm, i_0le, i_le0, i_0lt, i_lt0, i_mle, i_ltm, ii_le, iI_lt, iI_eq, ni_le, ni_lt, ni_eq, in_le, in_lt, in_eq, ni_add, in_add, ni_sub, in_sub, ni_mul, in_mul, iI_add, iI_sub, iI_mul, i_p1, iI_neg, n_neg, k1, k6, n_s1, rM_in, tI0, tI1, tIm1, tIm7, nI_toInt, iI_toInt, Int.cast_ofNat_Int, c]
theorem rM_away (d : Nat) (z : mm_Z) (F : Nat → Nat → Value) (I : Nat → Nat → Int32) (L : Nat → Nat → Int64) (n : Nat) (hs : Nat → List (Int × Int × Nat)) (st : Nat → Option (Nat × Nat)) (hz : zOK z) (hF : FixM F) (w : wOK n hs st) (h : rmS n hs st F I) (o t : Nat) (ho : o < rN (kd n hs st)) (ht : t < rN (kd n hs st)) : ∃ F' I' L' v, mm_E (d + 6) mX11_away 0 [.ref 120, .int (nI o), .int (nI t), uu, uu, uu, uu, uu, uu] [] (z, F, I, L) = some (some (.int (iI v)), (z, F', I', L')) ∧ awP (kd n hs st) o t v ∧ (∀ r j, ¬ (r = 120 ∧ (j = 17 ∨ j = 18)) → F' r j = F r j) ∧ (∀ r, ¬ r = 127 → ¬ r = 128 → ¬ r = 129 → ¬ r = 132 → I' r = I r) ∧ ∀ x, ¬ x = 131 → L' x = L x := by
  obtain ⟨F1, I1, L1, k1, k2, k3, k4, k5, k6, k7⟩ := rM_findRooms d z F I L n hs st hz hF w h
  generalize kd n hs st = K at *
  have rl := rN_le K
  -- the first distances
  have li : ∀ i, i ≤ rN K → ∀ I2 : Nat → Nat → Int32, (∀ r, r < i → I2 132 r = nI (if r = o then 0 else 1000)) → ∃ I3, mm_E (d + 6) mX11_away 37 [.ref 120, .int (nI o), .int (nI t), .int (nI i), uu, uu, uu, uu, uu] [] (z, F1, I2, L1) = mm_E (d + 6) mX11_away 71 [.ref 120, .int (nI o), .int (nI t), .int (nI 0), uu, uu, uu, uu, uu] [] (z, F1, I3, L1) ∧ (∀ r, r < rN K → I3 132 r = nI (if r = o then 0 else 1000)) ∧ ∀ x, ¬ x = 132 → I3 x = I2 x := by
    apply lp
    · intro I2 hI
      refine ⟨I2, ?_, hI, fun _ _ => rfl⟩
      rw [eX11_away_37]
      simp (disch := first | assumption | exact bI_or _ | exact zOK_O hz (by decide) (by decide) rfl | exact zOK_T hz (by decide) (by decide) rfl | (refine ix (zOK_l hz (by decide) (by decide) rfl) ?_; omega) | decide | omega) only [eX11_away_38, eX11_away_39, eX11_away_42, eX11_away_45, eX11_away_46, eX11_away_49, eX11_away_50, eX11_away_51, eX11_away_52, eX11_away_55, eX11_away_56, eX11_away_59, eX11_away_62, eX11_away_63, eX11_away_66, eX11_away_69, eX11_away_70, Int.cast_ofNat_Int, Nat.reduceLT, Nat.reduceLeDiff, Nat.reduceEqDiff, Nat.reduceAdd, Nat.reduceMul, Int.reduceLE, Int.reduceLT, Int.reduceEq, not_false_iff, nlr, Nat.zero_add, Nat.add_zero, e10f, e01f, eq_self, true_and, and_true, false_and, and_false, and_self, decide_true, decide_false, mm_bd_i, mm_bd_v, if_true, if_false, not_true_eq_false, not_false_eq_true, nI_1, Bool.true_eq_false, Bool.false_eq_true, bI_0, n_le0, n_0lt, n_lt0, n_0le, n_eq0, n_eqm, n_eq1, n_le1, n_1lt, n_1le, n_lt1, nn_le, nI_ltI, nI_eq, nI_clamp, nI_add, pk_mul, i_eq0, i_eqm, i_0le, i_le0, i_0lt, i_lt0, i_mle, i_ltm, ii_le, iI_lt, iI_eq, ni_le, ni_lt, ni_eq, in_le, in_lt, in_eq, ni_add, in_add, ni_sub, in_sub, ni_mul, in_mul, iI_add, iI_sub, iI_mul, i_p1, iI_neg, n_neg, k6]
      rfl
    · intro i hi ih I2 hI
      obtain ⟨I3, g1, g2, g3⟩ := ih (mm_up2 I2 132 i (nI (if i = o then 0 else 1000))) (fun r hr => by
        by_cases e : r = i
        · subst e; rw [up_s]
        · rw [up_k _ _ _ _ e]; exact hI r (by omega))
      refine ⟨I3, ?_, g2, fun x hx => by rw [g3 x hx, up_row _ _ _ hx]⟩
      rw [← g1, eX11_away_37]
      by_cases e : i = o
      · rw [if_pos e]
        subst e
        simp (disch := first | assumption | exact bI_or _ | exact zOK_O hz (by decide) (by decide) rfl | exact zOK_T hz (by decide) (by decide) rfl | (refine ix (zOK_l hz (by decide) (by decide) rfl) ?_; omega) | decide | omega) only [eX11_away_38, eX11_away_39, eX11_away_42, eX11_away_45, eX11_away_46, eX11_away_49, eX11_away_50, eX11_away_51, eX11_away_52, eX11_away_55, eX11_away_56, eX11_away_59, eX11_away_62, eX11_away_63, eX11_away_66, eX11_away_69, eX11_away_70, Int.cast_ofNat_Int, Nat.reduceLT, Nat.reduceLeDiff, Nat.reduceEqDiff, Nat.reduceAdd, Nat.reduceMul, Int.reduceLE, Int.reduceLT, Int.reduceEq, not_false_iff, nlr, Nat.zero_add, Nat.add_zero, e10f, e01f, eq_self, true_and, and_true, false_and, and_false, and_self, decide_true, decide_false, mm_bd_i, mm_bd_v, if_true, if_false, not_true_eq_false, not_false_eq_true, nI_1, Bool.true_eq_false, Bool.false_eq_true, bI_0, n_le0, n_0lt, n_lt0, n_0le, n_eq0, n_eqm, n_eq1, n_le1, n_1lt, n_1le, n_lt1, nn_le, nI_ltI, nI_eq, nI_clamp, nI_add, pk_mul, i_eq0, i_eqm, i_0le, i_le0, i_0lt, i_lt0, i_mle, i_ltm, ii_le, iI_lt, iI_eq, ni_le, ni_lt, ni_eq, in_le, in_lt, in_eq, ni_add, in_add, ni_sub, in_sub, ni_mul, in_mul, iI_add, iI_sub, iI_mul, i_p1, iI_neg, n_neg, k6, hi, fM_20 k3]
        rfl
      · rw [if_neg e]
        simp (disch := first | assumption | exact bI_or _ | exact zOK_O hz (by decide) (by decide) rfl | exact zOK_T hz (by decide) (by decide) rfl | (refine ix (zOK_l hz (by decide) (by decide) rfl) ?_; omega) | decide | omega) only [eX11_away_38, eX11_away_39, eX11_away_42, eX11_away_45, eX11_away_46, eX11_away_49, eX11_away_50, eX11_away_51, eX11_away_52, eX11_away_55, eX11_away_56, eX11_away_59, eX11_away_62, eX11_away_63, eX11_away_66, eX11_away_69, eX11_away_70, Int.cast_ofNat_Int, Nat.reduceLT, Nat.reduceLeDiff, Nat.reduceEqDiff, Nat.reduceAdd, Nat.reduceMul, Int.reduceLE, Int.reduceLT, Int.reduceEq, not_false_iff, nlr, Nat.zero_add, Nat.add_zero, e10f, e01f, eq_self, true_and, and_true, false_and, and_false, and_self, decide_true, decide_false, mm_bd_i, mm_bd_v, if_true, if_false, not_true_eq_false, not_false_eq_true, nI_1, Bool.true_eq_false, Bool.false_eq_true, bI_0, n_le0, n_0lt, n_lt0, n_0le, n_eq0, n_eqm, n_eq1, n_le1, n_1lt, n_1le, n_lt1, nn_le, nI_ltI, nI_eq, nI_clamp, nI_add, pk_mul, i_eq0, i_eqm, i_0le, i_le0, i_0lt, i_lt0, i_mle, i_ltm, ii_le, iI_lt, iI_eq, ni_le, ni_lt, ni_eq, in_le, in_lt, in_eq, ni_add, in_add, ni_sub, in_sub, ni_mul, in_mul, iI_add, iI_sub, iI_mul, i_p1, iI_neg, n_neg, k6, hi, fM_20 k3, e]
  -- the turns
  have lt : ∀ tn, tn ≤ rN K → ∀ (I2 : Nat → Nat → Int32) (f : Nat → Nat) (a4 a5 a6 a7 a8 : Value), (∀ r, r < rN K → I2 132 r = nI (f r)) → snd' K o f → (∀ k, k ≤ tn → ∀ r, r < rN K → lvB K o k r = true → f r ≤ k) → ∃ I3 v, mm_E (d + 6) mX11_away 71 [.ref 120, .int (nI o), .int (nI t), .int (nI tn), a4, a5, a6, a7, a8] [] (z, F1, I2, L1) = some (some (.int (iI v)), (z, F1, I3, L1)) ∧ awP K o t v ∧ ∀ x, ¬ x = 132 → I3 x = I2 x := by
    apply lp
    · intro I2 f a4 a5 a6 a7 a8 hI hs hc
      have ft := hs t ht
      by_cases c : f t < 1000
      · have lv := ft.2 c
        obtain ⟨j, j1, j2, j3⟩ := lv_bound K o ho t ht (f t) lv
        have := hc j (by omega) t ht j3
        refine ⟨I2, f t, ?_, Or.inl ⟨f t, rfl, by omega, lv, fun i hi => ?_⟩, fun _ _ => rfl⟩
        · rw [← nI_iI, eX11_away_71]
          simp (disch := first | assumption | exact bI_or _ | exact zOK_O hz (by decide) (by decide) rfl | exact zOK_T hz (by decide) (by decide) rfl | (refine ix (zOK_l hz (by decide) (by decide) rfl) ?_; omega) | decide | omega) only [eX11_away_72, eX11_away_73, eX11_away_76, eX11_away_79, eX11_away_80, eX11_away_237, eX11_away_238, eX11_away_241, eX11_away_242, eX11_away_243, eX11_away_246, eX11_away_249, eX11_away_250, eX11_away_253, eX11_away_254, eX11_away_257, eX11_away_258, eX11_away_259, Int.cast_ofNat_Int, Nat.reduceLT, Nat.reduceLeDiff, Nat.reduceEqDiff, Nat.reduceAdd, Nat.reduceMul, Int.reduceLE, Int.reduceLT, Int.reduceEq, not_false_iff, nlr, Nat.zero_add, Nat.add_zero, e10f, e01f, eq_self, true_and, and_true, false_and, and_false, and_self, decide_true, decide_false, mm_bd_i, mm_bd_v, if_true, if_false, not_true_eq_false, not_false_eq_true, nI_1, Bool.true_eq_false, Bool.false_eq_true, bI_0, n_le0, n_0lt, n_lt0, n_0le, n_eq0, n_eqm, n_eq1, n_le1, n_1lt, n_1le, n_lt1, nn_le, nI_ltI, nI_eq, nI_clamp, nI_add, pk_mul, i_eq0, i_eqm, i_0le, i_le0, i_0lt, i_lt0, i_mle, i_ltm, ii_le, iI_lt, iI_eq, ni_le, ni_lt, ni_eq, in_le, in_lt, in_eq, ni_add, in_add, ni_sub, in_sub, ni_mul, in_mul, iI_add, iI_sub, iI_mul, i_p1, iI_neg, n_neg, k6, fM_20 k3, hI t ht, c]
        · cases q : lvB K o i t with
          | false => rfl
          | true =>
            obtain ⟨j', y1, y2, y3⟩ := lv_bound K o ho t ht i q
            have := hc j' (by omega) t ht y3
            omega
      · refine ⟨I2, -1, ?_, Or.inr ⟨rfl, fun k => ?_⟩, fun _ _ => rfl⟩
        · rw [iI_m1, eX11_away_71]
          simp (disch := first | assumption | exact bI_or _ | exact zOK_O hz (by decide) (by decide) rfl | exact zOK_T hz (by decide) (by decide) rfl | (refine ix (zOK_l hz (by decide) (by decide) rfl) ?_; omega) | decide | omega) only [eX11_away_72, eX11_away_73, eX11_away_76, eX11_away_79, eX11_away_80, eX11_away_237, eX11_away_238, eX11_away_241, eX11_away_242, eX11_away_243, eX11_away_246, eX11_away_249, eX11_away_250, eX11_away_253, eX11_away_254, eX11_away_257, eX11_away_258, eX11_away_259, Int.cast_ofNat_Int, Nat.reduceLT, Nat.reduceLeDiff, Nat.reduceEqDiff, Nat.reduceAdd, Nat.reduceMul, Int.reduceLE, Int.reduceLT, Int.reduceEq, not_false_iff, nlr, Nat.zero_add, Nat.add_zero, e10f, e01f, eq_self, true_and, and_true, false_and, and_false, and_self, decide_true, decide_false, mm_bd_i, mm_bd_v, if_true, if_false, not_true_eq_false, not_false_eq_true, nI_1, Bool.true_eq_false, Bool.false_eq_true, bI_0, n_le0, n_0lt, n_lt0, n_0le, n_eq0, n_eqm, n_eq1, n_le1, n_1lt, n_1le, n_lt1, nn_le, nI_ltI, nI_eq, nI_clamp, nI_add, pk_mul, i_eq0, i_eqm, i_0le, i_le0, i_0lt, i_lt0, i_mle, i_ltm, ii_le, iI_lt, iI_eq, ni_le, ni_lt, ni_eq, in_le, in_lt, in_eq, ni_add, in_add, ni_sub, in_sub, ni_mul, in_mul, iI_add, iI_sub, iI_mul, i_p1, iI_neg, n_neg, k6, fM_20 k3, hI t ht, c]
        · cases q : lvB K o k t with
          | false => rfl
          | true =>
            obtain ⟨j', y1, y2, y3⟩ := lv_bound K o ho t ht k q
            have := hc j' (by omega) t ht y3
            omega
    · intro tn htn ih I2 f a4 a5 a6 a7 a8 hI hs hc
      obtain ⟨I3, f', b5, b6, b7, b8, g1, g2, g3, g4, g5, g6⟩ := rM_away_in (d + 3) z F1 L1 K hz k3 k5 k6 k7 o (.int (nI o)) (.int (nI t)) (.int (nI tn)) 0 (by omega) I2 f a5 a6 a7 a8 hI hs
      obtain ⟨I4, v, m1, m2, m3⟩ := ih I3 f' (.int (nI 1024)) b5 b6 b7 b8 g2 g3 (by
        intro k hk r hr q
        by_cases e : k ≤ tn
        · have := hc k e r hr q
          have := g4 r hr
          omega
        · have ek : k = tn + 1 := by omega
          subst ek
          rcases (lv_s K o tn r).mp q with q | ⟨p, p1, p2, p3⟩
          · have := hc tn (Nat.le_refl _) r hr q
            have := g4 r hr
            omega
          · have w := hc tn (Nat.le_refl _) p p1 p2
            unfold adB at p3
            rw [List.any_eq_true] at p3
            obtain ⟨kk, kk1, kk2⟩ := p3
            rw [List.mem_range] at kk1
            have := g5 kk (by omega) kk1 p r p1 hr kk2
            omega)
      refine ⟨I4, v, ?_, m2, fun x hx => by rw [m3 x hx, g6 x hx]⟩
      rw [nI_0] at g1
      rw [← m1, eX11_away_71]
      simp (disch := first | assumption | exact bI_or _ | exact zOK_O hz (by decide) (by decide) rfl | exact zOK_T hz (by decide) (by decide) rfl | (refine ix (zOK_l hz (by decide) (by decide) rfl) ?_; omega) | decide | omega) only [eX11_away_72, eX11_away_73, eX11_away_76, eX11_away_79, eX11_away_80, Int.cast_ofNat_Int, Nat.reduceLT, Nat.reduceLeDiff, Nat.reduceEqDiff, Nat.reduceAdd, Nat.reduceMul, Int.reduceLE, Int.reduceLT, Int.reduceEq, not_false_iff, nlr, Nat.zero_add, Nat.add_zero, e10f, e01f, eq_self, true_and, and_true, false_and, and_false, and_self, decide_true, decide_false, mm_bd_i, mm_bd_v, if_true, if_false, not_true_eq_false, not_false_eq_true, nI_1, Bool.true_eq_false, Bool.false_eq_true, bI_0, n_le0, n_0lt, n_lt0, n_0le, n_eq0, n_eqm, n_eq1, n_le1, n_1lt, n_1le, n_lt1, nn_le, nI_ltI, nI_eq, nI_clamp, nI_add, pk_mul, i_eq0, i_eqm, i_0le, i_le0, i_0lt, i_lt0, i_mle, i_ltm, ii_le, iI_lt, iI_eq, ni_le, ni_lt, ni_eq, in_le, in_lt, in_eq, ni_add, in_add, ni_sub, in_sub, ni_mul, in_mul, iI_add, iI_sub, iI_mul, i_p1, iI_neg, n_neg, k6, htn]
      rw [g1]
      simp (disch := first | assumption | exact bI_or _ | exact zOK_O hz (by decide) (by decide) rfl | exact zOK_T hz (by decide) (by decide) rfl | (refine ix (zOK_l hz (by decide) (by decide) rfl) ?_; omega) | decide | omega) only [eX11_away_231, eX11_away_234, Int.cast_ofNat_Int, Nat.reduceLT, Nat.reduceLeDiff, Nat.reduceEqDiff, Nat.reduceAdd, Nat.reduceMul, Int.reduceLE, Int.reduceLT, Int.reduceEq, not_false_iff, nlr, Nat.zero_add, Nat.add_zero, e10f, e01f, eq_self, true_and, and_true, false_and, and_false, and_self, decide_true, decide_false, mm_bd_i, mm_bd_v, if_true, if_false, not_true_eq_false, not_false_eq_true, nI_1, Bool.true_eq_false, Bool.false_eq_true, bI_0, n_le0, n_0lt, n_lt0, n_0le, n_eq0, n_eqm, n_eq1, n_le1, n_1lt, n_1le, n_lt1, nn_le, nI_ltI, nI_eq, nI_clamp, nI_add, pk_mul, i_eq0, i_eqm, i_0le, i_le0, i_0lt, i_lt0, i_mle, i_ltm, ii_le, iI_lt, iI_eq, ni_le, ni_lt, ni_eq, in_le, in_lt, in_eq, ni_add, in_add, ni_sub, in_sub, ni_mul, in_mul, iI_add, iI_sub, iI_mul, i_p1, iI_neg, n_neg]
  obtain ⟨I3, g1, g2, g3⟩ := li 0 (by omega) I1 (fun r hr => absurd hr (by omega))
  obtain ⟨I4, v, m1, m2, m3⟩ := lt 0 (by omega) I3 (fun r => if r = o then 0 else 1000) uu uu uu uu uu g2 (fun r hr => by
    by_cases e : r = o
    · simp only [e, if_true]; exact ⟨by decide, fun _ => by rw [lvB]; simp⟩
    · simp only [e, if_false]; exact ⟨by decide, fun q => absurd q (by decide)⟩) (fun k hk r hr q => by
    have : k = 0 := by omega
    subst this
    rw [lvB, decide_eq_true_eq] at q
    simp only [q, if_true]; exact Nat.le_refl _)
  refine ⟨F1, I4, L1, v, ?_, m2, k2.1, fun r r1 r2 r3 r4 => by rw [m3 r r4, g3 r r4, k2.2.1 r r1 r2 r3], k2.2.2⟩
  have e1 : 0 ≤ (o : Int) ∧ (o : Int) ≤ (rN K : Int) - 1 := by omega
  have e2 : 0 ≤ (t : Int) ∧ (t : Int) ≤ (rN K : Int) - 1 := by omega
  rw [← m1, ← g1]
  simp (disch := first | assumption | exact bI_or _ | exact zOK_O hz (by decide) (by decide) rfl | exact zOK_T hz (by decide) (by decide) rfl | (refine ix (zOK_l hz (by decide) (by decide) rfl) ?_; omega) | decide | omega) only [eX11_away_0, eX11_away_1, eX11_away_4, eX11_away_5, eX11_away_6, eX11_away_7, eX11_away_10, eX11_away_11, eX11_away_12, eX11_away_15, eX11_away_18, eX11_away_19, eX11_away_20, eX11_away_21, eX11_away_24, eX11_away_25, eX11_away_26, eX11_away_29, eX11_away_32, eX11_away_34, eX11_away_35, eX11_away_36, Int.cast_ofNat_Int, Nat.reduceLT, Nat.reduceLeDiff, Nat.reduceEqDiff, Nat.reduceAdd, Nat.reduceMul, Int.reduceLE, Int.reduceLT, Int.reduceEq, not_false_iff, nlr, Nat.zero_add, Nat.add_zero, e10f, e01f, eq_self, true_and, and_true, false_and, and_false, and_self, decide_true, decide_false, mm_bd_i, mm_bd_v, if_true, if_false, not_true_eq_false, not_false_eq_true, nI_1, Bool.true_eq_false, Bool.false_eq_true, bI_0, n_le0, n_0lt, n_lt0, n_0le, n_eq0, n_eqm, n_eq1, n_le1, n_1lt, n_1le, n_lt1, nn_le, nI_ltI, nI_eq, nI_clamp, nI_add, pk_mul, i_eq0, i_eqm, i_0le, i_le0, i_0lt, i_lt0, i_mle, i_ltm, ii_le, iI_lt, iI_eq, ni_le, ni_lt, ni_eq, in_le, in_lt, in_eq, ni_add, in_add, ni_sub, in_sub, ni_mul, in_mul, iI_add, iI_sub, iI_mul, i_p1, iI_neg, n_neg, k1, k6, n_s1, rM_in, tI0, tI1, tIm1, tIm7, nI_toInt, iI_toInt, Int.cast_ofNat_Int, e1, e2]
  rfl
