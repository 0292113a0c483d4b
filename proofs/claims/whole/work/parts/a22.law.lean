/-! the law: one call after the other -/
theorem lg_self (x : Int64) : lg_cmp x x = 0 := by simp [lg_cmp]
def lwS (z : mm_Z) (i : Nat) : Prop := zOK z ∧ mm_zS z ∧ i + 5 ≤ mm_zl z 1 ∧ mm_zl z 1 ≤ 2560
def lwG (d : Nat) (z : mm_Z) (F : Nat → Nat → Value) (I : Nat → Nat → Int32) (L : Nat → Nat → Int64) (i p : Nat) : Prop := ∃ F' I' L', mm_E (d + 31) mL_law p [.ref 1, .ref 2, .ref 120, .int (nI i)] [] (z, F, I, L) = mm_E (d + 31) mL_law 1358 [.ref 1, .ref 2, .ref 120, .int (nI i)] [] (z, F', I', L') ∧ gI F' I' L'
theorem lwV {z : mm_Z} {i : Nat} (h : lwS z i) {j : Nat} (hj : j < 5) : vp_in (nI (i + j)) (mm_zl z 1) := ix rfl ⟨by have := h.2.2.1; omega, by have := h.2.2.2; omega⟩
theorem lw_sweep (d : Nat) (z : mm_Z) (F : Nat → Nat → Value) (I : Nat → Nat → Int32) (L : Nat → Nat → Int64) (i : Nat) (h : lwS z i) (g : gI F I L) : lwG d z F I L i 196 := by
  obtain ⟨hz, hS, b1, b2⟩ := id h
  have v0 := lwV h (j := 0) (by omega)
  have v1 := lwV h (j := 1) (by omega)
  have v2 := lwV h (j := 2) (by omega)
  have v3 := lwV h (j := 3) (by omega)
  have v4 := lwV h (j := 4) (by omega)
  obtain ⟨v, F1, I1, L1, F2, I2, L2, e1, e2, h1, h2, g2⟩ := op_sweep d z F I L hz g 
  refine ⟨F2, I2, L2, ?_, g2⟩
  simp (disch := first | assumption | exact bI_or _ | exact zOK_O hz (by decide) (by decide) rfl | exact zOK_T hz (by decide) (by decide) rfl | (refine ix (zOK_l hz (by decide) (by decide) rfl) ?_; omega) | decide | omega) only [eL_law_196, eL_law_197, eL_law_200, eL_law_201, eL_law_204, eL_law_207, eL_law_208, Int.cast_ofNat_Int, Nat.reduceLT, Nat.reduceLeDiff, Nat.reduceEqDiff, Nat.reduceAdd, Nat.reduceMul, Int.reduceLE, Int.reduceLT, Int.reduceEq, not_false_iff, nlr, Nat.zero_add, Nat.add_zero, e10f, e01f, eq_self, true_and, and_true, false_and, and_false, and_self, decide_true, decide_false, mm_bd_i, mm_bd_v, if_true, if_false, not_true_eq_false, not_false_eq_true, nI_1, Bool.true_eq_false, Bool.false_eq_true, bI_0, n_le0, n_0lt, n_lt0, n_0le, n_eq0, n_eqm, n_eq1, n_le1, n_1lt, n_1le, n_lt1, nn_le, nI_ltI, nI_eq, nI_clamp, nI_add, pk_mul, i_eq0, i_eqm, i_0le, i_le0, i_0lt, i_lt0, i_mle, i_ltm, ii_le, iI_lt, iI_eq, ni_le, ni_lt, ni_eq, in_le, in_lt, in_eq, ni_add, in_add, ni_sub, in_sub, ni_mul, in_mul, iI_add, iI_sub, iI_mul, i_p1, iI_neg, n_neg, e1, e2, h1, lg_self]
theorem lw_hit (d : Nat) (z : mm_Z) (F : Nat → Nat → Value) (I : Nat → Nat → Int32) (L : Nat → Nat → Int64) (i : Nat) (h : lwS z i) (g : gI F I L) : lwG d z F I L i 209 := by
  obtain ⟨hz, hS, b1, b2⟩ := id h
  have v0 := lwV h (j := 0) (by omega)
  have v1 := lwV h (j := 1) (by omega)
  have v2 := lwV h (j := 2) (by omega)
  have v3 := lwV h (j := 3) (by omega)
  have v4 := lwV h (j := 4) (by omega)
  obtain ⟨v, F1, I1, L1, F2, I2, L2, e1, e2, h1, h2, g2⟩ := op_hit d z F I L hz g (I 1 (i + 1)) (I 1 (i + 2)) (I 1 (i + 3)) (I 1 (i + 4))
  refine ⟨F2, I2, L2, ?_, g2⟩
  simp (disch := first | assumption | exact bI_or _ | exact zOK_O hz (by decide) (by decide) rfl | exact zOK_T hz (by decide) (by decide) rfl | (refine ix (zOK_l hz (by decide) (by decide) rfl) ?_; omega) | decide | omega) only [eL_law_209, eL_law_210, eL_law_211, eL_law_212, eL_law_213, eL_law_214, eL_law_215, eL_law_216, eL_law_217, eL_law_218, eL_law_219, eL_law_220, eL_law_221, eL_law_222, eL_law_223, eL_law_224, eL_law_225, eL_law_226, eL_law_227, eL_law_228, eL_law_229, eL_law_230, eL_law_233, eL_law_234, eL_law_235, eL_law_236, eL_law_237, eL_law_238, eL_law_239, eL_law_240, eL_law_241, eL_law_242, eL_law_243, eL_law_244, eL_law_245, eL_law_246, eL_law_247, eL_law_248, eL_law_249, eL_law_250, eL_law_251, eL_law_252, eL_law_253, eL_law_254, eL_law_257, eL_law_260, eL_law_261, Int.cast_ofNat_Int, Nat.reduceLT, Nat.reduceLeDiff, Nat.reduceEqDiff, Nat.reduceAdd, Nat.reduceMul, Int.reduceLE, Int.reduceLT, Int.reduceEq, not_false_iff, nlr, Nat.zero_add, Nat.add_zero, e10f, e01f, eq_self, true_and, and_true, false_and, and_false, and_self, decide_true, decide_false, mm_bd_i, mm_bd_v, if_true, if_false, not_true_eq_false, not_false_eq_true, nI_1, Bool.true_eq_false, Bool.false_eq_true, bI_0, n_le0, n_0lt, n_lt0, n_0le, n_eq0, n_eqm, n_eq1, n_le1, n_1lt, n_1le, n_lt1, nn_le, nI_ltI, nI_eq, nI_clamp, nI_add, pk_mul, i_eq0, i_eqm, i_0le, i_le0, i_0lt, i_lt0, i_mle, i_ltm, ii_le, iI_lt, iI_eq, ni_le, ni_lt, ni_eq, in_le, in_lt, in_eq, ni_add, in_add, ni_sub, in_sub, ni_mul, in_mul, iI_add, iI_sub, iI_mul, i_p1, iI_neg, n_neg, e1, e2, h1, lg_self]
theorem lw_stand (d : Nat) (z : mm_Z) (F : Nat → Nat → Value) (I : Nat → Nat → Int32) (L : Nat → Nat → Int64) (i : Nat) (h : lwS z i) (g : gI F I L) : lwG d z F I L i 262 := by
  obtain ⟨hz, hS, b1, b2⟩ := id h
  have v0 := lwV h (j := 0) (by omega)
  have v1 := lwV h (j := 1) (by omega)
  have v2 := lwV h (j := 2) (by omega)
  have v3 := lwV h (j := 3) (by omega)
  have v4 := lwV h (j := 4) (by omega)
  obtain ⟨v, F1, I1, L1, F2, I2, L2, e1, e2, h1, h2, g2⟩ := op_stand d z F I L hz g (I 1 (i + 1)) (I 1 (i + 2)) (I 1 (i + 3))
  refine ⟨F2, I2, L2, ?_, g2⟩
  simp (disch := first | assumption | exact bI_or _ | exact zOK_O hz (by decide) (by decide) rfl | exact zOK_T hz (by decide) (by decide) rfl | (refine ix (zOK_l hz (by decide) (by decide) rfl) ?_; omega) | decide | omega) only [eL_law_262, eL_law_263, eL_law_264, eL_law_265, eL_law_266, eL_law_267, eL_law_268, eL_law_269, eL_law_270, eL_law_271, eL_law_272, eL_law_273, eL_law_274, eL_law_275, eL_law_276, eL_law_277, eL_law_278, eL_law_281, eL_law_282, eL_law_283, eL_law_284, eL_law_285, eL_law_286, eL_law_287, eL_law_288, eL_law_289, eL_law_290, eL_law_291, eL_law_292, eL_law_293, eL_law_294, eL_law_295, eL_law_296, eL_law_297, eL_law_300, eL_law_303, eL_law_304, Int.cast_ofNat_Int, Nat.reduceLT, Nat.reduceLeDiff, Nat.reduceEqDiff, Nat.reduceAdd, Nat.reduceMul, Int.reduceLE, Int.reduceLT, Int.reduceEq, not_false_iff, nlr, Nat.zero_add, Nat.add_zero, e10f, e01f, eq_self, true_and, and_true, false_and, and_false, and_self, decide_true, decide_false, mm_bd_i, mm_bd_v, if_true, if_false, not_true_eq_false, not_false_eq_true, nI_1, Bool.true_eq_false, Bool.false_eq_true, bI_0, n_le0, n_0lt, n_lt0, n_0le, n_eq0, n_eqm, n_eq1, n_le1, n_1lt, n_1le, n_lt1, nn_le, nI_ltI, nI_eq, nI_clamp, nI_add, pk_mul, i_eq0, i_eqm, i_0le, i_le0, i_0lt, i_lt0, i_mle, i_ltm, ii_le, iI_lt, iI_eq, ni_le, ni_lt, ni_eq, in_le, in_lt, in_eq, ni_add, in_add, ni_sub, in_sub, ni_mul, in_mul, iI_add, iI_sub, iI_mul, i_p1, iI_neg, n_neg, e1, e2, h1, lg_self]
theorem lw_part (d : Nat) (z : mm_Z) (F : Nat → Nat → Value) (I : Nat → Nat → Int32) (L : Nat → Nat → Int64) (i : Nat) (h : lwS z i) (g : gI F I L) : lwG d z F I L i 305 := by
  obtain ⟨hz, hS, b1, b2⟩ := id h
  have v0 := lwV h (j := 0) (by omega)
  have v1 := lwV h (j := 1) (by omega)
  have v2 := lwV h (j := 2) (by omega)
  have v3 := lwV h (j := 3) (by omega)
  have v4 := lwV h (j := 4) (by omega)
  obtain ⟨v, F1, I1, L1, F2, I2, L2, e1, e2, h1, h2, g2⟩ := op_part d z F I L hz g (I 1 (i + 1))
  refine ⟨F2, I2, L2, ?_, g2⟩
  simp (disch := first | assumption | exact bI_or _ | exact zOK_O hz (by decide) (by decide) rfl | exact zOK_T hz (by decide) (by decide) rfl | (refine ix (zOK_l hz (by decide) (by decide) rfl) ?_; omega) | decide | omega) only [eL_law_305, eL_law_306, eL_law_307, eL_law_308, eL_law_309, eL_law_310, eL_law_311, eL_law_314, eL_law_315, eL_law_316, eL_law_317, eL_law_318, eL_law_319, eL_law_320, eL_law_323, eL_law_326, eL_law_327, Int.cast_ofNat_Int, Nat.reduceLT, Nat.reduceLeDiff, Nat.reduceEqDiff, Nat.reduceAdd, Nat.reduceMul, Int.reduceLE, Int.reduceLT, Int.reduceEq, not_false_iff, nlr, Nat.zero_add, Nat.add_zero, e10f, e01f, eq_self, true_and, and_true, false_and, and_false, and_self, decide_true, decide_false, mm_bd_i, mm_bd_v, if_true, if_false, not_true_eq_false, not_false_eq_true, nI_1, Bool.true_eq_false, Bool.false_eq_true, bI_0, n_le0, n_0lt, n_lt0, n_0le, n_eq0, n_eqm, n_eq1, n_le1, n_1lt, n_1le, n_lt1, nn_le, nI_ltI, nI_eq, nI_clamp, nI_add, pk_mul, i_eq0, i_eqm, i_0le, i_le0, i_0lt, i_lt0, i_mle, i_ltm, ii_le, iI_lt, iI_eq, ni_le, ni_lt, ni_eq, in_le, in_lt, in_eq, ni_add, in_add, ni_sub, in_sub, ni_mul, in_mul, iI_add, iI_sub, iI_mul, i_p1, iI_neg, n_neg, e1, e2, h1, lg_self]
theorem lw_set (d : Nat) (z : mm_Z) (F : Nat → Nat → Value) (I : Nat → Nat → Int32) (L : Nat → Nat → Int64) (i : Nat) (h : lwS z i) (g : gI F I L) : lwG d z F I L i 328 := by
  obtain ⟨hz, hS, b1, b2⟩ := id h
  have v0 := lwV h (j := 0) (by omega)
  have v1 := lwV h (j := 1) (by omega)
  have v2 := lwV h (j := 2) (by omega)
  have v3 := lwV h (j := 3) (by omega)
  have v4 := lwV h (j := 4) (by omega)
  obtain ⟨v, F1, I1, L1, F2, I2, L2, e1, e2, h1, h2, g2⟩ := op_set d z F I L hz g (I 1 (i + 1)) (I 1 (i + 2))
  refine ⟨F2, I2, L2, ?_, g2⟩
  simp (disch := first | assumption | exact bI_or _ | exact zOK_O hz (by decide) (by decide) rfl | exact zOK_T hz (by decide) (by decide) rfl | (refine ix (zOK_l hz (by decide) (by decide) rfl) ?_; omega) | decide | omega) only [eL_law_328, eL_law_329, eL_law_330, eL_law_331, eL_law_332, eL_law_333, eL_law_334, eL_law_335, eL_law_336, eL_law_337, eL_law_338, eL_law_339, eL_law_342, eL_law_343, eL_law_344, eL_law_345, eL_law_346, eL_law_347, eL_law_348, eL_law_349, eL_law_350, eL_law_351, eL_law_352, eL_law_353, eL_law_356, eL_law_359, eL_law_360, Int.cast_ofNat_Int, Nat.reduceLT, Nat.reduceLeDiff, Nat.reduceEqDiff, Nat.reduceAdd, Nat.reduceMul, Int.reduceLE, Int.reduceLT, Int.reduceEq, not_false_iff, nlr, Nat.zero_add, Nat.add_zero, e10f, e01f, eq_self, true_and, and_true, false_and, and_false, and_self, decide_true, decide_false, mm_bd_i, mm_bd_v, if_true, if_false, not_true_eq_false, not_false_eq_true, nI_1, Bool.true_eq_false, Bool.false_eq_true, bI_0, n_le0, n_0lt, n_lt0, n_0le, n_eq0, n_eqm, n_eq1, n_le1, n_1lt, n_1le, n_lt1, nn_le, nI_ltI, nI_eq, nI_clamp, nI_add, pk_mul, i_eq0, i_eqm, i_0le, i_le0, i_0lt, i_lt0, i_mle, i_ltm, ii_le, iI_lt, iI_eq, ni_le, ni_lt, ni_eq, in_le, in_lt, in_eq, ni_add, in_add, ni_sub, in_sub, ni_mul, in_mul, iI_add, iI_sub, iI_mul, i_p1, iI_neg, n_neg, e1, e2, h1, lg_self]
theorem lw_way (d : Nat) (z : mm_Z) (F : Nat → Nat → Value) (I : Nat → Nat → Int32) (L : Nat → Nat → Int64) (i : Nat) (h : lwS z i) (g : gI F I L) : lwG d z F I L i 361 := by
  obtain ⟨hz, hS, b1, b2⟩ := id h
  have v0 := lwV h (j := 0) (by omega)
  have v1 := lwV h (j := 1) (by omega)
  have v2 := lwV h (j := 2) (by omega)
  have v3 := lwV h (j := 3) (by omega)
  have v4 := lwV h (j := 4) (by omega)
  obtain ⟨v, F1, I1, L1, F2, I2, L2, e1, e2, h1, h2, g2⟩ := op_way d z F I L hz g (I 1 (i + 1)) (I 1 (i + 2))
  refine ⟨F2, I2, L2, ?_, g2⟩
  simp (disch := first | assumption | exact bI_or _ | exact zOK_O hz (by decide) (by decide) rfl | exact zOK_T hz (by decide) (by decide) rfl | (refine ix (zOK_l hz (by decide) (by decide) rfl) ?_; omega) | decide | omega) only [eL_law_361, eL_law_362, eL_law_363, eL_law_364, eL_law_365, eL_law_366, eL_law_367, eL_law_368, eL_law_369, eL_law_370, eL_law_371, eL_law_372, eL_law_375, eL_law_376, eL_law_377, eL_law_378, eL_law_379, eL_law_380, eL_law_381, eL_law_382, eL_law_383, eL_law_384, eL_law_385, eL_law_386, eL_law_389, eL_law_392, eL_law_393, Int.cast_ofNat_Int, Nat.reduceLT, Nat.reduceLeDiff, Nat.reduceEqDiff, Nat.reduceAdd, Nat.reduceMul, Int.reduceLE, Int.reduceLT, Int.reduceEq, not_false_iff, nlr, Nat.zero_add, Nat.add_zero, e10f, e01f, eq_self, true_and, and_true, false_and, and_false, and_self, decide_true, decide_false, mm_bd_i, mm_bd_v, if_true, if_false, not_true_eq_false, not_false_eq_true, nI_1, Bool.true_eq_false, Bool.false_eq_true, bI_0, n_le0, n_0lt, n_lt0, n_0le, n_eq0, n_eqm, n_eq1, n_le1, n_1lt, n_1le, n_lt1, nn_le, nI_ltI, nI_eq, nI_clamp, nI_add, pk_mul, i_eq0, i_eqm, i_0le, i_le0, i_0lt, i_lt0, i_mle, i_ltm, ii_le, iI_lt, iI_eq, ni_le, ni_lt, ni_eq, in_le, in_lt, in_eq, ni_add, in_add, ni_sub, in_sub, ni_mul, in_mul, iI_add, iI_sub, iI_mul, i_p1, iI_neg, n_neg, e1, e2, h1, lg_self]
theorem lw_fits (d : Nat) (z : mm_Z) (F : Nat → Nat → Value) (I : Nat → Nat → Int32) (L : Nat → Nat → Int64) (i : Nat) (h : lwS z i) (g : gI F I L) : lwG d z F I L i 394 := by
  obtain ⟨hz, hS, b1, b2⟩ := id h
  have v0 := lwV h (j := 0) (by omega)
  have v1 := lwV h (j := 1) (by omega)
  have v2 := lwV h (j := 2) (by omega)
  have v3 := lwV h (j := 3) (by omega)
  have v4 := lwV h (j := 4) (by omega)
  obtain ⟨v, F1, I1, L1, F2, I2, L2, e1, e2, h1, h2, g2⟩ := op_fits d z F I L hz g (I 1 (i + 1)) (I 1 (i + 2)) (I 1 (i + 3)) (I 1 (i + 4))
  refine ⟨F2, I2, L2, ?_, g2⟩
  simp (disch := first | assumption | exact bI_or _ | exact zOK_O hz (by decide) (by decide) rfl | exact zOK_T hz (by decide) (by decide) rfl | (refine ix (zOK_l hz (by decide) (by decide) rfl) ?_; omega) | decide | omega) only [eL_law_394, eL_law_395, eL_law_396, eL_law_397, eL_law_398, eL_law_399, eL_law_400, eL_law_401, eL_law_402, eL_law_403, eL_law_404, eL_law_405, eL_law_406, eL_law_407, eL_law_408, eL_law_409, eL_law_410, eL_law_411, eL_law_412, eL_law_413, eL_law_414, eL_law_415, eL_law_418, eL_law_419, eL_law_420, eL_law_421, eL_law_422, eL_law_423, eL_law_424, eL_law_425, eL_law_426, eL_law_427, eL_law_428, eL_law_429, eL_law_430, eL_law_431, eL_law_432, eL_law_433, eL_law_434, eL_law_435, eL_law_436, eL_law_437, eL_law_438, eL_law_439, eL_law_442, eL_law_445, eL_law_446, Int.cast_ofNat_Int, Nat.reduceLT, Nat.reduceLeDiff, Nat.reduceEqDiff, Nat.reduceAdd, Nat.reduceMul, Int.reduceLE, Int.reduceLT, Int.reduceEq, not_false_iff, nlr, Nat.zero_add, Nat.add_zero, e10f, e01f, eq_self, true_and, and_true, false_and, and_false, and_self, decide_true, decide_false, mm_bd_i, mm_bd_v, if_true, if_false, not_true_eq_false, not_false_eq_true, nI_1, Bool.true_eq_false, Bool.false_eq_true, bI_0, n_le0, n_0lt, n_lt0, n_0le, n_eq0, n_eqm, n_eq1, n_le1, n_1lt, n_1le, n_lt1, nn_le, nI_ltI, nI_eq, nI_clamp, nI_add, pk_mul, i_eq0, i_eqm, i_0le, i_le0, i_0lt, i_lt0, i_mle, i_ltm, ii_le, iI_lt, iI_eq, ni_le, ni_lt, ni_eq, in_le, in_lt, in_eq, ni_add, in_add, ni_sub, in_sub, ni_mul, in_mul, iI_add, iI_sub, iI_mul, i_p1, iI_neg, n_neg, e1, e2, h1, lg_self]
theorem lw_bars (d : Nat) (z : mm_Z) (F : Nat → Nat → Value) (I : Nat → Nat → Int32) (L : Nat → Nat → Int64) (i : Nat) (h : lwS z i) (g : gI F I L) : lwG d z F I L i 447 := by
  obtain ⟨hz, hS, b1, b2⟩ := id h
  have v0 := lwV h (j := 0) (by omega)
  have v1 := lwV h (j := 1) (by omega)
  have v2 := lwV h (j := 2) (by omega)
  have v3 := lwV h (j := 3) (by omega)
  have v4 := lwV h (j := 4) (by omega)
  obtain ⟨v, F1, I1, L1, F2, I2, L2, e1, e2, h1, h2, g2⟩ := op_bars d z F I L hz g (I 1 (i + 1)) (I 1 (i + 2)) (I 1 (i + 3))
  refine ⟨F2, I2, L2, ?_, g2⟩
  simp (disch := first | assumption | exact bI_or _ | exact zOK_O hz (by decide) (by decide) rfl | exact zOK_T hz (by decide) (by decide) rfl | (refine ix (zOK_l hz (by decide) (by decide) rfl) ?_; omega) | decide | omega) only [eL_law_447, eL_law_448, eL_law_449, eL_law_450, eL_law_451, eL_law_452, eL_law_453, eL_law_454, eL_law_455, eL_law_456, eL_law_457, eL_law_458, eL_law_459, eL_law_460, eL_law_461, eL_law_462, eL_law_463, eL_law_466, eL_law_467, eL_law_468, eL_law_469, eL_law_470, eL_law_471, eL_law_472, eL_law_473, eL_law_474, eL_law_475, eL_law_476, eL_law_477, eL_law_478, eL_law_479, eL_law_480, eL_law_481, eL_law_482, eL_law_485, eL_law_488, eL_law_489, Int.cast_ofNat_Int, Nat.reduceLT, Nat.reduceLeDiff, Nat.reduceEqDiff, Nat.reduceAdd, Nat.reduceMul, Int.reduceLE, Int.reduceLT, Int.reduceEq, not_false_iff, nlr, Nat.zero_add, Nat.add_zero, e10f, e01f, eq_self, true_and, and_true, false_and, and_false, and_self, decide_true, decide_false, mm_bd_i, mm_bd_v, if_true, if_false, not_true_eq_false, not_false_eq_true, nI_1, Bool.true_eq_false, Bool.false_eq_true, bI_0, n_le0, n_0lt, n_lt0, n_0le, n_eq0, n_eqm, n_eq1, n_le1, n_1lt, n_1le, n_lt1, nn_le, nI_ltI, nI_eq, nI_clamp, nI_add, pk_mul, i_eq0, i_eqm, i_0le, i_le0, i_0lt, i_lt0, i_mle, i_ltm, ii_le, iI_lt, iI_eq, ni_le, ni_lt, ni_eq, in_le, in_lt, in_eq, ni_add, in_add, ni_sub, in_sub, ni_mul, in_mul, iI_add, iI_sub, iI_mul, i_p1, iI_neg, n_neg, e1, e2, h1, lg_self]
theorem lw_cell (d : Nat) (z : mm_Z) (F : Nat → Nat → Value) (I : Nat → Nat → Int32) (L : Nat → Nat → Int64) (i : Nat) (h : lwS z i) (g : gI F I L) : lwG d z F I L i 490 := by
  obtain ⟨hz, hS, b1, b2⟩ := id h
  have v0 := lwV h (j := 0) (by omega)
  have v1 := lwV h (j := 1) (by omega)
  have v2 := lwV h (j := 2) (by omega)
  have v3 := lwV h (j := 3) (by omega)
  have v4 := lwV h (j := 4) (by omega)
  obtain ⟨v, F1, I1, L1, F2, I2, L2, e1, e2, h1, h2, g2⟩ := op_cell d z F I L hz g (I 1 (i + 1))
  refine ⟨F2, I2, L2, ?_, g2⟩
  simp (disch := first | assumption | exact bI_or _ | exact zOK_O hz (by decide) (by decide) rfl | exact zOK_T hz (by decide) (by decide) rfl | (refine ix (zOK_l hz (by decide) (by decide) rfl) ?_; omega) | decide | omega) only [eL_law_490, eL_law_491, eL_law_492, eL_law_493, eL_law_494, eL_law_495, eL_law_496, eL_law_499, eL_law_500, eL_law_501, eL_law_502, eL_law_503, eL_law_504, eL_law_505, eL_law_508, eL_law_511, eL_law_512, Int.cast_ofNat_Int, Nat.reduceLT, Nat.reduceLeDiff, Nat.reduceEqDiff, Nat.reduceAdd, Nat.reduceMul, Int.reduceLE, Int.reduceLT, Int.reduceEq, not_false_iff, nlr, Nat.zero_add, Nat.add_zero, e10f, e01f, eq_self, true_and, and_true, false_and, and_false, and_self, decide_true, decide_false, mm_bd_i, mm_bd_v, if_true, if_false, not_true_eq_false, not_false_eq_true, nI_1, Bool.true_eq_false, Bool.false_eq_true, bI_0, n_le0, n_0lt, n_lt0, n_0le, n_eq0, n_eqm, n_eq1, n_le1, n_1lt, n_1le, n_lt1, nn_le, nI_ltI, nI_eq, nI_clamp, nI_add, pk_mul, i_eq0, i_eqm, i_0le, i_le0, i_0lt, i_lt0, i_mle, i_ltm, ii_le, iI_lt, iI_eq, ni_le, ni_lt, ni_eq, in_le, in_lt, in_eq, ni_add, in_add, ni_sub, in_sub, ni_mul, in_mul, iI_add, iI_sub, iI_mul, i_p1, iI_neg, n_neg, e1, e2, h1, lg_self]
theorem lw_cells (d : Nat) (z : mm_Z) (F : Nat → Nat → Value) (I : Nat → Nat → Int32) (L : Nat → Nat → Int64) (i : Nat) (h : lwS z i) (g : gI F I L) : lwG d z F I L i 513 := by
  obtain ⟨hz, hS, b1, b2⟩ := id h
  have v0 := lwV h (j := 0) (by omega)
  have v1 := lwV h (j := 1) (by omega)
  have v2 := lwV h (j := 2) (by omega)
  have v3 := lwV h (j := 3) (by omega)
  have v4 := lwV h (j := 4) (by omega)
  obtain ⟨v, F1, I1, L1, F2, I2, L2, e1, e2, h1, h2, g2⟩ := op_cells d z F I L hz g (I 1 (i + 1))
  refine ⟨F2, I2, L2, ?_, g2⟩
  simp (disch := first | assumption | exact bI_or _ | exact zOK_O hz (by decide) (by decide) rfl | exact zOK_T hz (by decide) (by decide) rfl | (refine ix (zOK_l hz (by decide) (by decide) rfl) ?_; omega) | decide | omega) only [eL_law_513, eL_law_514, eL_law_515, eL_law_516, eL_law_517, eL_law_518, eL_law_519, eL_law_522, eL_law_523, eL_law_524, eL_law_525, eL_law_526, eL_law_527, eL_law_528, eL_law_531, eL_law_532, eL_law_535, eL_law_536, Int.cast_ofNat_Int, Nat.reduceLT, Nat.reduceLeDiff, Nat.reduceEqDiff, Nat.reduceAdd, Nat.reduceMul, Int.reduceLE, Int.reduceLT, Int.reduceEq, not_false_iff, nlr, Nat.zero_add, Nat.add_zero, e10f, e01f, eq_self, true_and, and_true, false_and, and_false, and_self, decide_true, decide_false, mm_bd_i, mm_bd_v, if_true, if_false, not_true_eq_false, not_false_eq_true, nI_1, Bool.true_eq_false, Bool.false_eq_true, bI_0, n_le0, n_0lt, n_lt0, n_0le, n_eq0, n_eqm, n_eq1, n_le1, n_1lt, n_1le, n_lt1, nn_le, nI_ltI, nI_eq, nI_clamp, nI_add, pk_mul, i_eq0, i_eqm, i_0le, i_le0, i_0lt, i_lt0, i_mle, i_ltm, ii_le, iI_lt, iI_eq, ni_le, ni_lt, ni_eq, in_le, in_lt, in_eq, ni_add, in_add, ni_sub, in_sub, ni_mul, in_mul, iI_add, iI_sub, iI_mul, i_p1, iI_neg, n_neg, e1, e2, h1, lg_self]
theorem lw_lead (d : Nat) (z : mm_Z) (F : Nat → Nat → Value) (I : Nat → Nat → Int32) (L : Nat → Nat → Int64) (i : Nat) (h : lwS z i) (g : gI F I L) : lwG d z F I L i 537 := by
  obtain ⟨hz, hS, b1, b2⟩ := id h
  have v0 := lwV h (j := 0) (by omega)
  have v1 := lwV h (j := 1) (by omega)
  have v2 := lwV h (j := 2) (by omega)
  have v3 := lwV h (j := 3) (by omega)
  have v4 := lwV h (j := 4) (by omega)
  obtain ⟨v, F1, I1, L1, F2, I2, L2, e1, e2, h1, h2, g2⟩ := op_lead d z F I L hz g (I 1 (i + 1)) (I 1 (i + 2))
  refine ⟨F2, I2, L2, ?_, g2⟩
  simp (disch := first | assumption | exact bI_or _ | exact zOK_O hz (by decide) (by decide) rfl | exact zOK_T hz (by decide) (by decide) rfl | (refine ix (zOK_l hz (by decide) (by decide) rfl) ?_; omega) | decide | omega) only [eL_law_537, eL_law_538, eL_law_539, eL_law_540, eL_law_541, eL_law_542, eL_law_543, eL_law_544, eL_law_545, eL_law_546, eL_law_547, eL_law_548, eL_law_551, eL_law_552, eL_law_553, eL_law_554, eL_law_555, eL_law_556, eL_law_557, eL_law_558, eL_law_559, eL_law_560, eL_law_561, eL_law_562, eL_law_565, eL_law_568, eL_law_569, Int.cast_ofNat_Int, Nat.reduceLT, Nat.reduceLeDiff, Nat.reduceEqDiff, Nat.reduceAdd, Nat.reduceMul, Int.reduceLE, Int.reduceLT, Int.reduceEq, not_false_iff, nlr, Nat.zero_add, Nat.add_zero, e10f, e01f, eq_self, true_and, and_true, false_and, and_false, and_self, decide_true, decide_false, mm_bd_i, mm_bd_v, if_true, if_false, not_true_eq_false, not_false_eq_true, nI_1, Bool.true_eq_false, Bool.false_eq_true, bI_0, n_le0, n_0lt, n_lt0, n_0le, n_eq0, n_eqm, n_eq1, n_le1, n_1lt, n_1le, n_lt1, nn_le, nI_ltI, nI_eq, nI_clamp, nI_add, pk_mul, i_eq0, i_eqm, i_0le, i_le0, i_0lt, i_lt0, i_mle, i_ltm, ii_le, iI_lt, iI_eq, ni_le, ni_lt, ni_eq, in_le, in_lt, in_eq, ni_add, in_add, ni_sub, in_sub, ni_mul, in_mul, iI_add, iI_sub, iI_mul, i_p1, iI_neg, n_neg, e1, e2, h1, lg_self]
theorem lw_wall (d : Nat) (z : mm_Z) (F : Nat → Nat → Value) (I : Nat → Nat → Int32) (L : Nat → Nat → Int64) (i : Nat) (h : lwS z i) (g : gI F I L) : lwG d z F I L i 570 := by
  obtain ⟨hz, hS, b1, b2⟩ := id h
  have v0 := lwV h (j := 0) (by omega)
  have v1 := lwV h (j := 1) (by omega)
  have v2 := lwV h (j := 2) (by omega)
  have v3 := lwV h (j := 3) (by omega)
  have v4 := lwV h (j := 4) (by omega)
  obtain ⟨v, F1, I1, L1, F2, I2, L2, e1, e2, h1, h2, g2⟩ := op_wall d z F I L hz g (I 1 (i + 1))
  refine ⟨F2, I2, L2, ?_, g2⟩
  simp (disch := first | assumption | exact bI_or _ | exact zOK_O hz (by decide) (by decide) rfl | exact zOK_T hz (by decide) (by decide) rfl | (refine ix (zOK_l hz (by decide) (by decide) rfl) ?_; omega) | decide | omega) only [eL_law_570, eL_law_571, eL_law_572, eL_law_573, eL_law_574, eL_law_575, eL_law_576, eL_law_579, eL_law_580, eL_law_581, eL_law_582, eL_law_583, eL_law_584, eL_law_585, eL_law_588, eL_law_591, eL_law_592, Int.cast_ofNat_Int, Nat.reduceLT, Nat.reduceLeDiff, Nat.reduceEqDiff, Nat.reduceAdd, Nat.reduceMul, Int.reduceLE, Int.reduceLT, Int.reduceEq, not_false_iff, nlr, Nat.zero_add, Nat.add_zero, e10f, e01f, eq_self, true_and, and_true, false_and, and_false, and_self, decide_true, decide_false, mm_bd_i, mm_bd_v, if_true, if_false, not_true_eq_false, not_false_eq_true, nI_1, Bool.true_eq_false, Bool.false_eq_true, bI_0, n_le0, n_0lt, n_lt0, n_0le, n_eq0, n_eqm, n_eq1, n_le1, n_1lt, n_1le, n_lt1, nn_le, nI_ltI, nI_eq, nI_clamp, nI_add, pk_mul, i_eq0, i_eqm, i_0le, i_le0, i_0lt, i_lt0, i_mle, i_ltm, ii_le, iI_lt, iI_eq, ni_le, ni_lt, ni_eq, in_le, in_lt, in_eq, ni_add, in_add, ni_sub, in_sub, ni_mul, in_mul, iI_add, iI_sub, iI_mul, i_p1, iI_neg, n_neg, e1, e2, h1, lg_self]
theorem lw_corners (d : Nat) (z : mm_Z) (F : Nat → Nat → Value) (I : Nat → Nat → Int32) (L : Nat → Nat → Int64) (i : Nat) (h : lwS z i) (g : gI F I L) : lwG d z F I L i 593 := by
  obtain ⟨hz, hS, b1, b2⟩ := id h
  have v0 := lwV h (j := 0) (by omega)
  have v1 := lwV h (j := 1) (by omega)
  have v2 := lwV h (j := 2) (by omega)
  have v3 := lwV h (j := 3) (by omega)
  have v4 := lwV h (j := 4) (by omega)
  obtain ⟨v, F1, I1, L1, F2, I2, L2, e1, e2, h1, h2, g2⟩ := op_corners d z F I L hz g 
  refine ⟨F2, I2, L2, ?_, g2⟩
  simp (disch := first | assumption | exact bI_or _ | exact zOK_O hz (by decide) (by decide) rfl | exact zOK_T hz (by decide) (by decide) rfl | (refine ix (zOK_l hz (by decide) (by decide) rfl) ?_; omega) | decide | omega) only [eL_law_593, eL_law_594, eL_law_597, eL_law_598, eL_law_601, eL_law_602, eL_law_605, eL_law_606, Int.cast_ofNat_Int, Nat.reduceLT, Nat.reduceLeDiff, Nat.reduceEqDiff, Nat.reduceAdd, Nat.reduceMul, Int.reduceLE, Int.reduceLT, Int.reduceEq, not_false_iff, nlr, Nat.zero_add, Nat.add_zero, e10f, e01f, eq_self, true_and, and_true, false_and, and_false, and_self, decide_true, decide_false, mm_bd_i, mm_bd_v, if_true, if_false, not_true_eq_false, not_false_eq_true, nI_1, Bool.true_eq_false, Bool.false_eq_true, bI_0, n_le0, n_0lt, n_lt0, n_0le, n_eq0, n_eqm, n_eq1, n_le1, n_1lt, n_1le, n_lt1, nn_le, nI_ltI, nI_eq, nI_clamp, nI_add, pk_mul, i_eq0, i_eqm, i_0le, i_le0, i_0lt, i_lt0, i_mle, i_ltm, ii_le, iI_lt, iI_eq, ni_le, ni_lt, ni_eq, in_le, in_lt, in_eq, ni_add, in_add, ni_sub, in_sub, ni_mul, in_mul, iI_add, iI_sub, iI_mul, i_p1, iI_neg, n_neg, e1, e2, h1, lg_self]
theorem lw_doors (d : Nat) (z : mm_Z) (F : Nat → Nat → Value) (I : Nat → Nat → Int32) (L : Nat → Nat → Int64) (i : Nat) (h : lwS z i) (g : gI F I L) : lwG d z F I L i 607 := by
  obtain ⟨hz, hS, b1, b2⟩ := id h
  have v0 := lwV h (j := 0) (by omega)
  have v1 := lwV h (j := 1) (by omega)
  have v2 := lwV h (j := 2) (by omega)
  have v3 := lwV h (j := 3) (by omega)
  have v4 := lwV h (j := 4) (by omega)
  obtain ⟨v, F1, I1, L1, F2, I2, L2, e1, e2, h1, h2, g2⟩ := op_doors d z F I L hz g 
  refine ⟨F2, I2, L2, ?_, g2⟩
  simp (disch := first | assumption | exact bI_or _ | exact zOK_O hz (by decide) (by decide) rfl | exact zOK_T hz (by decide) (by decide) rfl | (refine ix (zOK_l hz (by decide) (by decide) rfl) ?_; omega) | decide | omega) only [eL_law_607, eL_law_608, eL_law_611, eL_law_612, eL_law_615, eL_law_616, eL_law_619, eL_law_620, Int.cast_ofNat_Int, Nat.reduceLT, Nat.reduceLeDiff, Nat.reduceEqDiff, Nat.reduceAdd, Nat.reduceMul, Int.reduceLE, Int.reduceLT, Int.reduceEq, not_false_iff, nlr, Nat.zero_add, Nat.add_zero, e10f, e01f, eq_self, true_and, and_true, false_and, and_false, and_self, decide_true, decide_false, mm_bd_i, mm_bd_v, if_true, if_false, not_true_eq_false, not_false_eq_true, nI_1, Bool.true_eq_false, Bool.false_eq_true, bI_0, n_le0, n_0lt, n_lt0, n_0le, n_eq0, n_eqm, n_eq1, n_le1, n_1lt, n_1le, n_lt1, nn_le, nI_ltI, nI_eq, nI_clamp, nI_add, pk_mul, i_eq0, i_eqm, i_0le, i_le0, i_0lt, i_lt0, i_mle, i_ltm, ii_le, iI_lt, iI_eq, ni_le, ni_lt, ni_eq, in_le, in_lt, in_eq, ni_add, in_add, ni_sub, in_sub, ni_mul, in_mul, iI_add, iI_sub, iI_mul, i_p1, iI_neg, n_neg, e1, e2, h1, lg_self]
theorem lw_room (d : Nat) (z : mm_Z) (F : Nat → Nat → Value) (I : Nat → Nat → Int32) (L : Nat → Nat → Int64) (i : Nat) (h : lwS z i) (g : gI F I L) : lwG d z F I L i 621 := by
  obtain ⟨hz, hS, b1, b2⟩ := id h
  have v0 := lwV h (j := 0) (by omega)
  have v1 := lwV h (j := 1) (by omega)
  have v2 := lwV h (j := 2) (by omega)
  have v3 := lwV h (j := 3) (by omega)
  have v4 := lwV h (j := 4) (by omega)
  obtain ⟨v, F1, I1, L1, F2, I2, L2, e1, e2, h1, h2, g2⟩ := op_room d z F I L hz g (I 1 (i + 1))
  refine ⟨F2, I2, L2, ?_, g2⟩
  simp (disch := first | assumption | exact bI_or _ | exact zOK_O hz (by decide) (by decide) rfl | exact zOK_T hz (by decide) (by decide) rfl | (refine ix (zOK_l hz (by decide) (by decide) rfl) ?_; omega) | decide | omega) only [eL_law_621, eL_law_622, eL_law_623, eL_law_624, eL_law_625, eL_law_626, eL_law_627, eL_law_630, eL_law_631, eL_law_632, eL_law_633, eL_law_634, eL_law_635, eL_law_636, eL_law_639, eL_law_642, eL_law_643, Int.cast_ofNat_Int, Nat.reduceLT, Nat.reduceLeDiff, Nat.reduceEqDiff, Nat.reduceAdd, Nat.reduceMul, Int.reduceLE, Int.reduceLT, Int.reduceEq, not_false_iff, nlr, Nat.zero_add, Nat.add_zero, e10f, e01f, eq_self, true_and, and_true, false_and, and_false, and_self, decide_true, decide_false, mm_bd_i, mm_bd_v, if_true, if_false, not_true_eq_false, not_false_eq_true, nI_1, Bool.true_eq_false, Bool.false_eq_true, bI_0, n_le0, n_0lt, n_lt0, n_0le, n_eq0, n_eqm, n_eq1, n_le1, n_1lt, n_1le, n_lt1, nn_le, nI_ltI, nI_eq, nI_clamp, nI_add, pk_mul, i_eq0, i_eqm, i_0le, i_le0, i_0lt, i_lt0, i_mle, i_ltm, ii_le, iI_lt, iI_eq, ni_le, ni_lt, ni_eq, in_le, in_lt, in_eq, ni_add, in_add, ni_sub, in_sub, ni_mul, in_mul, iI_add, iI_sub, iI_mul, i_p1, iI_neg, n_neg, e1, e2, h1, lg_self]
theorem lw_rooms (d : Nat) (z : mm_Z) (F : Nat → Nat → Value) (I : Nat → Nat → Int32) (L : Nat → Nat → Int64) (i : Nat) (h : lwS z i) (g : gI F I L) : lwG d z F I L i 644 := by
  obtain ⟨hz, hS, b1, b2⟩ := id h
  have v0 := lwV h (j := 0) (by omega)
  have v1 := lwV h (j := 1) (by omega)
  have v2 := lwV h (j := 2) (by omega)
  have v3 := lwV h (j := 3) (by omega)
  have v4 := lwV h (j := 4) (by omega)
  obtain ⟨v, F1, I1, L1, F2, I2, L2, e1, e2, h1, h2, g2⟩ := op_rooms d z F I L hz g (I 1 (i + 1))
  refine ⟨F2, I2, L2, ?_, g2⟩
  simp (disch := first | assumption | exact bI_or _ | exact zOK_O hz (by decide) (by decide) rfl | exact zOK_T hz (by decide) (by decide) rfl | (refine ix (zOK_l hz (by decide) (by decide) rfl) ?_; omega) | decide | omega) only [eL_law_644, eL_law_645, eL_law_646, eL_law_647, eL_law_648, eL_law_649, eL_law_650, eL_law_653, eL_law_654, eL_law_655, eL_law_656, eL_law_657, eL_law_658, eL_law_659, eL_law_662, eL_law_663, eL_law_666, eL_law_667, Int.cast_ofNat_Int, Nat.reduceLT, Nat.reduceLeDiff, Nat.reduceEqDiff, Nat.reduceAdd, Nat.reduceMul, Int.reduceLE, Int.reduceLT, Int.reduceEq, not_false_iff, nlr, Nat.zero_add, Nat.add_zero, e10f, e01f, eq_self, true_and, and_true, false_and, and_false, and_self, decide_true, decide_false, mm_bd_i, mm_bd_v, if_true, if_false, not_true_eq_false, not_false_eq_true, nI_1, Bool.true_eq_false, Bool.false_eq_true, bI_0, n_le0, n_0lt, n_lt0, n_0le, n_eq0, n_eqm, n_eq1, n_le1, n_1lt, n_1le, n_lt1, nn_le, nI_ltI, nI_eq, nI_clamp, nI_add, pk_mul, i_eq0, i_eqm, i_0le, i_le0, i_0lt, i_lt0, i_mle, i_ltm, ii_le, iI_lt, iI_eq, ni_le, ni_lt, ni_eq, in_le, in_lt, in_eq, ni_add, in_add, ni_sub, in_sub, ni_mul, in_mul, iI_add, iI_sub, iI_mul, i_p1, iI_neg, n_neg, e1, e2, h1, lg_self]
theorem lw_away (d : Nat) (z : mm_Z) (F : Nat → Nat → Value) (I : Nat → Nat → Int32) (L : Nat → Nat → Int64) (i : Nat) (h : lwS z i) (g : gI F I L) : lwG d z F I L i 668 := by
  obtain ⟨hz, hS, b1, b2⟩ := id h
  have v0 := lwV h (j := 0) (by omega)
  have v1 := lwV h (j := 1) (by omega)
  have v2 := lwV h (j := 2) (by omega)
  have v3 := lwV h (j := 3) (by omega)
  have v4 := lwV h (j := 4) (by omega)
  obtain ⟨v, F1, I1, L1, F2, I2, L2, e1, e2, h1, h2, g2⟩ := op_away d z F I L hz g (I 1 (i + 1)) (I 1 (i + 2))
  refine ⟨F2, I2, L2, ?_, g2⟩
  simp (disch := first | assumption | exact bI_or _ | exact zOK_O hz (by decide) (by decide) rfl | exact zOK_T hz (by decide) (by decide) rfl | (refine ix (zOK_l hz (by decide) (by decide) rfl) ?_; omega) | decide | omega) only [eL_law_668, eL_law_669, eL_law_670, eL_law_671, eL_law_672, eL_law_673, eL_law_674, eL_law_675, eL_law_676, eL_law_677, eL_law_678, eL_law_679, eL_law_682, eL_law_683, eL_law_684, eL_law_685, eL_law_686, eL_law_687, eL_law_688, eL_law_689, eL_law_690, eL_law_691, eL_law_692, eL_law_693, eL_law_696, eL_law_699, eL_law_700, Int.cast_ofNat_Int, Nat.reduceLT, Nat.reduceLeDiff, Nat.reduceEqDiff, Nat.reduceAdd, Nat.reduceMul, Int.reduceLE, Int.reduceLT, Int.reduceEq, not_false_iff, nlr, Nat.zero_add, Nat.add_zero, e10f, e01f, eq_self, true_and, and_true, false_and, and_false, and_self, decide_true, decide_false, mm_bd_i, mm_bd_v, if_true, if_false, not_true_eq_false, not_false_eq_true, nI_1, Bool.true_eq_false, Bool.false_eq_true, bI_0, n_le0, n_0lt, n_lt0, n_0le, n_eq0, n_eqm, n_eq1, n_le1, n_1lt, n_1le, n_lt1, nn_le, nI_ltI, nI_eq, nI_clamp, nI_add, pk_mul, i_eq0, i_eqm, i_0le, i_le0, i_0lt, i_lt0, i_mle, i_ltm, ii_le, iI_lt, iI_eq, ni_le, ni_lt, ni_eq, in_le, in_lt, in_eq, ni_add, in_add, ni_sub, in_sub, ni_mul, in_mul, iI_add, iI_sub, iI_mul, i_p1, iI_neg, n_neg, e1, e2, h1, lg_self]
theorem lw_write (d : Nat) (z : mm_Z) (F : Nat → Nat → Value) (I : Nat → Nat → Int32) (L : Nat → Nat → Int64) (i : Nat) (h : lwS z i) (g : gI F I L) : lwG d z F I L i 701 := by
  obtain ⟨hz, hS, b1, b2⟩ := id h
  have v0 := lwV h (j := 0) (by omega)
  have v1 := lwV h (j := 1) (by omega)
  have v2 := lwV h (j := 2) (by omega)
  have v3 := lwV h (j := 3) (by omega)
  have v4 := lwV h (j := 4) (by omega)
  obtain ⟨v, F1, I1, L1, F2, I2, L2, e1, e2, h1, h2, g2⟩ := op_write d z F I L hz g ((I 1 (i + 1)).toInt64 <<< ((nI 32).toInt64 &&& 63) ||| (I 1 (i + 2)).toInt64 &&& 4294967295) (I 1 (i + 3))
  refine ⟨F2, I2, L2, ?_, g2⟩
  simp (disch := first | assumption | exact bI_or _ | exact zOK_O hz (by decide) (by decide) rfl | exact zOK_T hz (by decide) (by decide) rfl | (refine ix (zOK_l hz (by decide) (by decide) rfl) ?_; omega) | decide | omega) only [eL_law_701, eL_law_702, eL_law_703, eL_law_704, eL_law_705, eL_law_706, eL_law_707, eL_law_708, eL_law_710, eL_law_711, eL_law_712, eL_law_713, eL_law_714, eL_law_715, eL_law_716, eL_law_717, eL_law_720, eL_law_721, eL_law_722, eL_law_723, eL_law_724, eL_law_725, eL_law_726, eL_law_727, eL_law_730, eL_law_731, eL_law_732, eL_law_733, eL_law_734, eL_law_735, eL_law_736, eL_law_737, eL_law_739, eL_law_740, eL_law_741, eL_law_742, eL_law_743, eL_law_744, eL_law_745, eL_law_746, eL_law_749, eL_law_750, eL_law_751, eL_law_752, eL_law_753, eL_law_754, eL_law_755, eL_law_756, eL_law_759, eL_law_762, eL_law_763, Int.cast_ofNat_Int, Nat.reduceLT, Nat.reduceLeDiff, Nat.reduceEqDiff, Nat.reduceAdd, Nat.reduceMul, Int.reduceLE, Int.reduceLT, Int.reduceEq, not_false_iff, nlr, Nat.zero_add, Nat.add_zero, e10f, e01f, eq_self, true_and, and_true, false_and, and_false, and_self, decide_true, decide_false, mm_bd_i, mm_bd_v, if_true, if_false, not_true_eq_false, not_false_eq_true, nI_1, Bool.true_eq_false, Bool.false_eq_true, bI_0, n_le0, n_0lt, n_lt0, n_0le, n_eq0, n_eqm, n_eq1, n_le1, n_1lt, n_1le, n_lt1, nn_le, nI_ltI, nI_eq, nI_clamp, nI_add, pk_mul, i_eq0, i_eqm, i_0le, i_le0, i_0lt, i_lt0, i_mle, i_ltm, ii_le, iI_lt, iI_eq, ni_le, ni_lt, ni_eq, in_le, in_lt, in_eq, ni_add, in_add, ni_sub, in_sub, ni_mul, in_mul, iI_add, iI_sub, iI_mul, i_p1, iI_neg, n_neg, e1, e2, h1, lg_self]
theorem lw_erase (d : Nat) (z : mm_Z) (F : Nat → Nat → Value) (I : Nat → Nat → Int32) (L : Nat → Nat → Int64) (i : Nat) (h : lwS z i) (g : gI F I L) : lwG d z F I L i 764 := by
  obtain ⟨hz, hS, b1, b2⟩ := id h
  have v0 := lwV h (j := 0) (by omega)
  have v1 := lwV h (j := 1) (by omega)
  have v2 := lwV h (j := 2) (by omega)
  have v3 := lwV h (j := 3) (by omega)
  have v4 := lwV h (j := 4) (by omega)
  obtain ⟨v, F1, I1, L1, F2, I2, L2, e1, e2, h1, h2, g2⟩ := op_erase d z F I L hz g 
  refine ⟨F2, I2, L2, ?_, g2⟩
  simp (disch := first | assumption | exact bI_or _ | exact zOK_O hz (by decide) (by decide) rfl | exact zOK_T hz (by decide) (by decide) rfl | (refine ix (zOK_l hz (by decide) (by decide) rfl) ?_; omega) | decide | omega) only [eL_law_764, eL_law_765, eL_law_768, eL_law_769, eL_law_772, eL_law_775, eL_law_776, Int.cast_ofNat_Int, Nat.reduceLT, Nat.reduceLeDiff, Nat.reduceEqDiff, Nat.reduceAdd, Nat.reduceMul, Int.reduceLE, Int.reduceLT, Int.reduceEq, not_false_iff, nlr, Nat.zero_add, Nat.add_zero, e10f, e01f, eq_self, true_and, and_true, false_and, and_false, and_self, decide_true, decide_false, mm_bd_i, mm_bd_v, if_true, if_false, not_true_eq_false, not_false_eq_true, nI_1, Bool.true_eq_false, Bool.false_eq_true, bI_0, n_le0, n_0lt, n_lt0, n_0le, n_eq0, n_eqm, n_eq1, n_le1, n_1lt, n_1le, n_lt1, nn_le, nI_ltI, nI_eq, nI_clamp, nI_add, pk_mul, i_eq0, i_eqm, i_0le, i_le0, i_0lt, i_lt0, i_mle, i_ltm, ii_le, iI_lt, iI_eq, ni_le, ni_lt, ni_eq, in_le, in_lt, in_eq, ni_add, in_add, ni_sub, in_sub, ni_mul, in_mul, iI_add, iI_sub, iI_mul, i_p1, iI_neg, n_neg, e1, e2, h1, lg_self]
theorem lw_fault (d : Nat) (z : mm_Z) (F : Nat → Nat → Value) (I : Nat → Nat → Int32) (L : Nat → Nat → Int64) (i : Nat) (h : lwS z i) (g : gI F I L) : lwG d z F I L i 777 := by
  obtain ⟨hz, hS, b1, b2⟩ := id h
  have v0 := lwV h (j := 0) (by omega)
  have v1 := lwV h (j := 1) (by omega)
  have v2 := lwV h (j := 2) (by omega)
  have v3 := lwV h (j := 3) (by omega)
  have v4 := lwV h (j := 4) (by omega)
  obtain ⟨v, F1, I1, L1, F2, I2, L2, e1, e2, h1, h2, g2⟩ := op_fault d z F I L hz g 
  refine ⟨F2, I2, L2, ?_, g2⟩
  simp (disch := first | assumption | exact bI_or _ | exact zOK_O hz (by decide) (by decide) rfl | exact zOK_T hz (by decide) (by decide) rfl | (refine ix (zOK_l hz (by decide) (by decide) rfl) ?_; omega) | decide | omega) only [eL_law_777, eL_law_778, eL_law_781, eL_law_782, eL_law_785, eL_law_788, eL_law_789, Int.cast_ofNat_Int, Nat.reduceLT, Nat.reduceLeDiff, Nat.reduceEqDiff, Nat.reduceAdd, Nat.reduceMul, Int.reduceLE, Int.reduceLT, Int.reduceEq, not_false_iff, nlr, Nat.zero_add, Nat.add_zero, e10f, e01f, eq_self, true_and, and_true, false_and, and_false, and_self, decide_true, decide_false, mm_bd_i, mm_bd_v, if_true, if_false, not_true_eq_false, not_false_eq_true, nI_1, Bool.true_eq_false, Bool.false_eq_true, bI_0, n_le0, n_0lt, n_lt0, n_0le, n_eq0, n_eqm, n_eq1, n_le1, n_1lt, n_1le, n_lt1, nn_le, nI_ltI, nI_eq, nI_clamp, nI_add, pk_mul, i_eq0, i_eqm, i_0le, i_le0, i_0lt, i_lt0, i_mle, i_ltm, ii_le, iI_lt, iI_eq, ni_le, ni_lt, ni_eq, in_le, in_lt, in_eq, ni_add, in_add, ni_sub, in_sub, ni_mul, in_mul, iI_add, iI_sub, iI_mul, i_p1, iI_neg, n_neg, e1, e2, h1, lg_self]
theorem lw_thing (d : Nat) (z : mm_Z) (F : Nat → Nat → Value) (I : Nat → Nat → Int32) (L : Nat → Nat → Int64) (i : Nat) (h : lwS z i) (g : gI F I L) : lwG d z F I L i 790 := by
  obtain ⟨hz, hS, b1, b2⟩ := id h
  have v0 := lwV h (j := 0) (by omega)
  have v1 := lwV h (j := 1) (by omega)
  have v2 := lwV h (j := 2) (by omega)
  have v3 := lwV h (j := 3) (by omega)
  have v4 := lwV h (j := 4) (by omega)
  obtain ⟨v, F1, I1, L1, F2, I2, L2, e1, e2, h1, h2, g2⟩ := op_thing d z F I L hz g 
  refine ⟨F2, I2, L2, ?_, g2⟩
  simp (disch := first | assumption | exact bI_or _ | exact zOK_O hz (by decide) (by decide) rfl | exact zOK_T hz (by decide) (by decide) rfl | (refine ix (zOK_l hz (by decide) (by decide) rfl) ?_; omega) | decide | omega) only [eL_law_790, eL_law_791, eL_law_794, eL_law_795, eL_law_798, eL_law_801, eL_law_802, Int.cast_ofNat_Int, Nat.reduceLT, Nat.reduceLeDiff, Nat.reduceEqDiff, Nat.reduceAdd, Nat.reduceMul, Int.reduceLE, Int.reduceLT, Int.reduceEq, not_false_iff, nlr, Nat.zero_add, Nat.add_zero, e10f, e01f, eq_self, true_and, and_true, false_and, and_false, and_self, decide_true, decide_false, mm_bd_i, mm_bd_v, if_true, if_false, not_true_eq_false, not_false_eq_true, nI_1, Bool.true_eq_false, Bool.false_eq_true, bI_0, n_le0, n_0lt, n_lt0, n_0le, n_eq0, n_eqm, n_eq1, n_le1, n_1lt, n_1le, n_lt1, nn_le, nI_ltI, nI_eq, nI_clamp, nI_add, pk_mul, i_eq0, i_eqm, i_0le, i_le0, i_0lt, i_lt0, i_mle, i_ltm, ii_le, iI_lt, iI_eq, ni_le, ni_lt, ni_eq, in_le, in_lt, in_eq, ni_add, in_add, ni_sub, in_sub, ni_mul, in_mul, iI_add, iI_sub, iI_mul, i_p1, iI_neg, n_neg, e1, e2, h1, lg_self]
theorem lw_fit (d : Nat) (z : mm_Z) (F : Nat → Nat → Value) (I : Nat → Nat → Int32) (L : Nat → Nat → Int64) (i : Nat) (h : lwS z i) (g : gI F I L) : lwG d z F I L i 803 := by
  obtain ⟨hz, hS, b1, b2⟩ := id h
  have v0 := lwV h (j := 0) (by omega)
  have v1 := lwV h (j := 1) (by omega)
  have v2 := lwV h (j := 2) (by omega)
  have v3 := lwV h (j := 3) (by omega)
  have v4 := lwV h (j := 4) (by omega)
  obtain ⟨v, F1, I1, L1, F2, I2, L2, e1, e2, h1, h2, g2⟩ := op_fit d z F I L hz g (I 1 (i + 1))
  refine ⟨F2, I2, L2, ?_, g2⟩
  simp (disch := first | assumption | exact bI_or _ | exact zOK_O hz (by decide) (by decide) rfl | exact zOK_T hz (by decide) (by decide) rfl | (refine ix (zOK_l hz (by decide) (by decide) rfl) ?_; omega) | decide | omega) only [eL_law_803, eL_law_804, eL_law_805, eL_law_806, eL_law_807, eL_law_808, eL_law_809, eL_law_812, eL_law_813, eL_law_814, eL_law_815, eL_law_816, eL_law_817, eL_law_818, eL_law_821, eL_law_824, eL_law_825, Int.cast_ofNat_Int, Nat.reduceLT, Nat.reduceLeDiff, Nat.reduceEqDiff, Nat.reduceAdd, Nat.reduceMul, Int.reduceLE, Int.reduceLT, Int.reduceEq, not_false_iff, nlr, Nat.zero_add, Nat.add_zero, e10f, e01f, eq_self, true_and, and_true, false_and, and_false, and_self, decide_true, decide_false, mm_bd_i, mm_bd_v, if_true, if_false, not_true_eq_false, not_false_eq_true, nI_1, Bool.true_eq_false, Bool.false_eq_true, bI_0, n_le0, n_0lt, n_lt0, n_0le, n_eq0, n_eqm, n_eq1, n_le1, n_1lt, n_1le, n_lt1, nn_le, nI_ltI, nI_eq, nI_clamp, nI_add, pk_mul, i_eq0, i_eqm, i_0le, i_le0, i_0lt, i_lt0, i_mle, i_ltm, ii_le, iI_lt, iI_eq, ni_le, ni_lt, ni_eq, in_le, in_lt, in_eq, ni_add, in_add, ni_sub, in_sub, ni_mul, in_mul, iI_add, iI_sub, iI_mul, i_p1, iI_neg, n_neg, e1, e2, h1, lg_self]
theorem lw_keep (d : Nat) (z : mm_Z) (F : Nat → Nat → Value) (I : Nat → Nat → Int32) (L : Nat → Nat → Int64) (i : Nat) (h : lwS z i) (g : gI F I L) : lwG d z F I L i 826 := by
  obtain ⟨hz, hS, b1, b2⟩ := id h
  have v0 := lwV h (j := 0) (by omega)
  have v1 := lwV h (j := 1) (by omega)
  have v2 := lwV h (j := 2) (by omega)
  have v3 := lwV h (j := 3) (by omega)
  have v4 := lwV h (j := 4) (by omega)
  obtain ⟨v, F1, I1, L1, F2, I2, L2, e1, e2, h1, h2, g2⟩ := op_keep d z F I L hz g (I 1 (i + 1))
  refine ⟨F2, I2, L2, ?_, g2⟩
  simp (disch := first | assumption | exact bI_or _ | exact zOK_O hz (by decide) (by decide) rfl | exact zOK_T hz (by decide) (by decide) rfl | (refine ix (zOK_l hz (by decide) (by decide) rfl) ?_; omega) | decide | omega) only [eL_law_826, eL_law_827, eL_law_828, eL_law_829, eL_law_830, eL_law_831, eL_law_832, eL_law_835, eL_law_836, eL_law_837, eL_law_838, eL_law_839, eL_law_840, eL_law_841, eL_law_844, eL_law_847, eL_law_848, Int.cast_ofNat_Int, Nat.reduceLT, Nat.reduceLeDiff, Nat.reduceEqDiff, Nat.reduceAdd, Nat.reduceMul, Int.reduceLE, Int.reduceLT, Int.reduceEq, not_false_iff, nlr, Nat.zero_add, Nat.add_zero, e10f, e01f, eq_self, true_and, and_true, false_and, and_false, and_self, decide_true, decide_false, mm_bd_i, mm_bd_v, if_true, if_false, not_true_eq_false, not_false_eq_true, nI_1, Bool.true_eq_false, Bool.false_eq_true, bI_0, n_le0, n_0lt, n_lt0, n_0le, n_eq0, n_eqm, n_eq1, n_le1, n_1lt, n_1le, n_lt1, nn_le, nI_ltI, nI_eq, nI_clamp, nI_add, pk_mul, i_eq0, i_eqm, i_0le, i_le0, i_0lt, i_lt0, i_mle, i_ltm, ii_le, iI_lt, iI_eq, ni_le, ni_lt, ni_eq, in_le, in_lt, in_eq, ni_add, in_add, ni_sub, in_sub, ni_mul, in_mul, iI_add, iI_sub, iI_mul, i_p1, iI_neg, n_neg, e1, e2, h1, lg_self]
theorem lw_since (d : Nat) (z : mm_Z) (F : Nat → Nat → Value) (I : Nat → Nat → Int32) (L : Nat → Nat → Int64) (i : Nat) (h : lwS z i) (g : gI F I L) : lwG d z F I L i 849 := by
  obtain ⟨hz, hS, b1, b2⟩ := id h
  have v0 := lwV h (j := 0) (by omega)
  have v1 := lwV h (j := 1) (by omega)
  have v2 := lwV h (j := 2) (by omega)
  have v3 := lwV h (j := 3) (by omega)
  have v4 := lwV h (j := 4) (by omega)
  obtain ⟨v, F1, I1, L1, F2, I2, L2, e1, e2, h1, h2, g2⟩ := op_since d z F I L hz g (I 1 (i + 1)) (I 1 (i + 2)) (I 1 (i + 3))
  refine ⟨F2, I2, L2, ?_, g2⟩
  simp (disch := first | assumption | exact bI_or _ | exact zOK_O hz (by decide) (by decide) rfl | exact zOK_T hz (by decide) (by decide) rfl | (refine ix (zOK_l hz (by decide) (by decide) rfl) ?_; omega) | decide | omega) only [eL_law_849, eL_law_850, eL_law_851, eL_law_852, eL_law_853, eL_law_854, eL_law_855, eL_law_856, eL_law_857, eL_law_858, eL_law_859, eL_law_860, eL_law_861, eL_law_862, eL_law_863, eL_law_864, eL_law_865, eL_law_868, eL_law_869, eL_law_870, eL_law_871, eL_law_872, eL_law_873, eL_law_874, eL_law_875, eL_law_876, eL_law_877, eL_law_878, eL_law_879, eL_law_880, eL_law_881, eL_law_882, eL_law_883, eL_law_884, eL_law_887, eL_law_888, eL_law_891, eL_law_892, Int.cast_ofNat_Int, Nat.reduceLT, Nat.reduceLeDiff, Nat.reduceEqDiff, Nat.reduceAdd, Nat.reduceMul, Int.reduceLE, Int.reduceLT, Int.reduceEq, not_false_iff, nlr, Nat.zero_add, Nat.add_zero, e10f, e01f, eq_self, true_and, and_true, false_and, and_false, and_self, decide_true, decide_false, mm_bd_i, mm_bd_v, if_true, if_false, not_true_eq_false, not_false_eq_true, nI_1, Bool.true_eq_false, Bool.false_eq_true, bI_0, n_le0, n_0lt, n_lt0, n_0le, n_eq0, n_eqm, n_eq1, n_le1, n_1lt, n_1le, n_lt1, nn_le, nI_ltI, nI_eq, nI_clamp, nI_add, pk_mul, i_eq0, i_eqm, i_0le, i_le0, i_0lt, i_lt0, i_mle, i_ltm, ii_le, iI_lt, iI_eq, ni_le, ni_lt, ni_eq, in_le, in_lt, in_eq, ni_add, in_add, ni_sub, in_sub, ni_mul, in_mul, iI_add, iI_sub, iI_mul, i_p1, iI_neg, n_neg, e1, e2, h1, lg_self]
theorem lw_moved (d : Nat) (z : mm_Z) (F : Nat → Nat → Value) (I : Nat → Nat → Int32) (L : Nat → Nat → Int64) (i : Nat) (h : lwS z i) (g : gI F I L) : lwG d z F I L i 893 := by
  obtain ⟨hz, hS, b1, b2⟩ := id h
  have v0 := lwV h (j := 0) (by omega)
  have v1 := lwV h (j := 1) (by omega)
  have v2 := lwV h (j := 2) (by omega)
  have v3 := lwV h (j := 3) (by omega)
  have v4 := lwV h (j := 4) (by omega)
  obtain ⟨v, F1, I1, L1, F2, I2, L2, e1, e2, h1, h2, g2⟩ := op_moved d z F I L hz g (I 1 (i + 1)) (I 1 (i + 2)) (I 1 (i + 3))
  refine ⟨F2, I2, L2, ?_, g2⟩
  simp (disch := first | assumption | exact bI_or _ | exact zOK_O hz (by decide) (by decide) rfl | exact zOK_T hz (by decide) (by decide) rfl | (refine ix (zOK_l hz (by decide) (by decide) rfl) ?_; omega) | decide | omega) only [eL_law_893, eL_law_894, eL_law_895, eL_law_896, eL_law_897, eL_law_898, eL_law_899, eL_law_900, eL_law_901, eL_law_902, eL_law_903, eL_law_904, eL_law_905, eL_law_906, eL_law_907, eL_law_908, eL_law_909, eL_law_912, eL_law_913, eL_law_914, eL_law_915, eL_law_916, eL_law_917, eL_law_918, eL_law_919, eL_law_920, eL_law_921, eL_law_922, eL_law_923, eL_law_924, eL_law_925, eL_law_926, eL_law_927, eL_law_928, eL_law_931, eL_law_934, eL_law_935, Int.cast_ofNat_Int, Nat.reduceLT, Nat.reduceLeDiff, Nat.reduceEqDiff, Nat.reduceAdd, Nat.reduceMul, Int.reduceLE, Int.reduceLT, Int.reduceEq, not_false_iff, nlr, Nat.zero_add, Nat.add_zero, e10f, e01f, eq_self, true_and, and_true, false_and, and_false, and_self, decide_true, decide_false, mm_bd_i, mm_bd_v, if_true, if_false, not_true_eq_false, not_false_eq_true, nI_1, Bool.true_eq_false, Bool.false_eq_true, bI_0, n_le0, n_0lt, n_lt0, n_0le, n_eq0, n_eqm, n_eq1, n_le1, n_1lt, n_1le, n_lt1, nn_le, nI_ltI, nI_eq, nI_clamp, nI_add, pk_mul, i_eq0, i_eqm, i_0le, i_le0, i_0lt, i_lt0, i_mle, i_ltm, ii_le, iI_lt, iI_eq, ni_le, ni_lt, ni_eq, in_le, in_lt, in_eq, ni_add, in_add, ni_sub, in_sub, ni_mul, in_mul, iI_add, iI_sub, iI_mul, i_p1, iI_neg, n_neg, e1, e2, h1, lg_self]
theorem lw_see (d : Nat) (z : mm_Z) (F : Nat → Nat → Value) (I : Nat → Nat → Int32) (L : Nat → Nat → Int64) (i : Nat) (h : lwS z i) (g : gI F I L) : lwG d z F I L i 936 := by
  obtain ⟨hz, hS, b1, b2⟩ := id h
  have v0 := lwV h (j := 0) (by omega)
  have v1 := lwV h (j := 1) (by omega)
  have v2 := lwV h (j := 2) (by omega)
  have v3 := lwV h (j := 3) (by omega)
  have v4 := lwV h (j := 4) (by omega)
  obtain ⟨v, F1, I1, L1, F2, I2, L2, e1, e2, h1, h2, g2⟩ := op_see d z F I L hz g (I 1 (i + 1)) (I 1 (i + 2))
  refine ⟨F2, I2, L2, ?_, g2⟩
  simp (disch := first | assumption | exact bI_or _ | exact zOK_O hz (by decide) (by decide) rfl | exact zOK_T hz (by decide) (by decide) rfl | (refine ix (zOK_l hz (by decide) (by decide) rfl) ?_; omega) | decide | omega) only [eL_law_936, eL_law_937, eL_law_938, eL_law_939, eL_law_940, eL_law_941, eL_law_942, eL_law_943, eL_law_944, eL_law_945, eL_law_946, eL_law_947, eL_law_950, eL_law_951, eL_law_952, eL_law_953, eL_law_954, eL_law_955, eL_law_956, eL_law_957, eL_law_958, eL_law_959, eL_law_960, eL_law_961, eL_law_964, eL_law_967, eL_law_968, Int.cast_ofNat_Int, Nat.reduceLT, Nat.reduceLeDiff, Nat.reduceEqDiff, Nat.reduceAdd, Nat.reduceMul, Int.reduceLE, Int.reduceLT, Int.reduceEq, not_false_iff, nlr, Nat.zero_add, Nat.add_zero, e10f, e01f, eq_self, true_and, and_true, false_and, and_false, and_self, decide_true, decide_false, mm_bd_i, mm_bd_v, if_true, if_false, not_true_eq_false, not_false_eq_true, nI_1, Bool.true_eq_false, Bool.false_eq_true, bI_0, n_le0, n_0lt, n_lt0, n_0le, n_eq0, n_eqm, n_eq1, n_le1, n_1lt, n_1le, n_lt1, nn_le, nI_ltI, nI_eq, nI_clamp, nI_add, pk_mul, i_eq0, i_eqm, i_0le, i_le0, i_0lt, i_lt0, i_mle, i_ltm, ii_le, iI_lt, iI_eq, ni_le, ni_lt, ni_eq, in_le, in_lt, in_eq, ni_add, in_add, ni_sub, in_sub, ni_mul, in_mul, iI_add, iI_sub, iI_mul, i_p1, iI_neg, n_neg, e1, e2, h1, lg_self]
theorem lw_next (d : Nat) (z : mm_Z) (F : Nat → Nat → Value) (I : Nat → Nat → Int32) (L : Nat → Nat → Int64) (i : Nat) (h : lwS z i) (g : gI F I L) : lwG d z F I L i 969 := by
  obtain ⟨hz, hS, b1, b2⟩ := id h
  have v0 := lwV h (j := 0) (by omega)
  have v1 := lwV h (j := 1) (by omega)
  have v2 := lwV h (j := 2) (by omega)
  have v3 := lwV h (j := 3) (by omega)
  have v4 := lwV h (j := 4) (by omega)
  obtain ⟨v, F1, I1, L1, F2, I2, L2, e1, e2, h1, h2, g2⟩ := op_next d z F I L hz g ((I 1 (i + 1)).toInt64 <<< ((nI 32).toInt64 &&& 63) ||| (I 1 (i + 2)).toInt64 &&& 4294967295) ((I 1 (i + 3)).toInt64 <<< ((nI 32).toInt64 &&& 63) ||| (I 1 (i + 4)).toInt64 &&& 4294967295)
  refine ⟨F2, I2, L2, ?_, g2⟩
  simp (disch := first | assumption | exact bI_or _ | exact zOK_O hz (by decide) (by decide) rfl | exact zOK_T hz (by decide) (by decide) rfl | (refine ix (zOK_l hz (by decide) (by decide) rfl) ?_; omega) | decide | omega) only [eL_law_969, eL_law_970, eL_law_971, eL_law_972, eL_law_973, eL_law_974, eL_law_975, eL_law_976, eL_law_978, eL_law_979, eL_law_980, eL_law_981, eL_law_982, eL_law_983, eL_law_984, eL_law_985, eL_law_988, eL_law_989, eL_law_990, eL_law_991, eL_law_992, eL_law_993, eL_law_994, eL_law_995, eL_law_996, eL_law_998, eL_law_999, eL_law_1000, eL_law_1001, eL_law_1002, eL_law_1003, eL_law_1004, eL_law_1005, eL_law_1008, eL_law_1009, eL_law_1010, eL_law_1013, eL_law_1014, eL_law_1015, eL_law_1016, eL_law_1017, eL_law_1018, eL_law_1019, eL_law_1020, eL_law_1022, eL_law_1023, eL_law_1024, eL_law_1025, eL_law_1026, eL_law_1027, eL_law_1028, eL_law_1029, eL_law_1032, eL_law_1033, eL_law_1034, eL_law_1035, eL_law_1036, eL_law_1037, eL_law_1038, eL_law_1039, eL_law_1040, eL_law_1042, eL_law_1043, eL_law_1044, eL_law_1045, eL_law_1046, eL_law_1047, eL_law_1048, eL_law_1049, eL_law_1052, eL_law_1053, eL_law_1054, eL_law_1057, eL_law_1060, eL_law_1061, Int.cast_ofNat_Int, Nat.reduceLT, Nat.reduceLeDiff, Nat.reduceEqDiff, Nat.reduceAdd, Nat.reduceMul, Int.reduceLE, Int.reduceLT, Int.reduceEq, not_false_iff, nlr, Nat.zero_add, Nat.add_zero, e10f, e01f, eq_self, true_and, and_true, false_and, and_false, and_self, decide_true, decide_false, mm_bd_i, mm_bd_v, if_true, if_false, not_true_eq_false, not_false_eq_true, nI_1, Bool.true_eq_false, Bool.false_eq_true, bI_0, n_le0, n_0lt, n_lt0, n_0le, n_eq0, n_eqm, n_eq1, n_le1, n_1lt, n_1le, n_lt1, nn_le, nI_ltI, nI_eq, nI_clamp, nI_add, pk_mul, i_eq0, i_eqm, i_0le, i_le0, i_0lt, i_lt0, i_mle, i_ltm, ii_le, iI_lt, iI_eq, ni_le, ni_lt, ni_eq, in_le, in_lt, in_eq, ni_add, in_add, ni_sub, in_sub, ni_mul, in_mul, iI_add, iI_sub, iI_mul, i_p1, iI_neg, n_neg, e1, e2, h1, lg_self]
theorem lw_join (d : Nat) (z : mm_Z) (F : Nat → Nat → Value) (I : Nat → Nat → Int32) (L : Nat → Nat → Int64) (i : Nat) (h : lwS z i) (g : gI F I L) : lwG d z F I L i 1062 := by
  obtain ⟨hz, hS, b1, b2⟩ := id h
  have v0 := lwV h (j := 0) (by omega)
  have v1 := lwV h (j := 1) (by omega)
  have v2 := lwV h (j := 2) (by omega)
  have v3 := lwV h (j := 3) (by omega)
  have v4 := lwV h (j := 4) (by omega)
  obtain ⟨v, F1, I1, L1, F2, I2, L2, e1, e2, h1, h2, g2⟩ := op_join d z F I L hz g (I 1 (i + 1)) (I 1 (i + 2)) (I 1 (i + 3)) (I 1 (i + 4))
  refine ⟨F2, I2, L2, ?_, g2⟩
  simp (disch := first | assumption | exact bI_or _ | exact zOK_O hz (by decide) (by decide) rfl | exact zOK_T hz (by decide) (by decide) rfl | (refine ix (zOK_l hz (by decide) (by decide) rfl) ?_; omega) | decide | omega) only [eL_law_1062, eL_law_1063, eL_law_1064, eL_law_1065, eL_law_1066, eL_law_1067, eL_law_1068, eL_law_1069, eL_law_1070, eL_law_1071, eL_law_1072, eL_law_1073, eL_law_1074, eL_law_1075, eL_law_1076, eL_law_1077, eL_law_1078, eL_law_1079, eL_law_1080, eL_law_1081, eL_law_1082, eL_law_1083, eL_law_1086, eL_law_1087, eL_law_1088, eL_law_1089, eL_law_1090, eL_law_1091, eL_law_1092, eL_law_1093, eL_law_1094, eL_law_1095, eL_law_1096, eL_law_1097, eL_law_1098, eL_law_1099, eL_law_1100, eL_law_1101, eL_law_1102, eL_law_1103, eL_law_1104, eL_law_1105, eL_law_1106, eL_law_1107, eL_law_1110, eL_law_1113, eL_law_1114, Int.cast_ofNat_Int, Nat.reduceLT, Nat.reduceLeDiff, Nat.reduceEqDiff, Nat.reduceAdd, Nat.reduceMul, Int.reduceLE, Int.reduceLT, Int.reduceEq, not_false_iff, nlr, Nat.zero_add, Nat.add_zero, e10f, e01f, eq_self, true_and, and_true, false_and, and_false, and_self, decide_true, decide_false, mm_bd_i, mm_bd_v, if_true, if_false, not_true_eq_false, not_false_eq_true, nI_1, Bool.true_eq_false, Bool.false_eq_true, bI_0, n_le0, n_0lt, n_lt0, n_0le, n_eq0, n_eqm, n_eq1, n_le1, n_1lt, n_1le, n_lt1, nn_le, nI_ltI, nI_eq, nI_clamp, nI_add, pk_mul, i_eq0, i_eqm, i_0le, i_le0, i_0lt, i_lt0, i_mle, i_ltm, ii_le, iI_lt, iI_eq, ni_le, ni_lt, ni_eq, in_le, in_lt, in_eq, ni_add, in_add, ni_sub, in_sub, ni_mul, in_mul, iI_add, iI_sub, iI_mul, i_p1, iI_neg, n_neg, e1, e2, h1, lg_self]
theorem lw_agrees (d : Nat) (z : mm_Z) (F : Nat → Nat → Value) (I : Nat → Nat → Int32) (L : Nat → Nat → Int64) (i : Nat) (h : lwS z i) (g : gI F I L) : lwG d z F I L i 1115 := by
  obtain ⟨hz, hS, b1, b2⟩ := id h
  have v0 := lwV h (j := 0) (by omega)
  have v1 := lwV h (j := 1) (by omega)
  have v2 := lwV h (j := 2) (by omega)
  have v3 := lwV h (j := 3) (by omega)
  have v4 := lwV h (j := 4) (by omega)
  obtain ⟨v, F1, I1, L1, F2, I2, L2, e1, e2, h1, h2, g2⟩ := op_agrees d z F I L hz g (I 1 (i + 1))
  refine ⟨F2, I2, L2, ?_, g2⟩
  simp (disch := first | assumption | exact bI_or _ | exact zOK_O hz (by decide) (by decide) rfl | exact zOK_T hz (by decide) (by decide) rfl | (refine ix (zOK_l hz (by decide) (by decide) rfl) ?_; omega) | decide | omega) only [eL_law_1115, eL_law_1116, eL_law_1117, eL_law_1118, eL_law_1119, eL_law_1120, eL_law_1121, eL_law_1124, eL_law_1125, eL_law_1126, eL_law_1127, eL_law_1128, eL_law_1129, eL_law_1130, eL_law_1133, eL_law_1136, eL_law_1137, Int.cast_ofNat_Int, Nat.reduceLT, Nat.reduceLeDiff, Nat.reduceEqDiff, Nat.reduceAdd, Nat.reduceMul, Int.reduceLE, Int.reduceLT, Int.reduceEq, not_false_iff, nlr, Nat.zero_add, Nat.add_zero, e10f, e01f, eq_self, true_and, and_true, false_and, and_false, and_self, decide_true, decide_false, mm_bd_i, mm_bd_v, if_true, if_false, not_true_eq_false, not_false_eq_true, nI_1, Bool.true_eq_false, Bool.false_eq_true, bI_0, n_le0, n_0lt, n_lt0, n_0le, n_eq0, n_eqm, n_eq1, n_le1, n_1lt, n_1le, n_lt1, nn_le, nI_ltI, nI_eq, nI_clamp, nI_add, pk_mul, i_eq0, i_eqm, i_0le, i_le0, i_0lt, i_lt0, i_mle, i_ltm, ii_le, iI_lt, iI_eq, ni_le, ni_lt, ni_eq, in_le, in_lt, in_eq, ni_add, in_add, ni_sub, in_sub, ni_mul, in_mul, iI_add, iI_sub, iI_mul, i_p1, iI_neg, n_neg, e1, e2, h1, lg_self]
theorem lw_kept (d : Nat) (z : mm_Z) (F : Nat → Nat → Value) (I : Nat → Nat → Int32) (L : Nat → Nat → Int64) (i : Nat) (h : lwS z i) (g : gI F I L) : lwG d z F I L i 1138 := by
  obtain ⟨hz, hS, b1, b2⟩ := id h
  have v0 := lwV h (j := 0) (by omega)
  have v1 := lwV h (j := 1) (by omega)
  have v2 := lwV h (j := 2) (by omega)
  have v3 := lwV h (j := 3) (by omega)
  have v4 := lwV h (j := 4) (by omega)
  obtain ⟨v, F1, I1, L1, F2, I2, L2, e1, e2, h1, h2, g2⟩ := op_kept d z F I L hz g 
  refine ⟨F2, I2, L2, ?_, g2⟩
  simp (disch := first | assumption | exact bI_or _ | exact zOK_O hz (by decide) (by decide) rfl | exact zOK_T hz (by decide) (by decide) rfl | (refine ix (zOK_l hz (by decide) (by decide) rfl) ?_; omega) | decide | omega) only [eL_law_1138, eL_law_1139, eL_law_1142, eL_law_1143, eL_law_1146, eL_law_1149, eL_law_1150, Int.cast_ofNat_Int, Nat.reduceLT, Nat.reduceLeDiff, Nat.reduceEqDiff, Nat.reduceAdd, Nat.reduceMul, Int.reduceLE, Int.reduceLT, Int.reduceEq, not_false_iff, nlr, Nat.zero_add, Nat.add_zero, e10f, e01f, eq_self, true_and, and_true, false_and, and_false, and_self, decide_true, decide_false, mm_bd_i, mm_bd_v, if_true, if_false, not_true_eq_false, not_false_eq_true, nI_1, Bool.true_eq_false, Bool.false_eq_true, bI_0, n_le0, n_0lt, n_lt0, n_0le, n_eq0, n_eqm, n_eq1, n_le1, n_1lt, n_1le, n_lt1, nn_le, nI_ltI, nI_eq, nI_clamp, nI_add, pk_mul, i_eq0, i_eqm, i_0le, i_le0, i_0lt, i_lt0, i_mle, i_ltm, ii_le, iI_lt, iI_eq, ni_le, ni_lt, ni_eq, in_le, in_lt, in_eq, ni_add, in_add, ni_sub, in_sub, ni_mul, in_mul, iI_add, iI_sub, iI_mul, i_p1, iI_neg, n_neg, e1, e2, h1, lg_self]
theorem lw_loop (d : Nat) (z : mm_Z) (F : Nat → Nat → Value) (I : Nat → Nat → Int32) (L : Nat → Nat → Int64) (i : Nat) (h : lwS z i) (g : gI F I L) : lwG d z F I L i 1151 := by
  obtain ⟨hz, hS, b1, b2⟩ := id h
  have v0 := lwV h (j := 0) (by omega)
  have v1 := lwV h (j := 1) (by omega)
  have v2 := lwV h (j := 2) (by omega)
  have v3 := lwV h (j := 3) (by omega)
  have v4 := lwV h (j := 4) (by omega)
  by_cases c : I 1 (i + 2) = 0
  · obtain ⟨v, F1, I1, L1, F2, I2, L2, e1, e2, h1, h2, g2⟩ := op_loop d z F I L hz g (I 1 (i + 1)) false
    refine ⟨F2, I2, L2, ?_, g2⟩
    simp only [bI_f, bI_t] at e1 e2
    simp (disch := first | assumption | exact bI_or _ | exact zOK_O hz (by decide) (by decide) rfl | exact zOK_T hz (by decide) (by decide) rfl | (refine ix (zOK_l hz (by decide) (by decide) rfl) ?_; omega) | decide | omega) only [eL_law_1151, eL_law_1152, eL_law_1153, eL_law_1154, eL_law_1155, eL_law_1156, eL_law_1157, eL_law_1158, eL_law_1159, eL_law_1160, eL_law_1161, eL_law_1162, eL_law_1165, eL_law_1166, eL_law_1169, eL_law_1170, eL_law_1173, eL_law_1174, eL_law_1175, eL_law_1176, eL_law_1177, eL_law_1178, eL_law_1179, eL_law_1180, eL_law_1181, eL_law_1182, eL_law_1183, eL_law_1184, eL_law_1187, eL_law_1188, eL_law_1191, eL_law_1192, eL_law_1195, eL_law_1198, eL_law_1199, Int.cast_ofNat_Int, Nat.reduceLT, Nat.reduceLeDiff, Nat.reduceEqDiff, Nat.reduceAdd, Nat.reduceMul, Int.reduceLE, Int.reduceLT, Int.reduceEq, not_false_iff, nlr, Nat.zero_add, Nat.add_zero, e10f, e01f, eq_self, true_and, and_true, false_and, and_false, and_self, decide_true, decide_false, mm_bd_i, mm_bd_v, if_true, if_false, not_true_eq_false, not_false_eq_true, nI_1, Bool.true_eq_false, Bool.false_eq_true, bI_0, n_le0, n_0lt, n_lt0, n_0le, n_eq0, n_eqm, n_eq1, n_le1, n_1lt, n_1le, n_lt1, nn_le, nI_ltI, nI_eq, nI_clamp, nI_add, pk_mul, i_eq0, i_eqm, i_0le, i_le0, i_0lt, i_lt0, i_mle, i_ltm, ii_le, iI_lt, iI_eq, ni_le, ni_lt, ni_eq, in_le, in_lt, in_eq, ni_add, in_add, ni_sub, in_sub, ni_mul, in_mul, iI_add, iI_sub, iI_mul, i_p1, iI_neg, n_neg, e1, e2, h1, lg_self, c]
  · obtain ⟨v, F1, I1, L1, F2, I2, L2, e1, e2, h1, h2, g2⟩ := op_loop d z F I L hz g (I 1 (i + 1)) true
    refine ⟨F2, I2, L2, ?_, g2⟩
    simp only [bI_f, bI_t] at e1 e2
    simp (disch := first | assumption | exact bI_or _ | exact zOK_O hz (by decide) (by decide) rfl | exact zOK_T hz (by decide) (by decide) rfl | (refine ix (zOK_l hz (by decide) (by decide) rfl) ?_; omega) | decide | omega) only [eL_law_1151, eL_law_1152, eL_law_1153, eL_law_1154, eL_law_1155, eL_law_1156, eL_law_1157, eL_law_1158, eL_law_1159, eL_law_1160, eL_law_1161, eL_law_1162, eL_law_1165, eL_law_1166, eL_law_1169, eL_law_1170, eL_law_1173, eL_law_1174, eL_law_1175, eL_law_1176, eL_law_1177, eL_law_1178, eL_law_1179, eL_law_1180, eL_law_1181, eL_law_1182, eL_law_1183, eL_law_1184, eL_law_1187, eL_law_1188, eL_law_1191, eL_law_1192, eL_law_1195, eL_law_1198, eL_law_1199, Int.cast_ofNat_Int, Nat.reduceLT, Nat.reduceLeDiff, Nat.reduceEqDiff, Nat.reduceAdd, Nat.reduceMul, Int.reduceLE, Int.reduceLT, Int.reduceEq, not_false_iff, nlr, Nat.zero_add, Nat.add_zero, e10f, e01f, eq_self, true_and, and_true, false_and, and_false, and_self, decide_true, decide_false, mm_bd_i, mm_bd_v, if_true, if_false, not_true_eq_false, not_false_eq_true, nI_1, Bool.true_eq_false, Bool.false_eq_true, bI_0, n_le0, n_0lt, n_lt0, n_0le, n_eq0, n_eqm, n_eq1, n_le1, n_1lt, n_1le, n_lt1, nn_le, nI_ltI, nI_eq, nI_clamp, nI_add, pk_mul, i_eq0, i_eqm, i_0le, i_le0, i_0lt, i_lt0, i_mle, i_ltm, ii_le, iI_lt, iI_eq, ni_le, ni_lt, ni_eq, in_le, in_lt, in_eq, ni_add, in_add, ni_sub, in_sub, ni_mul, in_mul, iI_add, iI_sub, iI_mul, i_p1, iI_neg, n_neg, e1, e2, h1, lg_self, c]
theorem lw_unloop (d : Nat) (z : mm_Z) (F : Nat → Nat → Value) (I : Nat → Nat → Int32) (L : Nat → Nat → Int64) (i : Nat) (h : lwS z i) (g : gI F I L) : lwG d z F I L i 1200 := by
  obtain ⟨hz, hS, b1, b2⟩ := id h
  have v0 := lwV h (j := 0) (by omega)
  have v1 := lwV h (j := 1) (by omega)
  have v2 := lwV h (j := 2) (by omega)
  have v3 := lwV h (j := 3) (by omega)
  have v4 := lwV h (j := 4) (by omega)
  obtain ⟨v, F1, I1, L1, F2, I2, L2, e1, e2, h1, h2, g2⟩ := op_unloop d z F I L hz g 
  refine ⟨F2, I2, L2, ?_, g2⟩
  simp (disch := first | assumption | exact bI_or _ | exact zOK_O hz (by decide) (by decide) rfl | exact zOK_T hz (by decide) (by decide) rfl | (refine ix (zOK_l hz (by decide) (by decide) rfl) ?_; omega) | decide | omega) only [eL_law_1200, eL_law_1201, eL_law_1204, eL_law_1205, eL_law_1208, eL_law_1211, eL_law_1212, Int.cast_ofNat_Int, Nat.reduceLT, Nat.reduceLeDiff, Nat.reduceEqDiff, Nat.reduceAdd, Nat.reduceMul, Int.reduceLE, Int.reduceLT, Int.reduceEq, not_false_iff, nlr, Nat.zero_add, Nat.add_zero, e10f, e01f, eq_self, true_and, and_true, false_and, and_false, and_self, decide_true, decide_false, mm_bd_i, mm_bd_v, if_true, if_false, not_true_eq_false, not_false_eq_true, nI_1, Bool.true_eq_false, Bool.false_eq_true, bI_0, n_le0, n_0lt, n_lt0, n_0le, n_eq0, n_eqm, n_eq1, n_le1, n_1lt, n_1le, n_lt1, nn_le, nI_ltI, nI_eq, nI_clamp, nI_add, pk_mul, i_eq0, i_eqm, i_0le, i_le0, i_0lt, i_lt0, i_mle, i_ltm, ii_le, iI_lt, iI_eq, ni_le, ni_lt, ni_eq, in_le, in_lt, in_eq, ni_add, in_add, ni_sub, in_sub, ni_mul, in_mul, iI_add, iI_sub, iI_mul, i_p1, iI_neg, n_neg, e1, e2, h1, lg_self]
theorem lw_spread (d : Nat) (z : mm_Z) (F : Nat → Nat → Value) (I : Nat → Nat → Int32) (L : Nat → Nat → Int64) (i : Nat) (h : lwS z i) (g : gI F I L) : lwG d z F I L i 1213 := by
  obtain ⟨hz, hS, b1, b2⟩ := id h
  have v0 := lwV h (j := 0) (by omega)
  have v1 := lwV h (j := 1) (by omega)
  have v2 := lwV h (j := 2) (by omega)
  have v3 := lwV h (j := 3) (by omega)
  have v4 := lwV h (j := 4) (by omega)
  obtain ⟨v, F1, I1, L1, F2, I2, L2, e1, e2, h1, h2, g2⟩ := op_spread d z F I L hz g (I 1 (i + 1)) (I 1 (i + 2))
  refine ⟨F2, I2, L2, ?_, g2⟩
  simp (disch := first | assumption | exact bI_or _ | exact zOK_O hz (by decide) (by decide) rfl | exact zOK_T hz (by decide) (by decide) rfl | (refine ix (zOK_l hz (by decide) (by decide) rfl) ?_; omega) | decide | omega) only [eL_law_1213, eL_law_1214, eL_law_1215, eL_law_1216, eL_law_1217, eL_law_1218, eL_law_1219, eL_law_1220, eL_law_1221, eL_law_1222, eL_law_1223, eL_law_1224, eL_law_1227, eL_law_1228, eL_law_1229, eL_law_1230, eL_law_1231, eL_law_1232, eL_law_1233, eL_law_1234, eL_law_1235, eL_law_1236, eL_law_1237, eL_law_1238, eL_law_1241, eL_law_1244, eL_law_1245, Int.cast_ofNat_Int, Nat.reduceLT, Nat.reduceLeDiff, Nat.reduceEqDiff, Nat.reduceAdd, Nat.reduceMul, Int.reduceLE, Int.reduceLT, Int.reduceEq, not_false_iff, nlr, Nat.zero_add, Nat.add_zero, e10f, e01f, eq_self, true_and, and_true, false_and, and_false, and_self, decide_true, decide_false, mm_bd_i, mm_bd_v, if_true, if_false, not_true_eq_false, not_false_eq_true, nI_1, Bool.true_eq_false, Bool.false_eq_true, bI_0, n_le0, n_0lt, n_lt0, n_0le, n_eq0, n_eqm, n_eq1, n_le1, n_1lt, n_1le, n_lt1, nn_le, nI_ltI, nI_eq, nI_clamp, nI_add, pk_mul, i_eq0, i_eqm, i_0le, i_le0, i_0lt, i_lt0, i_mle, i_ltm, ii_le, iI_lt, iI_eq, ni_le, ni_lt, ni_eq, in_le, in_lt, in_eq, ni_add, in_add, ni_sub, in_sub, ni_mul, in_mul, iI_add, iI_sub, iI_mul, i_p1, iI_neg, n_neg, e1, e2, h1, lg_self]
theorem lw_length (d : Nat) (z : mm_Z) (F : Nat → Nat → Value) (I : Nat → Nat → Int32) (L : Nat → Nat → Int64) (i : Nat) (h : lwS z i) (g : gI F I L) : lwG d z F I L i 1246 := by
  obtain ⟨hz, hS, b1, b2⟩ := id h
  have v0 := lwV h (j := 0) (by omega)
  have v1 := lwV h (j := 1) (by omega)
  have v2 := lwV h (j := 2) (by omega)
  have v3 := lwV h (j := 3) (by omega)
  have v4 := lwV h (j := 4) (by omega)
  obtain ⟨v, F1, I1, L1, F2, I2, L2, e1, e2, h1, h2, g2⟩ := op_length d z F I L hz g (I 1 (i + 1)) (I 1 (i + 2)) (I 1 (i + 3))
  refine ⟨F2, I2, L2, ?_, g2⟩
  simp (disch := first | assumption | exact bI_or _ | exact zOK_O hz (by decide) (by decide) rfl | exact zOK_T hz (by decide) (by decide) rfl | (refine ix (zOK_l hz (by decide) (by decide) rfl) ?_; omega) | decide | omega) only [eL_law_1246, eL_law_1247, eL_law_1248, eL_law_1249, eL_law_1250, eL_law_1251, eL_law_1252, eL_law_1253, eL_law_1254, eL_law_1255, eL_law_1256, eL_law_1257, eL_law_1258, eL_law_1259, eL_law_1260, eL_law_1261, eL_law_1262, eL_law_1265, eL_law_1266, eL_law_1267, eL_law_1268, eL_law_1269, eL_law_1270, eL_law_1271, eL_law_1272, eL_law_1273, eL_law_1274, eL_law_1275, eL_law_1276, eL_law_1277, eL_law_1278, eL_law_1279, eL_law_1280, eL_law_1281, eL_law_1284, eL_law_1287, eL_law_1288, Int.cast_ofNat_Int, Nat.reduceLT, Nat.reduceLeDiff, Nat.reduceEqDiff, Nat.reduceAdd, Nat.reduceMul, Int.reduceLE, Int.reduceLT, Int.reduceEq, not_false_iff, nlr, Nat.zero_add, Nat.add_zero, e10f, e01f, eq_self, true_and, and_true, false_and, and_false, and_self, decide_true, decide_false, mm_bd_i, mm_bd_v, if_true, if_false, not_true_eq_false, not_false_eq_true, nI_1, Bool.true_eq_false, Bool.false_eq_true, bI_0, n_le0, n_0lt, n_lt0, n_0le, n_eq0, n_eqm, n_eq1, n_le1, n_1lt, n_1le, n_lt1, nn_le, nI_ltI, nI_eq, nI_clamp, nI_add, pk_mul, i_eq0, i_eqm, i_0le, i_le0, i_0lt, i_lt0, i_mle, i_ltm, ii_le, iI_lt, iI_eq, ni_le, ni_lt, ni_eq, in_le, in_lt, in_eq, ni_add, in_add, ni_sub, in_sub, ni_mul, in_mul, iI_add, iI_sub, iI_mul, i_p1, iI_neg, n_neg, e1, e2, h1, lg_self]
theorem lw_held (d : Nat) (z : mm_Z) (F : Nat → Nat → Value) (I : Nat → Nat → Int32) (L : Nat → Nat → Int64) (i : Nat) (h : lwS z i) (g : gI F I L) : lwG d z F I L i 1289 := by
  obtain ⟨hz, hS, b1, b2⟩ := id h
  have v0 := lwV h (j := 0) (by omega)
  have v1 := lwV h (j := 1) (by omega)
  have v2 := lwV h (j := 2) (by omega)
  have v3 := lwV h (j := 3) (by omega)
  have v4 := lwV h (j := 4) (by omega)
  obtain ⟨v, F1, I1, L1, F2, I2, L2, e1, e2, h1, h2, g2⟩ := op_held d z F I L hz g (I 1 (i + 1))
  refine ⟨F2, I2, L2, ?_, g2⟩
  simp (disch := first | assumption | exact bI_or _ | exact zOK_O hz (by decide) (by decide) rfl | exact zOK_T hz (by decide) (by decide) rfl | (refine ix (zOK_l hz (by decide) (by decide) rfl) ?_; omega) | decide | omega) only [eL_law_1289, eL_law_1290, eL_law_1291, eL_law_1292, eL_law_1293, eL_law_1294, eL_law_1295, eL_law_1298, eL_law_1299, eL_law_1300, eL_law_1301, eL_law_1302, eL_law_1303, eL_law_1304, eL_law_1307, eL_law_1310, eL_law_1311, Int.cast_ofNat_Int, Nat.reduceLT, Nat.reduceLeDiff, Nat.reduceEqDiff, Nat.reduceAdd, Nat.reduceMul, Int.reduceLE, Int.reduceLT, Int.reduceEq, not_false_iff, nlr, Nat.zero_add, Nat.add_zero, e10f, e01f, eq_self, true_and, and_true, false_and, and_false, and_self, decide_true, decide_false, mm_bd_i, mm_bd_v, if_true, if_false, not_true_eq_false, not_false_eq_true, nI_1, Bool.true_eq_false, Bool.false_eq_true, bI_0, n_le0, n_0lt, n_lt0, n_0le, n_eq0, n_eqm, n_eq1, n_le1, n_1lt, n_1le, n_lt1, nn_le, nI_ltI, nI_eq, nI_clamp, nI_add, pk_mul, i_eq0, i_eqm, i_0le, i_le0, i_0lt, i_lt0, i_mle, i_ltm, ii_le, iI_lt, iI_eq, ni_le, ni_lt, ni_eq, in_le, in_lt, in_eq, ni_add, in_add, ni_sub, in_sub, ni_mul, in_mul, iI_add, iI_sub, iI_mul, i_p1, iI_neg, n_neg, e1, e2, h1, lg_self]
theorem lw_span (d : Nat) (z : mm_Z) (F : Nat → Nat → Value) (I : Nat → Nat → Int32) (L : Nat → Nat → Int64) (i : Nat) (h : lwS z i) (g : gI F I L) : lwG d z F I L i 1312 := by
  obtain ⟨hz, hS, b1, b2⟩ := id h
  have v0 := lwV h (j := 0) (by omega)
  have v1 := lwV h (j := 1) (by omega)
  have v2 := lwV h (j := 2) (by omega)
  have v3 := lwV h (j := 3) (by omega)
  have v4 := lwV h (j := 4) (by omega)
  obtain ⟨v, F1, I1, L1, F2, I2, L2, e1, e2, h1, h2, g2⟩ := op_span d z F I L hz g (I 1 (i + 1))
  refine ⟨F2, I2, L2, ?_, g2⟩
  simp (disch := first | assumption | exact bI_or _ | exact zOK_O hz (by decide) (by decide) rfl | exact zOK_T hz (by decide) (by decide) rfl | (refine ix (zOK_l hz (by decide) (by decide) rfl) ?_; omega) | decide | omega) only [eL_law_1312, eL_law_1313, eL_law_1314, eL_law_1315, eL_law_1316, eL_law_1317, eL_law_1318, eL_law_1321, eL_law_1322, eL_law_1323, eL_law_1324, eL_law_1325, eL_law_1326, eL_law_1327, eL_law_1330, eL_law_1333, eL_law_1334, Int.cast_ofNat_Int, Nat.reduceLT, Nat.reduceLeDiff, Nat.reduceEqDiff, Nat.reduceAdd, Nat.reduceMul, Int.reduceLE, Int.reduceLT, Int.reduceEq, not_false_iff, nlr, Nat.zero_add, Nat.add_zero, e10f, e01f, eq_self, true_and, and_true, false_and, and_false, and_self, decide_true, decide_false, mm_bd_i, mm_bd_v, if_true, if_false, not_true_eq_false, not_false_eq_true, nI_1, Bool.true_eq_false, Bool.false_eq_true, bI_0, n_le0, n_0lt, n_lt0, n_0le, n_eq0, n_eqm, n_eq1, n_le1, n_1lt, n_1le, n_lt1, nn_le, nI_ltI, nI_eq, nI_clamp, nI_add, pk_mul, i_eq0, i_eqm, i_0le, i_le0, i_0lt, i_lt0, i_mle, i_ltm, ii_le, iI_lt, iI_eq, ni_le, ni_lt, ni_eq, in_le, in_lt, in_eq, ni_add, in_add, ni_sub, in_sub, ni_mul, in_mul, iI_add, iI_sub, iI_mul, i_p1, iI_neg, n_neg, e1, e2, h1, lg_self]
theorem lw_count (d : Nat) (z : mm_Z) (F : Nat → Nat → Value) (I : Nat → Nat → Int32) (L : Nat → Nat → Int64) (i : Nat) (h : lwS z i) (g : gI F I L) : lwG d z F I L i 1335 := by
  obtain ⟨hz, hS, b1, b2⟩ := id h
  have v0 := lwV h (j := 0) (by omega)
  have v1 := lwV h (j := 1) (by omega)
  have v2 := lwV h (j := 2) (by omega)
  have v3 := lwV h (j := 3) (by omega)
  have v4 := lwV h (j := 4) (by omega)
  obtain ⟨v, F1, I1, L1, F2, I2, L2, e1, e2, h1, h2, g2⟩ := op_count d z F I L hz g (I 1 (i + 1))
  refine ⟨F2, I2, L2, ?_, g2⟩
  simp (disch := first | assumption | exact bI_or _ | exact zOK_O hz (by decide) (by decide) rfl | exact zOK_T hz (by decide) (by decide) rfl | (refine ix (zOK_l hz (by decide) (by decide) rfl) ?_; omega) | decide | omega) only [eL_law_1335, eL_law_1336, eL_law_1337, eL_law_1338, eL_law_1339, eL_law_1340, eL_law_1341, eL_law_1344, eL_law_1345, eL_law_1346, eL_law_1347, eL_law_1348, eL_law_1349, eL_law_1350, eL_law_1353, eL_law_1356, eL_law_1357, Int.cast_ofNat_Int, Nat.reduceLT, Nat.reduceLeDiff, Nat.reduceEqDiff, Nat.reduceAdd, Nat.reduceMul, Int.reduceLE, Int.reduceLT, Int.reduceEq, not_false_iff, nlr, Nat.zero_add, Nat.add_zero, e10f, e01f, eq_self, true_and, and_true, false_and, and_false, and_self, decide_true, decide_false, mm_bd_i, mm_bd_v, if_true, if_false, not_true_eq_false, not_false_eq_true, nI_1, Bool.true_eq_false, Bool.false_eq_true, bI_0, n_le0, n_0lt, n_lt0, n_0le, n_eq0, n_eqm, n_eq1, n_le1, n_1lt, n_1le, n_lt1, nn_le, nI_ltI, nI_eq, nI_clamp, nI_add, pk_mul, i_eq0, i_eqm, i_0le, i_le0, i_0lt, i_lt0, i_mle, i_ltm, ii_le, iI_lt, iI_eq, ni_le, ni_lt, ni_eq, in_le, in_lt, in_eq, ni_add, in_add, ni_sub, in_sub, ni_mul, in_mul, iI_add, iI_sub, iI_mul, i_p1, iI_neg, n_neg, e1, e2, h1, lg_self]
theorem and63 (x : Int32) : ∃ k, k < 64 ∧ x &&& nI 63 = nI k := by
  refine ⟨(x &&& nI 63).toBitVec.toNat, ?_, ?_⟩
  · rw [Int32.toBitVec_and, BitVec.toNat_and]
    have : (nI 63).toBitVec.toNat = 63 := by decide +kernel
    rw [this]
    have := Nat.and_le_right (n := x.toBitVec.toNat) (m := 63)
    omega
  · apply Int32.toBitVec_inj.mp
    unfold nI
    rw [Int32.toBitVec_ofNat']
    exact (BitVec.ofNat_toNat _ _).symm ▸ (BitVec.setWidth_eq _).symm
def lwC (d : Nat) (z : mm_Z) (F : Nat → Nat → Value) (I : Nat → Nat → Int32) (L : Nat → Nat → Int64) (i : Nat) (x : Int32) : Prop := ∃ F' I' L', mm_E (d + 31) mL_law 32 [.ref 1, .ref 2, .ref 120, .int (nI i)] [.int x] (z, F, I, L) = mm_E (d + 31) mL_law 1358 [.ref 1, .ref 2, .ref 120, .int (nI i)] [] (z, F', I', L') ∧ gI F' I' L'
theorem lwC_of {d : Nat} {z : mm_Z} {F : Nat → Nat → Value} {I : Nat → Nat → Int32} {L : Nat → Nat → Int64} {i p : Nat} {x : Int32} (e : mm_E (d + 31) mL_law 32 [.ref 1, .ref 2, .ref 120, .int (nI i)] [.int x] (z, F, I, L) = mm_E (d + 31) mL_law p [.ref 1, .ref 2, .ref 120, .int (nI i)] [] (z, F, I, L)) (h : lwG d z F I L i p) : lwC d z F I L i x := by
  obtain ⟨F', I', L', h1, h2⟩ := h
  exact ⟨F', I', L', e.trans h1, h2⟩
theorem lw_case (d : Nat) (z : mm_Z) (F : Nat → Nat → Value) (I : Nat → Nat → Int32) (L : Nat → Nat → Int64) (i : Nat) (h : lwS z i) (g : gI F I L) (k : Nat) (hk : k < 64) : lwC d z F I L i (nI k) := by
  match k, hk with
  | 0, _ => exact lwC_of (eL_law_32_0 (d + 31) _ [] z F I L) (lw_sweep d z F I L i h g)
  | 1, _ => exact lwC_of (eL_law_32_1 (d + 31) _ [] z F I L) (lw_hit d z F I L i h g)
  | 2, _ => exact lwC_of (eL_law_32_2 (d + 31) _ [] z F I L) (lw_stand d z F I L i h g)
  | 3, _ => exact lwC_of (eL_law_32_3 (d + 31) _ [] z F I L) (lw_part d z F I L i h g)
  | 4, _ => exact lwC_of (eL_law_32_4 (d + 31) _ [] z F I L) (lw_set d z F I L i h g)
  | 5, _ => exact lwC_of (eL_law_32_5 (d + 31) _ [] z F I L) (lw_way d z F I L i h g)
  | 6, _ => exact lwC_of (eL_law_32_6 (d + 31) _ [] z F I L) (lw_fits d z F I L i h g)
  | 7, _ => exact lwC_of (eL_law_32_7 (d + 31) _ [] z F I L) (lw_bars d z F I L i h g)
  | 8, _ => exact lwC_of (eL_law_32_8 (d + 31) _ [] z F I L) (lw_cell d z F I L i h g)
  | 9, _ => exact lwC_of (eL_law_32_9 (d + 31) _ [] z F I L) (lw_cells d z F I L i h g)
  | 10, _ => exact lwC_of (eL_law_32_10 (d + 31) _ [] z F I L) (lw_lead d z F I L i h g)
  | 11, _ => exact lwC_of (eL_law_32_11 (d + 31) _ [] z F I L) (lw_wall d z F I L i h g)
  | 12, _ => exact lwC_of (eL_law_32_12 (d + 31) _ [] z F I L) (lw_corners d z F I L i h g)
  | 13, _ => exact lwC_of (eL_law_32_13 (d + 31) _ [] z F I L) (lw_doors d z F I L i h g)
  | 14, _ => exact lwC_of (eL_law_32_14 (d + 31) _ [] z F I L) (lw_room d z F I L i h g)
  | 15, _ => exact lwC_of (eL_law_32_15 (d + 31) _ [] z F I L) (lw_rooms d z F I L i h g)
  | 16, _ => exact lwC_of (eL_law_32_16 (d + 31) _ [] z F I L) (lw_away d z F I L i h g)
  | 17, _ => exact lwC_of (eL_law_32_17 (d + 31) _ [] z F I L) (lw_write d z F I L i h g)
  | 18, _ => exact lwC_of (eL_law_32_18 (d + 31) _ [] z F I L) (lw_erase d z F I L i h g)
  | 19, _ => exact lwC_of (eL_law_32_19 (d + 31) _ [] z F I L) (lw_fault d z F I L i h g)
  | 20, _ => exact lwC_of (eL_law_32_20 (d + 31) _ [] z F I L) (lw_thing d z F I L i h g)
  | 21, _ => exact lwC_of (eL_law_32_21 (d + 31) _ [] z F I L) (lw_fit d z F I L i h g)
  | 22, _ => exact lwC_of (eL_law_32_22 (d + 31) _ [] z F I L) (lw_keep d z F I L i h g)
  | 23, _ => exact lwC_of (eL_law_32_23 (d + 31) _ [] z F I L) (lw_since d z F I L i h g)
  | 24, _ => exact lwC_of (eL_law_32_24 (d + 31) _ [] z F I L) (lw_moved d z F I L i h g)
  | 25, _ => exact lwC_of (eL_law_32_25 (d + 31) _ [] z F I L) (lw_see d z F I L i h g)
  | 26, _ => exact lwC_of (eL_law_32_26 (d + 31) _ [] z F I L) (lw_next d z F I L i h g)
  | 27, _ => exact lwC_of (eL_law_32_27 (d + 31) _ [] z F I L) (lw_join d z F I L i h g)
  | 28, _ => exact lwC_of (eL_law_32_28 (d + 31) _ [] z F I L) (lw_agrees d z F I L i h g)
  | 29, _ => exact lwC_of (eL_law_32_29 (d + 31) _ [] z F I L) (lw_kept d z F I L i h g)
  | 30, _ => exact lwC_of (eL_law_32_30 (d + 31) _ [] z F I L) (lw_loop d z F I L i h g)
  | 31, _ => exact lwC_of (eL_law_32_31 (d + 31) _ [] z F I L) (lw_unloop d z F I L i h g)
  | 32, _ => exact lwC_of (eL_law_32_32 (d + 31) _ [] z F I L) (lw_spread d z F I L i h g)
  | 33, _ => exact lwC_of (eL_law_32_33 (d + 31) _ [] z F I L) (lw_length d z F I L i h g)
  | 34, _ => exact lwC_of (eL_law_32_34 (d + 31) _ [] z F I L) (lw_held d z F I L i h g)
  | 35, _ => exact lwC_of (eL_law_32_35 (d + 31) _ [] z F I L) (lw_span d z F I L i h g)
  | 36, _ => exact lwC_of (eL_law_32_36 (d + 31) _ [] z F I L) (lw_count d z F I L i h g)
  | k + 37, hk => exact ⟨F, I, L, eL_law_32_o (d + 31) _ [] z F I L (nI (k + 37)) (Or.inr (by rw [nI_toInt (by omega)]; omega)), g⟩
theorem lw_loop_all (d : Nat) (z : mm_Z) (hz : zOK z) (hS : mm_zS z) (b2 : mm_zl z 1 ≤ 2560) : ∀ f i F I L, mm_zl z 1 < i + 5 + 5 * f → i ≤ 2560 → gI F I L → ∃ F' I' L', mm_E (d + 31) mL_law 18 [.ref 1, .ref 2, .ref 120, .int (nI i)] [] (z, F, I, L) = some (some (.int 1), (z, F', I', L')) := by
  have fin : ∀ i F I L, mm_zl z 1 < i + 5 → i ≤ 2560 → mm_E (d + 31) mL_law 18 [.ref 1, .ref 2, .ref 120, .int (nI i)] [] (z, F, I, L) = some (some (.int 1), (z, F, I, L)) := by
    intro i F I L h1 h2
    have c : ((mm_zl z 1 : Nat) : Int) - 5 < (i : Int) := by omega
    rw [eL_law_18]
    simp (disch := first | assumption | exact bI_or _ | exact zOK_O hz (by decide) (by decide) rfl | exact zOK_T hz (by decide) (by decide) rfl | (refine ix (zOK_l hz (by decide) (by decide) rfl) ?_; omega) | decide | omega) only [eL_law_19, eL_law_20, eL_law_21, eL_law_22, eL_law_23, eL_law_1364, eL_law_1365, Int.cast_ofNat_Int, Nat.reduceLT, Nat.reduceLeDiff, Nat.reduceEqDiff, Nat.reduceAdd, Nat.reduceMul, Int.reduceLE, Int.reduceLT, Int.reduceEq, not_false_iff, nlr, Nat.zero_add, Nat.add_zero, e10f, e01f, eq_self, true_and, and_true, false_and, and_false, and_self, decide_true, decide_false, mm_bd_i, mm_bd_v, if_true, if_false, not_true_eq_false, not_false_eq_true, nI_1, Bool.true_eq_false, Bool.false_eq_true, bI_0, n_le0, n_0lt, n_lt0, n_0le, n_eq0, n_eqm, n_eq1, n_le1, n_1lt, n_1le, n_lt1, nn_le, nI_ltI, nI_eq, nI_clamp, nI_add, pk_mul, i_eq0, i_eqm, i_0le, i_le0, i_0lt, i_lt0, i_mle, i_ltm, ii_le, iI_lt, iI_eq, ni_le, ni_lt, ni_eq, in_le, in_lt, in_eq, ni_add, in_add, ni_sub, in_sub, ni_mul, in_mul, iI_add, iI_sub, iI_mul, i_p1, iI_neg, n_neg, nn_sub, c]
  intro f
  induction f with
  | zero => intro i F I L h1 h2 _; exact ⟨F, I, L, fin i F I L (by omega) h2⟩
  | succ f ih =>
    intro i F I L h1 h2 g
    by_cases e : mm_zl z 1 < i + 5
    · exact ⟨F, I, L, fin i F I L e h2⟩
    · have h : lwS z i := ⟨hz, hS, by omega, b2⟩
      have v0 := lwV h (j := 0) (by omega)
      have c : ¬ ((mm_zl z 1 : Nat) : Int) - 5 < (i : Int) := by omega
      obtain ⟨k, hk, ek⟩ := and63 (I 1 i)
      obtain ⟨F1, I1, L1, e1, g1⟩ := lw_case d z F I L i h g k hk
      obtain ⟨F2, I2, L2, e2⟩ := ih (i + 5) F1 I1 L1 (by omega) (by omega) g1
      refine ⟨F2, I2, L2, ?_⟩
      rw [← e2, eL_law_18]
      simp (disch := first | assumption | exact bI_or _ | exact zOK_O hz (by decide) (by decide) rfl | exact zOK_T hz (by decide) (by decide) rfl | (refine ix (zOK_l hz (by decide) (by decide) rfl) ?_; omega) | decide | omega) only [eL_law_19, eL_law_20, eL_law_21, eL_law_22, eL_law_23, eL_law_26, eL_law_27, eL_law_28, eL_law_29, eL_law_31, Int.cast_ofNat_Int, Nat.reduceLT, Nat.reduceLeDiff, Nat.reduceEqDiff, Nat.reduceAdd, Nat.reduceMul, Int.reduceLE, Int.reduceLT, Int.reduceEq, not_false_iff, nlr, Nat.zero_add, Nat.add_zero, e10f, e01f, eq_self, true_and, and_true, false_and, and_false, and_self, decide_true, decide_false, mm_bd_i, mm_bd_v, if_true, if_false, not_true_eq_false, not_false_eq_true, nI_1, Bool.true_eq_false, Bool.false_eq_true, bI_0, n_le0, n_0lt, n_lt0, n_0le, n_eq0, n_eqm, n_eq1, n_le1, n_1lt, n_1le, n_lt1, nn_le, nI_ltI, nI_eq, nI_clamp, nI_add, pk_mul, i_eq0, i_eqm, i_0le, i_le0, i_0lt, i_lt0, i_mle, i_ltm, ii_le, iI_lt, iI_eq, ni_le, ni_lt, ni_eq, in_le, in_lt, in_eq, ni_add, in_add, ni_sub, in_sub, ni_mul, in_mul, iI_add, iI_sub, iI_mul, i_p1, iI_neg, n_neg, nn_sub, c, ek]
      rw [e1]
      simp (disch := first | assumption | exact bI_or _ | exact zOK_O hz (by decide) (by decide) rfl | exact zOK_T hz (by decide) (by decide) rfl | (refine ix (zOK_l hz (by decide) (by decide) rfl) ?_; omega) | decide | omega) only [eL_law_1358, eL_law_1361, Int.cast_ofNat_Int, Nat.reduceLT, Nat.reduceLeDiff, Nat.reduceEqDiff, Nat.reduceAdd, Nat.reduceMul, Int.reduceLE, Int.reduceLT, Int.reduceEq, not_false_iff, nlr, Nat.zero_add, Nat.add_zero, e10f, e01f, eq_self, true_and, and_true, false_and, and_false, and_self, decide_true, decide_false, mm_bd_i, mm_bd_v, if_true, if_false, not_true_eq_false, not_false_eq_true, nI_1, Bool.true_eq_false, Bool.false_eq_true, bI_0, n_le0, n_0lt, n_lt0, n_0le, n_eq0, n_eqm, n_eq1, n_le1, n_1lt, n_1le, n_lt1, nn_le, nI_ltI, nI_eq, nI_clamp, nI_add, pk_mul, i_eq0, i_eqm, i_0le, i_le0, i_0lt, i_lt0, i_mle, i_ltm, ii_le, iI_lt, iI_eq, ni_le, ni_lt, ni_eq, in_le, in_lt, in_eq, ni_add, in_add, ni_sub, in_sub, ni_mul, in_mul, iI_add, iI_sub, iI_mul, i_p1, iI_neg, n_neg]
