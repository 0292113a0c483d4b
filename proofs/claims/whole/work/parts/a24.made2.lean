/-! the constructors of Joins, Catches, Hall -/
/-- Joins -/
def gJo (b : Nat) (g : Nat → Nat ⊕ (Nat × Nat)) : Nat → Nat ⊕ (Nat × Nat) := gM (b + 18) 0 13 8 (gM (b + 4) 0 13 8 (va_up (va_up (va_up (va_up g b (.inr (0, 12))) (b + 1) (.inr (0, 12))) (b + 2) (.inr (0, 12))) (b + 3) (.inr (0, 12))))
def iJF (r b : Nat) (F : Nat → Nat → Value) : Nat → Nat → Value := fu (va_up (fu (va_up (fu (va_up (fu (va_up (fu (va_up (fu (va_up F b nl) r [(0, .ref b)]) (b + 1) nl) r [(1, .ref (b + 1))]) (b + 2) nl) r [(2, .ref (b + 2))]) (b + 3) nl) r [(3, .ref (b + 3))]) (b + 4) (rfN (b + 4) 13)) r [(4, .ref (b + 4))]) (b + 18) (rfN (b + 18) 13)) r [(5, .ref (b + 18)), (6, .int 0), (7, .int 0), (8, .int 0), (9, .int 0)]
theorem mkJ (d : Nat) (q b r : Nat) (g : Nat → Nat ⊕ (Nat × Nat)) (F : Nat → Nat → Value) (I : Nat → Nat → Int32) (L : Nat → Nat → Int64) (hr : mm_zO (b, q, g) r 2) (hI : ∀ x, b ≤ x → I x = fun _ => 0) (hL : ∀ x, b ≤ x → L x = fun _ => 0) : mm_E d mX2_init 0 [.ref r] [] ((b, q, g), F, I, L) = some (none, ((b + 32, q + 12 + 12 + 12 + 12 + 13 + 13 * 8 + 13 + 13 * 8, gJo b g), iJF r b F, I, L)) := by
  simp (disch := first | assumption | omega | decide | exact zO_new (by omega) | (refine zO_x hr (by omega) ?_; intro x hx; simp (disch := omega) only [vu_n, gPn, gSn, gMn])) only [eX2_init_0, eX2_init_1, eX2_init_4, eX2_init_5, eX2_init_7, eX2_init_9, eX2_init_12, eX2_init_13, eX2_init_15, eX2_init_17, eX2_init_20, eX2_init_21, eX2_init_23, eX2_init_25, eX2_init_28, eX2_init_29, eX2_init_31, eX2_init_33, eX2_init_36, eX2_init_37, eX2_init_39, eX2_init_41, eX2_init_45, eX2_init_48, eX2_init_49, eX2_init_51, eX2_init_53, eX2_init_57, eX2_init_60, eX2_init_61, eX2_init_62, eX2_init_65, eX2_init_66, eX2_init_67, eX2_init_70, eX2_init_71, eX2_init_72, eX2_init_75, eX2_init_76, eX2_init_77, eX2_init_80, Int.cast_ofNat_Int, Nat.reduceLT, Nat.reduceLeDiff, Nat.reduceEqDiff, Nat.reduceAdd, Nat.reduceMul, Int.reduceLE, Int.reduceLT, Int.reduceEq, not_false_iff, nlr, Nat.zero_add, Nat.add_zero, e10f, e01f, eq_self, true_and, and_true, false_and, and_false, and_self, decide_true, decide_false, mm_bd_i, mm_bd_v, if_true, if_false, not_true_eq_false, not_false_eq_true, nI_1, Bool.true_eq_false, Bool.false_eq_true, bI_0, n_le0, n_0lt, n_lt0, n_0le, n_eq0, n_eqm, n_eq1, n_le1, n_1lt, n_1le, n_lt1, nn_le, nI_ltI, nI_eq, nI_clamp, nI_add, pk_mul, i_eq0, i_eqm, i_0le, i_le0, i_0lt, i_lt0, i_mle, i_ltm, ii_le, iI_lt, iI_eq, ni_le, ni_lt, ni_eq, in_le, in_lt, in_eq, ni_add, in_add, ni_sub, in_sub, ni_mul, in_mul, iI_add, iI_sub, iI_mul, i_p1, iI_neg, n_neg, mm_nA, mm_nO, nI_clamp, vuI hI, vuL hL, nM_I hI hL, Nat.add_assoc b]
  rfl
/-- Catches -/
def gCa (b : Nat) (g : Nat → Nat ⊕ (Nat × Nat)) : Nat → Nat ⊕ (Nat × Nat) := va_up (va_up (va_up (gM b 1 3 4 g) (b + 4) (.inr (0, 6))) (b + 5) (.inr (0, 6))) (b + 6) (.inr (0, 64))
def iCF (r b : Nat) (F : Nat → Nat → Value) : Nat → Nat → Value := fu (va_up (fu (va_up (fu (va_up (fu (va_up F b (rfN b 3)) r [(0, .ref b)]) (b + 4) nl) r [(1, .ref (b + 4))]) (b + 5) nl) r [(2, .ref (b + 5))]) (b + 6) nl) r [(3, .ref (b + 6))]
def iCL (b : Nat) (L : Nat → Nat → Int64) : Nat → Nat → Nat → Int64
  | 0 => L
  | i + 1 => mm_up2 (iCL b L i) (b + (1 + i)) 0 (-1)
theorem mkC_l (d : Nat) (q b r : Nat) (g : Nat → Nat ⊕ (Nat × Nat)) (F : Nat → Nat → Value) (I : Nat → Nat → Int32) (L : Nat → Nat → Int64) (q' : Nat) (hr : mm_zO (b + 7, q', gCa b g) r 0) (h2 : 2 ≤ b) (hrb : ¬ r = b ∧ r < b) : ∀ i, i ≤ 3 → mm_E d mX0_init 40 [.ref r, .int (nI i)] [] ((b + 7, q', gCa b g), iCF r b F, I, iCL b L i) = some (none, ((b + 7, q', gCa b g), iCF r b F, I, iCL b L 3)) := by
  have hf : iCF r b F r 0 = .ref b := by
    unfold iCF fu
    simp (disch := omega) only [List.foldl, up_s, up_k, vu_n]
  have hb : ∀ i, i < 3 → iCF r b F b i = .ref (b + (1 + i)) := by
    intro i hi
    unfold iCF fu
    simp (disch := omega) only [List.foldl, up_r, vu_n, vu_s]
    unfold rfN
    rw [if_pos hi, Nat.add_assoc]
  have gb : gCa b g b = .inr (5, 3) := by
    unfold gCa
    simp (disch := omega) only [vu_n]
    unfold gM
    rw [if_pos rfl]
  have gi : ∀ i, i < 3 → gCa b g (b + (1 + i)) = .inr (1, 4) := by
    intro i hi
    unfold gCa
    simp (disch := omega) only [vu_n]
    unfold gM
    rw [if_neg (by omega), if_pos (by omega)]
  obtain ⟨t1, t2⟩ := zT_of (q := q') gb (show b < b + 7 by omega) h2
  apply lp
  · rw [eX0_init_40]
    simp (disch := first | assumption | omega | decide | exact zO_new (by omega) | (refine zO_x hr (by omega) ?_; intro x hx; simp (disch := omega) only [vu_n, gPn, gSn, gMn])) only [eX0_init_41, eX0_init_42, eX0_init_45, eX0_init_46, eX0_init_49, eX0_init_50, eX0_init_51, eX0_init_52, eX0_init_55, eX0_init_56, eX0_init_59, eX0_init_62, Int.cast_ofNat_Int, Nat.reduceLT, Nat.reduceLeDiff, Nat.reduceEqDiff, Nat.reduceAdd, Nat.reduceMul, Int.reduceLE, Int.reduceLT, Int.reduceEq, not_false_iff, nlr, Nat.zero_add, Nat.add_zero, e10f, e01f, eq_self, true_and, and_true, false_and, and_false, and_self, decide_true, decide_false, mm_bd_i, mm_bd_v, if_true, if_false, not_true_eq_false, not_false_eq_true, nI_1, Bool.true_eq_false, Bool.false_eq_true, bI_0, n_le0, n_0lt, n_lt0, n_0le, n_eq0, n_eqm, n_eq1, n_le1, n_1lt, n_1le, n_lt1, nn_le, nI_ltI, nI_eq, nI_clamp, nI_add, pk_mul, i_eq0, i_eqm, i_0le, i_le0, i_0lt, i_lt0, i_mle, i_ltm, ii_le, iI_lt, iI_eq, ni_le, ni_lt, ni_eq, in_le, in_lt, in_eq, ni_add, in_add, ni_sub, in_sub, ni_mul, in_mul, iI_add, iI_sub, iI_mul, i_p1, iI_neg, n_neg]
  · intro i hi ih
    obtain ⟨u1, u2⟩ := zT_of (q := q') (gi i hi) (show b + (1 + i) < b + 7 by omega) (by omega)
    have v1 : vp_in (nI i) (mm_zl (b + 7, q', gCa b g) b) := ix t2 (by omega)
    have v2 : vp_in (nI 0) (mm_zl (b + 7, q', gCa b g) (b + (1 + i))) := ix u2 (by omega)
    rw [nI_0] at v2
    have rv : mm_rv (iCF r b F b (nI i).toNatClampNeg) = true := by rw [nI_clamp (by omega), hb i hi]; rfl
    have z0 : (0 : Int32).toNatClampNeg = 0 := by decide
    rw [← ih, eX0_init_40]
    simp (disch := first | assumption | omega | decide | exact zO_new (by omega) | (refine zO_x hr (by omega) ?_; intro x hx; simp (disch := omega) only [vu_n, gPn, gSn, gMn])) only [eX0_init_41, eX0_init_42, eX0_init_45, eX0_init_46, eX0_init_49, eX0_init_50, eX0_init_51, eX0_init_52, eX0_init_55, eX0_init_56, eX0_init_59, eX0_init_62, Int.cast_ofNat_Int, Nat.reduceLT, Nat.reduceLeDiff, Nat.reduceEqDiff, Nat.reduceAdd, Nat.reduceMul, Int.reduceLE, Int.reduceLT, Int.reduceEq, not_false_iff, nlr, Nat.zero_add, Nat.add_zero, e10f, e01f, eq_self, true_and, and_true, false_and, and_false, and_self, decide_true, decide_false, mm_bd_i, mm_bd_v, if_true, if_false, not_true_eq_false, not_false_eq_true, nI_1, Bool.true_eq_false, Bool.false_eq_true, bI_0, n_le0, n_0lt, n_lt0, n_0le, n_eq0, n_eqm, n_eq1, n_le1, n_1lt, n_1le, n_lt1, nn_le, nI_ltI, nI_eq, nI_clamp, nI_add, pk_mul, i_eq0, i_eqm, i_0le, i_le0, i_0lt, i_lt0, i_mle, i_ltm, ii_le, iI_lt, iI_eq, ni_le, ni_lt, ni_eq, in_le, in_lt, in_eq, ni_add, in_add, ni_sub, in_sub, ni_mul, in_mul, iI_add, iI_sub, iI_mul, i_p1, iI_neg, n_neg, hf, hb, hi, z0]
    rfl
theorem mkC (d : Nat) (q b r : Nat) (g : Nat → Nat ⊕ (Nat × Nat)) (F : Nat → Nat → Value) (I : Nat → Nat → Int32) (L : Nat → Nat → Int64) (hr : mm_zO (b, q, g) r 0) (hI : ∀ x, b ≤ x → I x = fun _ => 0) (hL : ∀ x, b ≤ x → L x = fun _ => 0) (h2 : 2 ≤ b) : mm_E d mX0_init 0 [.ref r, uu] [] ((b, q, g), F, I, L) = some (none, ((b + 7, q + 3 + 3 * 4 + 6 + 6 + 64, gCa b g), iCF r b F, I, iCL b L 3)) := by
  have l := mkC_l d q b r g F I L (q + 3 + 3 * 4 + 6 + 6 + 64) (zO_x hr (by omega) (fun x hx => by unfold gCa; simp (disch := omega) only [vu_n, gMn])) h2 ⟨by have := hr.2.1; dsimp only at this; omega, hr.2.1⟩ 0 (by omega)
  rw [← l]
  simp (disch := first | assumption | omega | decide | exact zO_new (by omega) | (refine zO_x hr (by omega) ?_; intro x hx; simp (disch := omega) only [vu_n, gPn, gSn, gMn])) only [eX0_init_0, eX0_init_1, eX0_init_4, eX0_init_5, eX0_init_6, eX0_init_7, eX0_init_11, eX0_init_14, eX0_init_15, eX0_init_17, eX0_init_19, eX0_init_22, eX0_init_23, eX0_init_25, eX0_init_27, eX0_init_30, eX0_init_31, eX0_init_33, eX0_init_35, eX0_init_38, eX0_init_39, Int.cast_ofNat_Int, Nat.reduceLT, Nat.reduceLeDiff, Nat.reduceEqDiff, Nat.reduceAdd, Nat.reduceMul, Int.reduceLE, Int.reduceLT, Int.reduceEq, not_false_iff, nlr, Nat.zero_add, Nat.add_zero, e10f, e01f, eq_self, true_and, and_true, false_and, and_false, and_self, decide_true, decide_false, mm_bd_i, mm_bd_v, if_true, if_false, not_true_eq_false, not_false_eq_true, nI_1, Bool.true_eq_false, Bool.false_eq_true, bI_0, n_le0, n_0lt, n_lt0, n_0le, n_eq0, n_eqm, n_eq1, n_le1, n_1lt, n_1le, n_lt1, nn_le, nI_ltI, nI_eq, nI_clamp, nI_add, pk_mul, i_eq0, i_eqm, i_0le, i_le0, i_0lt, i_lt0, i_mle, i_ltm, ii_le, iI_lt, iI_eq, ni_le, ni_lt, ni_eq, in_le, in_lt, in_eq, ni_add, in_add, ni_sub, in_sub, ni_mul, in_mul, iI_add, iI_sub, iI_mul, i_p1, iI_neg, n_neg, mm_nA, mm_nO, nI_clamp, vuI hI, vuL hL, nM_I hI hL, Nat.add_assoc b]
  rfl
/-- Hall -/
def hF0 (F : Nat → Nat → Value) : Nat → Nat → Value := fu (iAF 7 8 (va_up (fu (iPF 5 6 (va_up (fu (va_up F 4 nl) 3 [(0, .ref 4)]) 5 (dfF 5))) 3 [(1, .ref 5)]) 7 (dfF 4))) 3 [(2, .ref 7), (3, .int 0), (4, .int 0), (5, .long 0), (6, .long 0)]
def hF (F : Nat → Nat → Value) : Nat → Nat → Nat → Value
  | 0 => hF0 F
  | i + 1 => mm_up2 (iSF (9 + 6 * i) (9 + 6 * i + 1) (va_up (hF F i) (9 + 6 * i) (dfF 7))) 4 i (.ref (9 + 6 * i))
def hG (g : Nat → Nat ⊕ (Nat × Nat)) : Nat → Nat → Nat ⊕ (Nat × Nat)
  | 0 => va_up (va_up (iPg 6 (va_up (va_up g 4 (.inr (3, 8))) 5 (.inl 5))) 7 (.inl 4)) 8 (.inr (1, 64))
  | i + 1 => iSg (9 + 6 * i + 1) (va_up (hG g i) (9 + 6 * i) (.inl 7))
def hQ (q : Nat) : Nat → Nat
  | 0 => q + 8 + mm_nf 5 + 10 + mm_nf 4 + 64
  | i + 1 => hQ q i + mm_nf 7 + 16 + 16 + 16 + mm_nf 5 + 10
theorem hF_3 (F : Nat → Nat → Value) : ∀ i, hF F i 3 = hF F 0 3 := by
  intro i
  induction i with
  | zero => rfl
  | succ i ih =>
    rw [← ih]
    show mm_up2 (iSF (9 + 6 * i) (9 + 6 * i + 1) (va_up (hF F i) (9 + 6 * i) (dfF 7))) 4 i (.ref (9 + 6 * i)) 3 = hF F i 3
    unfold iSF iPF fu
    funext y
    simp (disch := omega) only [List.foldl, up_r, vu_n]
theorem hG_3 (g : Nat → Nat ⊕ (Nat × Nat)) : ∀ i x, x < 9 → hG g i x = hG g 0 x := by
  intro i
  induction i with
  | zero => intro x _; rfl
  | succ i ih =>
    intro x hx
    rw [← ih x hx]
    show iSg (9 + 6 * i + 1) (va_up (hG g i) (9 + 6 * i) (.inl 7)) x = hG g i x
    rw [gSn _ (by omega), vu_n _ _ (by omega)]
theorem mkH_l (d q : Nat) (g : Nat → Nat ⊕ (Nat × Nat)) (F : Nat → Nat → Value) (I : Nat → Nat → Int32) (L : Nat → Nat → Int64) (hg : g 3 = .inl 1) (hI : ∀ x, 4 ≤ x → I x = fun _ => 0) (hL : ∀ x, 4 ≤ x → L x = fun _ => 0) : ∀ i, i ≤ 8 → mm_E (d + 2) mX1_init 57 [.ref 3, .int (nI i)] [] ((9 + 6 * i, hQ q i, hG g i), hF F i, I, L) = some (none, ((57, hQ q 8, hG g 8), hF F 8, I, L)) := by
  have f0 : ∀ i, hF F i 3 0 = .ref 4 := fun i => by rw [hF_3]; rfl
  have g4 : ∀ i, hG g i 4 = .inr (3, 8) := fun i => by rw [hG_3 _ _ _ (by omega)]; rfl
  have g3 : ∀ i, hG g i 3 = .inl 1 := fun i => by rw [hG_3 _ _ _ (by omega)]; exact hg
  apply lp
  · have hr : mm_zO (9 + 6 * 8, hQ q 8, hG g 8) 3 1 := ⟨g3 8, by dsimp only; omega, by omega⟩
    rw [eX1_init_57]
    simp (disch := first | assumption | omega | decide | exact zO_new (by omega) | (refine zO_x hr (by omega) ?_; intro x hx; simp (disch := omega) only [vu_n, gPn, gSn, gMn])) only [eX1_init_58, eX1_init_60, eX1_init_63, eX1_init_64, eX1_init_67, eX1_init_68, eX1_init_71, eX1_init_72, eX1_init_75, eX1_init_76, eX1_init_79, eX1_init_82, Int.cast_ofNat_Int, Nat.reduceLT, Nat.reduceLeDiff, Nat.reduceEqDiff, Nat.reduceAdd, Nat.reduceMul, Int.reduceLE, Int.reduceLT, Int.reduceEq, not_false_iff, nlr, Nat.zero_add, Nat.add_zero, e10f, e01f, eq_self, true_and, and_true, false_and, and_false, and_self, decide_true, decide_false, mm_bd_i, mm_bd_v, if_true, if_false, not_true_eq_false, not_false_eq_true, nI_1, Bool.true_eq_false, Bool.false_eq_true, bI_0, n_le0, n_0lt, n_lt0, n_0le, n_eq0, n_eqm, n_eq1, n_le1, n_1lt, n_1le, n_lt1, nn_le, nI_ltI, nI_eq, nI_clamp, nI_add, pk_mul, i_eq0, i_eqm, i_0le, i_le0, i_0lt, i_lt0, i_mle, i_ltm, ii_le, iI_lt, iI_eq, ni_le, ni_lt, ni_eq, in_le, in_lt, in_eq, ni_add, in_add, ni_sub, in_sub, ni_mul, in_mul, iI_add, iI_sub, iI_mul, i_p1, iI_neg, n_neg]
  · intro i hi ih
    have hr : mm_zO (9 + 6 * i, hQ q i, hG g i) 3 1 := ⟨g3 i, by dsimp only; omega, by omega⟩
    have s := mkS d (hQ q i + mm_nf 7) (9 + 6 * i + 1) (9 + 6 * i) (va_up (hG g i) (9 + 6 * i) (.inl 7)) (va_up (hF F i) (9 + 6 * i) (dfF 7)) I L (zO_new (by omega)) (fun x hx => hI x (by omega)) (fun x hx => hL x (by omega)) (by omega)
    have e4 : iSg (9 + 6 * i + 1) (va_up (hG g i) (9 + 6 * i) (.inl 7)) 4 = .inr (3, 8) := by rw [gSn _ (by omega), vu_n _ _ (by omega)]; exact g4 i
    obtain ⟨t1, t2⟩ := zT_of (b := 9 + 6 * i + 1 + 5) (q := hQ q i + mm_nf 7 + 16 + 16 + 16 + mm_nf 5 + 10) e4 (by omega) (by omega)
    have v1 : vp_in (nI i) (mm_zl (9 + 6 * i + 1 + 5, hQ q i + mm_nf 7 + 16 + 16 + 16 + mm_nf 5 + 10, iSg (9 + 6 * i + 1) (va_up (hG g i) (9 + 6 * i) (.inl 7))) 4) := ix t2 (by omega)
    have o7 : mm_zO (9 + 6 * i + 1 + 5, hQ q i + mm_nf 7 + 16 + 16 + 16 + mm_nf 5 + 10, iSg (9 + 6 * i + 1) (va_up (hG g i) (9 + 6 * i) (.inl 7))) (9 + 6 * i) 7 := ⟨by dsimp only; rw [gSn _ (by omega), vu_s], by dsimp only; omega, by omega⟩
    have o7' : mm_zO (9 + 6 * i + 1, hQ q i + mm_nf 7, va_up (hG g i) (9 + 6 * i) (.inl 7)) (9 + 6 * i) 7 := zO_new (by omega)
    have df : (fun j => defaultValue (mm_ty 7 j)) = dfF 7 := rfl
    rw [← ih, eX1_init_57]
    simp (disch := first | assumption | omega | decide | exact zO_new (by omega) | (refine zO_x hr (by omega) ?_; intro x hx; simp (disch := omega) only [vu_n, gPn, gSn, gMn])) only [eX1_init_58, eX1_init_60, eX1_init_63, eX1_init_64, eX1_init_67, eX1_init_68, eX1_init_71, eX1_init_72, eX1_init_75, eX1_init_76, eX1_init_79, eX1_init_82, Int.cast_ofNat_Int, Nat.reduceLT, Nat.reduceLeDiff, Nat.reduceEqDiff, Nat.reduceAdd, Nat.reduceMul, Int.reduceLE, Int.reduceLT, Int.reduceEq, not_false_iff, nlr, Nat.zero_add, Nat.add_zero, e10f, e01f, eq_self, true_and, and_true, false_and, and_false, and_self, decide_true, decide_false, mm_bd_i, mm_bd_v, if_true, if_false, not_true_eq_false, not_false_eq_true, nI_1, Bool.true_eq_false, Bool.false_eq_true, bI_0, n_le0, n_0lt, n_lt0, n_0le, n_eq0, n_eqm, n_eq1, n_le1, n_1lt, n_1le, n_lt1, nn_le, nI_ltI, nI_eq, nI_clamp, nI_add, pk_mul, i_eq0, i_eqm, i_0le, i_le0, i_0lt, i_lt0, i_mle, i_ltm, ii_le, iI_lt, iI_eq, ni_le, ni_lt, ni_eq, in_le, in_lt, in_eq, ni_add, in_add, ni_sub, in_sub, ni_mul, in_mul, iI_add, iI_sub, iI_mul, i_p1, iI_neg, n_neg, hi, f0, mm_nO, df, s]
    rfl
theorem mkH (d q : Nat) (g : Nat → Nat ⊕ (Nat × Nat)) (F : Nat → Nat → Value) (I : Nat → Nat → Int32) (L : Nat → Nat → Int64) (hg : g 3 = .inl 1) (hI : ∀ x, 4 ≤ x → I x = fun _ => 0) (hL : ∀ x, 4 ≤ x → L x = fun _ => 0) : mm_E (d + 2) mX1_init 0 [.ref 3, uu] [] ((4, q, g), F, I, L) = some (none, ((57, hQ q 8, hG g 8), hF F 8, I, L)) := by
  have l := mkH_l d q g F I L hg hI hL 0 (by omega)
  have hr : mm_zO (4, q, g) 3 1 := ⟨hg, by dsimp only; omega, by omega⟩
  have p := fun F' => mkP (d + 1) (q + 8 + mm_nf 5) 6 5 (va_up (va_up g 4 (.inr (3, 8))) 5 (.inl 5)) F' I L (zO_new (by omega)) (fun x hx => hI x (by omega)) (fun x hx => hL x (by omega))
  have a := fun F' => mkA' (d + 1) (q + 8 + mm_nf 5 + 10 + mm_nf 4) 8 7 (va_up (iPg 6 (va_up (va_up g 4 (.inr (3, 8))) 5 (.inl 5))) 7 (.inl 4)) F' I L (zO_new (by omega)) (fun x hx => hI x (by omega)) (fun x hx => hL x (by omega))
  rw [← l]
  simp (disch := first | assumption | omega | decide | exact zO_new (by omega) | (refine zO_x hr (by omega) ?_; intro x hx; simp (disch := omega) only [vu_n, gPn, gSn, gMn])) only [eX1_init_0, eX1_init_1, eX1_init_4, eX1_init_5, eX1_init_7, eX1_init_10, eX1_init_13, eX1_init_14, eX1_init_17, eX1_init_18, eX1_init_21, eX1_init_24, eX1_init_25, eX1_init_28, eX1_init_29, eX1_init_32, eX1_init_35, eX1_init_36, eX1_init_37, eX1_init_40, eX1_init_41, eX1_init_42, eX1_init_45, eX1_init_46, eX1_init_47, eX1_init_50, eX1_init_51, eX1_init_52, eX1_init_55, eX1_init_56, Int.cast_ofNat_Int, Nat.reduceLT, Nat.reduceLeDiff, Nat.reduceEqDiff, Nat.reduceAdd, Nat.reduceMul, Int.reduceLE, Int.reduceLT, Int.reduceEq, not_false_iff, nlr, Nat.zero_add, Nat.add_zero, e10f, e01f, eq_self, true_and, and_true, false_and, and_false, and_self, decide_true, decide_false, mm_bd_i, mm_bd_v, if_true, if_false, not_true_eq_false, not_false_eq_true, nI_1, Bool.true_eq_false, Bool.false_eq_true, bI_0, n_le0, n_0lt, n_lt0, n_0le, n_eq0, n_eqm, n_eq1, n_le1, n_1lt, n_1le, n_lt1, nn_le, nI_ltI, nI_eq, nI_clamp, nI_add, pk_mul, i_eq0, i_eqm, i_0le, i_le0, i_0lt, i_lt0, i_mle, i_ltm, ii_le, iI_lt, iI_eq, ni_le, ni_lt, ni_eq, in_le, in_lt, in_eq, ni_add, in_add, ni_sub, in_sub, ni_mul, in_mul, iI_add, iI_sub, iI_mul, i_p1, iI_neg, n_neg, mm_nA, mm_nO, nI_clamp, vuI hI, vuL hL, nM_I hI hL, p, a]
  rfl
