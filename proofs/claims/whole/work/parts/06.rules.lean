/-! an equation a kind of instruction -/
def mm_zO (z : mm_Z) (r c : Nat) : Prop := z.2.2 r = .inl c ∧ r < z.1 ∧ 2 ≤ r
/-- a row's length -/
def mm_zl (z : mm_Z) (r : Nat) : Nat := match z.2.2 r with
  | .inr (_, n) => n
  | .inl _ => 0
/-- a row of type t -/
def mm_zT (z : mm_Z) (r t : Nat) : Prop := z.2.2 r = .inr (t, mm_zl z r) ∧ r < z.1 ∧ 2 ≤ r
/-- the script -/
def mm_zS (z : mm_Z) : Prop := z.2.2 1 = .inr (6, mm_zl z 1)
/-- a reference, or null -/
def mm_rv : Value → Bool
  | .ref _ => true
  | .null => true
  | _ => false
theorem mm_S_of {M : mm_M} {pc : Nat} {ls st : List Value} {H : mm_H} {ins : Instr} {len : Nat} (hd : decode M.2.2.1 pc = .ok (ins, len)) (hl : mm_len ins = 0 ∨ len = mm_len ins) : mm_S M pc ls st H = mm_st M pc ls st H ins := by
  unfold mm_S
  rw [hd]
  exact if_pos hl
theorem mm_jmp_to {pc tgt : Nat} {off : Int} {ls st : List Value} {H : mm_H} (ht : (pc : Int) + off = (tgt : Int)) : mm_jmp pc off ls st H = some (.inl (tgt, ls, st, H)) := by
  unfold mm_jmp
  rw [ht, if_pos (Int.natCast_nonneg tgt)]
  rfl
theorem mm_fitZ {x : Int32} (h : x = 0 ∨ x = 1) : fits .boolean (.int x) = true := by
  rcases h with rfl | rfl <;> rfl
theorem mm_ix_of {i : Int32} {n : Nat} (h : vp_in i n) : mm_ix i n = true := by
  unfold mm_ix
  have h1 : ¬ i < 0 := fun q => h (Or.inl q)
  have h2 : i.toNatClampNeg < n := Nat.not_le.mp fun q => h (Or.inr q)
  simp [h1, h2]
section MR
variable {d : Nat} {M : mm_M} {pc : Nat} {ls ls' st : List Value} {H : mm_H} {z : mm_Z} {F : Nat → Nat → Value} {I : Nat → Nat → Int32} {L : Nat → Nat → Int64}
theorem mm_e_iconst {n : Int} {v : Int32} (hd : decode M.2.2.1 pc = .ok (.iconst n, 1)) (hv : Int32.ofInt n = v) : mm_E d M pc ls st H = mm_E d M (pc + 1) ls (.int v :: st) H := mm_E_go (by rw [mm_S_of hd (Or.inr rfl), ← hv]; rfl)
theorem mm_e_bipush {n : Int} {v : Int32} (hd : decode M.2.2.1 pc = .ok (.bipush n, 2)) (hv : (Int8.ofInt n).toInt32 = v) : mm_E d M pc ls st H = mm_E d M (pc + 2) ls (.int v :: st) H := mm_E_go (by rw [mm_S_of hd (Or.inr rfl), ← hv]; rfl)
theorem mm_e_sipush {n : Int} {v : Int32} (hd : decode M.2.2.1 pc = .ok (.sipush n, 3)) (hv : (Int16.ofInt n).toInt32 = v) : mm_E d M pc ls st H = mm_E d M (pc + 3) ls (.int v :: st) H := mm_E_go (by rw [mm_S_of hd (Or.inr rfl), ← hv]; rfl)
theorem mm_e_lconst {n : Fin 2} {v : Int64} (hd : decode M.2.2.1 pc = .ok (.lconst n, 1)) (hv : Int64.ofNat n.val = v) : mm_E d M pc ls st H = mm_E d M (pc + 1) ls (.long v :: st) H := mm_E_go (by rw [mm_S_of hd (Or.inr rfl), ← hv]; rfl)
theorem mm_e_aconst_null (hd : decode M.2.2.1 pc = .ok (.aconst_null, 1)) : mm_E d M pc ls st H = mm_E d M (pc + 1) ls (.null :: st) H := mm_E_go (by rw [mm_S_of hd (Or.inr rfl)]; rfl)
theorem mm_e_ldc {i : Nat} {v : Int32} (hd : decode M.2.2.1 pc = .ok (.ldc i, 2)) (hv : mm_find (mm_cts M.1) i = some v) : mm_E d M pc ls st H = mm_E d M (pc + 2) ls (.int v :: st) H := mm_E_go (by rw [mm_S_of hd (Or.inr rfl)]; simp only [mm_st]; rw [hv]; rfl)
theorem mm_e_ldc_w {i : Nat} {v : Int32} (hd : decode M.2.2.1 pc = .ok (.ldc_w i, 3)) (hv : mm_find (mm_cts M.1) i = some v) : mm_E d M pc ls st H = mm_E d M (pc + 3) ls (.int v :: st) H := mm_E_go (by rw [mm_S_of hd (Or.inr rfl)]; simp only [mm_st]; rw [hv]; rfl)
theorem mm_e_ldc2_w {i : Nat} {v : Int64} (hd : decode M.2.2.1 pc = .ok (.ldc2_w i, 3)) (hv : mm_find (mm_cls M.1) i = some v) : mm_E d M pc ls st H = mm_E d M (pc + 3) ls (.long v :: st) H := mm_E_go (by rw [mm_S_of hd (Or.inr rfl)]; simp only [mm_st]; rw [hv]; rfl)
theorem mm_e_iload_n {k : Fin 4} {x : Int32} (hd : decode M.2.2.1 pc = .ok (.iload_n k, 1)) (hx : ls[k.val]? = some (.int x)) : mm_E d M pc ls st H = mm_E d M (pc + 1) ls (.int x :: st) H := mm_E_go (by rw [mm_S_of hd (Or.inr rfl)]; simp only [mm_st, mm_ldI]; rw [hx]; rfl)
theorem mm_e_iload {k : Nat} {x : Int32} (hd : decode M.2.2.1 pc = .ok (.iload k, 2)) (hx : ls[k]? = some (.int x)) : mm_E d M pc ls st H = mm_E d M (pc + 2) ls (.int x :: st) H := mm_E_go (by rw [mm_S_of hd (Or.inr rfl)]; simp only [mm_st, mm_ldI]; rw [hx]; rfl)
theorem mm_e_lload_n {k : Fin 4} {x : Int64} (hd : decode M.2.2.1 pc = .ok (.lload_n k, 1)) (hx : ls[k.val]? = some (.long x)) : mm_E d M pc ls st H = mm_E d M (pc + 1) ls (.long x :: st) H := mm_E_go (by rw [mm_S_of hd (Or.inr rfl)]; simp only [mm_st, mm_ldL]; rw [hx]; rfl)
theorem mm_e_lload {k : Nat} {x : Int64} (hd : decode M.2.2.1 pc = .ok (.lload k, 2)) (hx : ls[k]? = some (.long x)) : mm_E d M pc ls st H = mm_E d M (pc + 2) ls (.long x :: st) H := mm_E_go (by rw [mm_S_of hd (Or.inr rfl)]; simp only [mm_st, mm_ldL]; rw [hx]; rfl)
theorem mm_e_aload_n {k : Fin 4} {x : Nat} (hd : decode M.2.2.1 pc = .ok (.aload_n k, 1)) (hx : ls[k.val]? = some (.ref x)) : mm_E d M pc ls st H = mm_E d M (pc + 1) ls (.ref x :: st) H := mm_E_go (by rw [mm_S_of hd (Or.inr rfl)]; simp only [mm_st, mm_ldA]; rw [hx]; rfl)
theorem mm_e_aload {k : Nat} {x : Nat} (hd : decode M.2.2.1 pc = .ok (.aload k, 2)) (hx : ls[k]? = some (.ref x)) : mm_E d M pc ls st H = mm_E d M (pc + 2) ls (.ref x :: st) H := mm_E_go (by rw [mm_S_of hd (Or.inr rfl)]; simp only [mm_st, mm_ldA]; rw [hx]; rfl)
theorem mm_e_aload_nN {k : Fin 4} (hd : decode M.2.2.1 pc = .ok (.aload_n k, 1)) (hx : ls[k.val]? = some .null) : mm_E d M pc ls st H = mm_E d M (pc + 1) ls (.null :: st) H := mm_E_go (by rw [mm_S_of hd (Or.inr rfl)]; simp only [mm_st, mm_ldA]; rw [hx]; rfl)
theorem mm_e_aloadN {k : Nat} (hd : decode M.2.2.1 pc = .ok (.aload k, 2)) (hx : ls[k]? = some .null) : mm_E d M pc ls st H = mm_E d M (pc + 2) ls (.null :: st) H := mm_E_go (by rw [mm_S_of hd (Or.inr rfl)]; simp only [mm_st, mm_ldA]; rw [hx]; rfl)
theorem mm_e_istore_n {k : Fin 4} {x : Int32} (hd : decode M.2.2.1 pc = .ok (.istore_n k, 1)) (ho : mm_ok1 M k.val ls.length = true) (hl : ls.set k.val (.int x) = ls') : mm_E d M pc ls (.int x :: st) H = mm_E d M (pc + 1) ls' st H := mm_E_go (by rw [mm_S_of hd (Or.inr rfl), ← hl]; simp only [mm_st, mm_stI]; rw [if_pos ho]; rfl)
theorem mm_e_istore {k : Nat} {x : Int32} (hd : decode M.2.2.1 pc = .ok (.istore k, 2)) (ho : mm_ok1 M k ls.length = true) (hl : ls.set k (.int x) = ls') : mm_E d M pc ls (.int x :: st) H = mm_E d M (pc + 2) ls' st H := mm_E_go (by rw [mm_S_of hd (Or.inr rfl), ← hl]; simp only [mm_st, mm_stI]; rw [if_pos ho]; rfl)
theorem mm_e_astore_n {k : Fin 4} {x : Nat} (hd : decode M.2.2.1 pc = .ok (.astore_n k, 1)) (ho : mm_ok1 M k.val ls.length = true) (hl : ls.set k.val (.ref x) = ls') : mm_E d M pc ls (.ref x :: st) H = mm_E d M (pc + 1) ls' st H := mm_E_go (by rw [mm_S_of hd (Or.inr rfl), ← hl]; simp only [mm_st, mm_stA]; rw [if_pos ho]; rfl)
theorem mm_e_astore {k : Nat} {x : Nat} (hd : decode M.2.2.1 pc = .ok (.astore k, 2)) (ho : mm_ok1 M k ls.length = true) (hl : ls.set k (.ref x) = ls') : mm_E d M pc ls (.ref x :: st) H = mm_E d M (pc + 2) ls' st H := mm_E_go (by rw [mm_S_of hd (Or.inr rfl), ← hl]; simp only [mm_st, mm_stA]; rw [if_pos ho]; rfl)
theorem mm_e_astore_nN {k : Fin 4} (hd : decode M.2.2.1 pc = .ok (.astore_n k, 1)) (ho : mm_ok1 M k.val ls.length = true) (hl : ls.set k.val .null = ls') : mm_E d M pc ls (.null :: st) H = mm_E d M (pc + 1) ls' st H := mm_E_go (by rw [mm_S_of hd (Or.inr rfl), ← hl]; simp only [mm_st, mm_stA]; rw [if_pos ho]; rfl)
theorem mm_e_astoreN {k : Nat} (hd : decode M.2.2.1 pc = .ok (.astore k, 2)) (ho : mm_ok1 M k ls.length = true) (hl : ls.set k .null = ls') : mm_E d M pc ls (.null :: st) H = mm_E d M (pc + 2) ls' st H := mm_E_go (by rw [mm_S_of hd (Or.inr rfl), ← hl]; simp only [mm_st, mm_stA]; rw [if_pos ho]; rfl)
theorem mm_e_lstore_n {k : Fin 4} {x : Int64} (hd : decode M.2.2.1 pc = .ok (.lstore_n k, 1)) (ho : mm_ok2 M k.val ls.length = true) (hl : (ls.set k.val (.long x)).set (k.val + 1) uu = ls') : mm_E d M pc ls (.long x :: st) H = mm_E d M (pc + 1) ls' st H := mm_E_go (by rw [mm_S_of hd (Or.inr rfl), ← hl]; simp only [mm_st, mm_stL]; rw [if_pos ho]; rfl)
theorem mm_e_lstore {k : Nat} {x : Int64} (hd : decode M.2.2.1 pc = .ok (.lstore k, 2)) (ho : mm_ok2 M k ls.length = true) (hl : (ls.set k (.long x)).set (k + 1) uu = ls') : mm_E d M pc ls (.long x :: st) H = mm_E d M (pc + 2) ls' st H := mm_E_go (by rw [mm_S_of hd (Or.inr rfl), ← hl]; simp only [mm_st, mm_stL]; rw [if_pos ho]; rfl)
theorem mm_e_iinc {i : Nat} {n : Int} {x v : Int32} (hd : decode M.2.2.1 pc = .ok (.iinc i n, 3)) (hv : Int32.ofInt n = v) (hx : ls[i]? = some (.int x)) (ho : mm_ok1 M i ls.length = true) (hl : ls.set i (.int (x + v)) = ls') : mm_E d M pc ls st H = mm_E d M (pc + 3) ls' st H := mm_E_go (by subst hv; rw [mm_S_of hd (Or.inr rfl), ← hl]; simp only [mm_st, mm_iinc]; rw [hx]; simp only []; rw [if_pos ho]; rfl)
theorem mm_e_iadd {x y : Int32} (hd : decode M.2.2.1 pc = .ok (.iadd, 1)) : mm_E d M pc ls (.int y :: .int x :: st) H = mm_E d M (pc + 1) ls (.int (x + y) :: st) H := mm_E_go (by rw [mm_S_of hd (Or.inr rfl)]; rfl)
theorem mm_e_isub {x y : Int32} (hd : decode M.2.2.1 pc = .ok (.isub, 1)) : mm_E d M pc ls (.int y :: .int x :: st) H = mm_E d M (pc + 1) ls (.int (x - y) :: st) H := mm_E_go (by rw [mm_S_of hd (Or.inr rfl)]; rfl)
theorem mm_e_imul {x y : Int32} (hd : decode M.2.2.1 pc = .ok (.imul, 1)) : mm_E d M pc ls (.int y :: .int x :: st) H = mm_E d M (pc + 1) ls (.int (x * y) :: st) H := mm_E_go (by rw [mm_S_of hd (Or.inr rfl)]; rfl)
theorem mm_e_iand {x y : Int32} (hd : decode M.2.2.1 pc = .ok (.iand, 1)) : mm_E d M pc ls (.int y :: .int x :: st) H = mm_E d M (pc + 1) ls (.int (x &&& y) :: st) H := mm_E_go (by rw [mm_S_of hd (Or.inr rfl)]; rfl)
theorem mm_e_ior {x y : Int32} (hd : decode M.2.2.1 pc = .ok (.ior, 1)) : mm_E d M pc ls (.int y :: .int x :: st) H = mm_E d M (pc + 1) ls (.int (x ||| y) :: st) H := mm_E_go (by rw [mm_S_of hd (Or.inr rfl)]; rfl)
theorem mm_e_ishl {x y : Int32} (hd : decode M.2.2.1 pc = .ok (.ishl, 1)) : mm_E d M pc ls (.int y :: .int x :: st) H = mm_E d M (pc + 1) ls (.int (x <<< (y &&& 31)) :: st) H := mm_E_go (by rw [mm_S_of hd (Or.inr rfl)]; rfl)
theorem mm_e_ishr {x y : Int32} (hd : decode M.2.2.1 pc = .ok (.ishr, 1)) : mm_E d M pc ls (.int y :: .int x :: st) H = mm_E d M (pc + 1) ls (.int (x >>> (y &&& 31)) :: st) H := mm_E_go (by rw [mm_S_of hd (Or.inr rfl)]; rfl)
theorem mm_e_iushr {x y : Int32} (hd : decode M.2.2.1 pc = .ok (.iushr, 1)) : mm_E d M pc ls (.int y :: .int x :: st) H = mm_E d M (pc + 1) ls (.int ((x.toUInt32 >>> (y.toUInt32 &&& Int32.toUInt32 31)).toInt32) :: st) H := mm_E_go (by rw [mm_S_of hd (Or.inr rfl)]; rfl)
theorem mm_e_idiv {x y : Int32} (hd : decode M.2.2.1 pc = .ok (.idiv, 1)) (hy : ¬ y = 0) : mm_E d M pc ls (.int y :: .int x :: st) H = mm_E d M (pc + 1) ls (.int (x / y) :: st) H := mm_E_go (by rw [mm_S_of hd (Or.inr rfl)]; simp only [mm_st, mm_dI]; rw [if_neg hy]; rfl)
theorem mm_e_irem {x y : Int32} (hd : decode M.2.2.1 pc = .ok (.irem, 1)) (hy : ¬ y = 0) : mm_E d M pc ls (.int y :: .int x :: st) H = mm_E d M (pc + 1) ls (.int (x - x / y * y) :: st) H := mm_E_go (by rw [mm_S_of hd (Or.inr rfl)]; simp only [mm_st, mm_dI]; rw [if_neg hy]; rfl)
theorem mm_e_ineg {x : Int32} (hd : decode M.2.2.1 pc = .ok (.ineg, 1)) : mm_E d M pc ls (.int x :: st) H = mm_E d M (pc + 1) ls (.int (-x) :: st) H := mm_E_go (by rw [mm_S_of hd (Or.inr rfl)]; rfl)
theorem mm_e_ladd {x y : Int64} (hd : decode M.2.2.1 pc = .ok (.ladd, 1)) : mm_E d M pc ls (.long y :: .long x :: st) H = mm_E d M (pc + 1) ls (.long (x + y) :: st) H := mm_E_go (by rw [mm_S_of hd (Or.inr rfl)]; rfl)
theorem mm_e_lsub {x y : Int64} (hd : decode M.2.2.1 pc = .ok (.lsub, 1)) : mm_E d M pc ls (.long y :: .long x :: st) H = mm_E d M (pc + 1) ls (.long (x - y) :: st) H := mm_E_go (by rw [mm_S_of hd (Or.inr rfl)]; rfl)
theorem mm_e_lmul {x y : Int64} (hd : decode M.2.2.1 pc = .ok (.lmul, 1)) : mm_E d M pc ls (.long y :: .long x :: st) H = mm_E d M (pc + 1) ls (.long (x * y) :: st) H := mm_E_go (by rw [mm_S_of hd (Or.inr rfl)]; rfl)
theorem mm_e_land {x y : Int64} (hd : decode M.2.2.1 pc = .ok (.land, 1)) : mm_E d M pc ls (.long y :: .long x :: st) H = mm_E d M (pc + 1) ls (.long (x &&& y) :: st) H := mm_E_go (by rw [mm_S_of hd (Or.inr rfl)]; rfl)
theorem mm_e_lor {x y : Int64} (hd : decode M.2.2.1 pc = .ok (.lor, 1)) : mm_E d M pc ls (.long y :: .long x :: st) H = mm_E d M (pc + 1) ls (.long (x ||| y) :: st) H := mm_E_go (by rw [mm_S_of hd (Or.inr rfl)]; rfl)
theorem mm_e_lxor {x y : Int64} (hd : decode M.2.2.1 pc = .ok (.lxor, 1)) : mm_E d M pc ls (.long y :: .long x :: st) H = mm_E d M (pc + 1) ls (.long (x ^^^ y) :: st) H := mm_E_go (by rw [mm_S_of hd (Or.inr rfl)]; rfl)
theorem mm_e_lshl {x : Int64} {y : Int32} (hd : decode M.2.2.1 pc = .ok (.lshl, 1)) : mm_E d M pc ls (.int y :: .long x :: st) H = mm_E d M (pc + 1) ls (.long (x <<< (y.toInt64 &&& 63)) :: st) H := mm_E_go (by rw [mm_S_of hd (Or.inr rfl)]; rfl)
theorem mm_e_lshr {x : Int64} {y : Int32} (hd : decode M.2.2.1 pc = .ok (.lshr, 1)) : mm_E d M pc ls (.int y :: .long x :: st) H = mm_E d M (pc + 1) ls (.long (x >>> (y.toInt64 &&& 63)) :: st) H := mm_E_go (by rw [mm_S_of hd (Or.inr rfl)]; rfl)
theorem mm_e_lushr {x : Int64} {y : Int32} (hd : decode M.2.2.1 pc = .ok (.lushr, 1)) : mm_E d M pc ls (.int y :: .long x :: st) H = mm_E d M (pc + 1) ls (.long ((x.toUInt64 >>> (y.toInt64.toUInt64 &&& Int64.toUInt64 63)).toInt64) :: st) H := mm_E_go (by rw [mm_S_of hd (Or.inr rfl)]; rfl)
theorem mm_e_lcmp {x y : Int64} (hd : decode M.2.2.1 pc = .ok (.lcmp, 1)) : mm_E d M pc ls (.long y :: .long x :: st) H = mm_E d M (pc + 1) ls (.int (lg_cmp x y) :: st) H := mm_E_go (by rw [mm_S_of hd (Or.inr rfl)]; rfl)
theorem mm_e_i2l {x : Int32} (hd : decode M.2.2.1 pc = .ok (.i2l, 1)) : mm_E d M pc ls (.int x :: st) H = mm_E d M (pc + 1) ls (.long x.toInt64 :: st) H := mm_E_go (by rw [mm_S_of hd (Or.inr rfl)]; rfl)
theorem mm_e_l2i {x : Int64} (hd : decode M.2.2.1 pc = .ok (.l2i, 1)) : mm_E d M pc ls (.long x :: st) H = mm_E d M (pc + 1) ls (.int x.toInt32 :: st) H := mm_E_go (by rw [mm_S_of hd (Or.inr rfl)]; rfl)
theorem mm_e_dupI {x : Int32} (hd : decode M.2.2.1 pc = .ok (.dup, 1)) : mm_E d M pc ls (.int x :: st) H = mm_E d M (pc + 1) ls (.int x :: .int x :: st) H := mm_E_go (by rw [mm_S_of hd (Or.inr rfl)]; rfl)
theorem mm_e_dupA {x : Nat} (hd : decode M.2.2.1 pc = .ok (.dup, 1)) : mm_E d M pc ls (.ref x :: st) H = mm_E d M (pc + 1) ls (.ref x :: .ref x :: st) H := mm_E_go (by rw [mm_S_of hd (Or.inr rfl)]; rfl)
theorem mm_e_dup2 {x : Int32} {y : Nat} (hd : decode M.2.2.1 pc = .ok (.dup2, 1)) : mm_E d M pc ls (.int x :: .ref y :: st) H = mm_E d M (pc + 1) ls (.int x :: .ref y :: .int x :: .ref y :: st) H := mm_E_go (by rw [mm_S_of hd (Or.inr rfl)]; rfl)
theorem mm_e_pop {x : Int32} (hd : decode M.2.2.1 pc = .ok (.pop, 1)) : mm_E d M pc ls (.int x :: st) H = mm_E d M (pc + 1) ls st H := mm_E_go (by rw [mm_S_of hd (Or.inr rfl)]; rfl)
theorem mm_e_goto {off : Int} {tgt : Nat} (hd : decode M.2.2.1 pc = .ok (.goto off, 3)) (ht : (pc : Int) + off = (tgt : Int)) : mm_E d M pc ls st H = mm_E d M tgt ls st H := mm_E_go (by rw [mm_S_of hd (Or.inr rfl)]; exact mm_jmp_to ht)
theorem mm_e_if_eq {off : Int} {tgt : Nat} {x : Int32} (hd : decode M.2.2.1 pc = .ok (.ifCond .eq off, 3)) (ht : (pc : Int) + off = (tgt : Int)) : mm_E d M pc ls (.int x :: st) H = if x = 0 then mm_E d M tgt ls st H else mm_E d M (pc + 3) ls st H := mm_E_if (by rw [mm_S_of hd (Or.inr rfl)]; simp only [mm_st, mm_j1, mm_jmp_to ht, mm_go])
theorem mm_e_if_ne {off : Int} {tgt : Nat} {x : Int32} (hd : decode M.2.2.1 pc = .ok (.ifCond .ne off, 3)) (ht : (pc : Int) + off = (tgt : Int)) : mm_E d M pc ls (.int x :: st) H = if ¬ x = 0 then mm_E d M tgt ls st H else mm_E d M (pc + 3) ls st H := mm_E_if (by rw [mm_S_of hd (Or.inr rfl)]; simp only [mm_st, mm_j1, mm_jmp_to ht, mm_go])
theorem mm_e_if_lt {off : Int} {tgt : Nat} {x : Int32} (hd : decode M.2.2.1 pc = .ok (.ifCond .lt off, 3)) (ht : (pc : Int) + off = (tgt : Int)) : mm_E d M pc ls (.int x :: st) H = if x < 0 then mm_E d M tgt ls st H else mm_E d M (pc + 3) ls st H := mm_E_if (by rw [mm_S_of hd (Or.inr rfl)]; simp only [mm_st, mm_j1, mm_jmp_to ht, mm_go])
theorem mm_e_if_ge {off : Int} {tgt : Nat} {x : Int32} (hd : decode M.2.2.1 pc = .ok (.ifCond .ge off, 3)) (ht : (pc : Int) + off = (tgt : Int)) : mm_E d M pc ls (.int x :: st) H = if 0 ≤ x then mm_E d M tgt ls st H else mm_E d M (pc + 3) ls st H := mm_E_if (by rw [mm_S_of hd (Or.inr rfl)]; simp only [mm_st, mm_j1, mm_jmp_to ht, mm_go])
theorem mm_e_if_gt {off : Int} {tgt : Nat} {x : Int32} (hd : decode M.2.2.1 pc = .ok (.ifCond .gt off, 3)) (ht : (pc : Int) + off = (tgt : Int)) : mm_E d M pc ls (.int x :: st) H = if 0 < x then mm_E d M tgt ls st H else mm_E d M (pc + 3) ls st H := mm_E_if (by rw [mm_S_of hd (Or.inr rfl)]; simp only [mm_st, mm_j1, mm_jmp_to ht, mm_go])
theorem mm_e_if_le {off : Int} {tgt : Nat} {x : Int32} (hd : decode M.2.2.1 pc = .ok (.ifCond .le off, 3)) (ht : (pc : Int) + off = (tgt : Int)) : mm_E d M pc ls (.int x :: st) H = if x ≤ 0 then mm_E d M tgt ls st H else mm_E d M (pc + 3) ls st H := mm_E_if (by rw [mm_S_of hd (Or.inr rfl)]; simp only [mm_st, mm_j1, mm_jmp_to ht, mm_go])
theorem mm_e_icmp_eq {off : Int} {tgt : Nat} {x y : Int32} (hd : decode M.2.2.1 pc = .ok (.if_icmp .eq off, 3)) (ht : (pc : Int) + off = (tgt : Int)) : mm_E d M pc ls (.int y :: .int x :: st) H = if x = y then mm_E d M tgt ls st H else mm_E d M (pc + 3) ls st H := mm_E_if (by rw [mm_S_of hd (Or.inr rfl)]; simp only [mm_st, mm_j2, mm_jmp_to ht, mm_go])
theorem mm_e_icmp_ne {off : Int} {tgt : Nat} {x y : Int32} (hd : decode M.2.2.1 pc = .ok (.if_icmp .ne off, 3)) (ht : (pc : Int) + off = (tgt : Int)) : mm_E d M pc ls (.int y :: .int x :: st) H = if ¬ x = y then mm_E d M tgt ls st H else mm_E d M (pc + 3) ls st H := mm_E_if (by rw [mm_S_of hd (Or.inr rfl)]; simp only [mm_st, mm_j2, mm_jmp_to ht, mm_go])
theorem mm_e_icmp_lt {off : Int} {tgt : Nat} {x y : Int32} (hd : decode M.2.2.1 pc = .ok (.if_icmp .lt off, 3)) (ht : (pc : Int) + off = (tgt : Int)) : mm_E d M pc ls (.int y :: .int x :: st) H = if x < y then mm_E d M tgt ls st H else mm_E d M (pc + 3) ls st H := mm_E_if (by rw [mm_S_of hd (Or.inr rfl)]; simp only [mm_st, mm_j2, mm_jmp_to ht, mm_go])
theorem mm_e_icmp_ge {off : Int} {tgt : Nat} {x y : Int32} (hd : decode M.2.2.1 pc = .ok (.if_icmp .ge off, 3)) (ht : (pc : Int) + off = (tgt : Int)) : mm_E d M pc ls (.int y :: .int x :: st) H = if y ≤ x then mm_E d M tgt ls st H else mm_E d M (pc + 3) ls st H := mm_E_if (by rw [mm_S_of hd (Or.inr rfl)]; simp only [mm_st, mm_j2, mm_jmp_to ht, mm_go])
theorem mm_e_icmp_gt {off : Int} {tgt : Nat} {x y : Int32} (hd : decode M.2.2.1 pc = .ok (.if_icmp .gt off, 3)) (ht : (pc : Int) + off = (tgt : Int)) : mm_E d M pc ls (.int y :: .int x :: st) H = if y < x then mm_E d M tgt ls st H else mm_E d M (pc + 3) ls st H := mm_E_if (by rw [mm_S_of hd (Or.inr rfl)]; simp only [mm_st, mm_j2, mm_jmp_to ht, mm_go])
theorem mm_e_icmp_le {off : Int} {tgt : Nat} {x y : Int32} (hd : decode M.2.2.1 pc = .ok (.if_icmp .le off, 3)) (ht : (pc : Int) + off = (tgt : Int)) : mm_E d M pc ls (.int y :: .int x :: st) H = if x ≤ y then mm_E d M tgt ls st H else mm_E d M (pc + 3) ls st H := mm_E_if (by rw [mm_S_of hd (Or.inr rfl)]; simp only [mm_st, mm_j2, mm_jmp_to ht, mm_go])
theorem mm_e_ifnull {off : Int} {x : Nat} (hd : decode M.2.2.1 pc = .ok (.ifnull off, 3)) : mm_E d M pc ls (.ref x :: st) H = mm_E d M (pc + 3) ls st H := mm_E_go (by rw [mm_S_of hd (Or.inr rfl)]; rfl)
theorem mm_e_ifnullN {off : Int} {tgt : Nat} (hd : decode M.2.2.1 pc = .ok (.ifnull off, 3)) (ht : (pc : Int) + off = (tgt : Int)) : mm_E d M pc ls (.null :: st) H = mm_E d M tgt ls st H := mm_E_go (by rw [mm_S_of hd (Or.inr rfl)]; exact mm_jmp_to ht)
theorem mm_e_ifnonnull {off : Int} {tgt x : Nat} (hd : decode M.2.2.1 pc = .ok (.ifnonnull off, 3)) (ht : (pc : Int) + off = (tgt : Int)) : mm_E d M pc ls (.ref x :: st) H = mm_E d M tgt ls st H := mm_E_go (by rw [mm_S_of hd (Or.inr rfl)]; exact mm_jmp_to ht)
theorem mm_e_ifnonnullN {off : Int} (hd : decode M.2.2.1 pc = .ok (.ifnonnull off, 3)) : mm_E d M pc ls (.null :: st) H = mm_E d M (pc + 3) ls st H := mm_E_go (by rw [mm_S_of hd (Or.inr rfl)]; rfl)
theorem mm_e_get {i c k r : Nat} (hd : decode M.2.2.1 pc = .ok (.getfield i, 3)) (hf : mm_find (mm_fls M.1) i = some (c, k)) (hk : mm_zO z r c) : mm_E d M pc ls (.ref r :: st) (z, F, I, L) = mm_E d M (pc + 3) ls (F r k :: st) (z, F, I, L) := mm_E_go (by rw [mm_S_of hd (Or.inr rfl)]; simp only [mm_st, mm_get, hf]; rw [if_pos (show mm_isO (z, F, I, L) r c from hk)]; rfl)
theorem mm_e_put {i c k r : Nat} {v : Value} (hd : decode M.2.2.1 pc = .ok (.putfield i, 3)) (hf : mm_find (mm_fls M.1) i = some (c, k)) (hk : mm_zO z r c) (hv : fits (mm_ty c k) v = true) (ho : (mm_T c k).2.2.2 = false ∨ (M.2.2.2.2.2.2.1 = 2 ∧ M.1 = c)) : mm_E d M pc ls (v :: .ref r :: st) (z, F, I, L) = mm_E d M (pc + 3) ls st (z, mm_up2 F r k v, I, L) := mm_E_go (by
  rw [mm_S_of hd (Or.inr rfl)]
  have e : mm_put M i ls (v :: .ref r :: st) (z, F, I, L) pc = some (.inl (pc + 3, ls, st, (z, mm_up2 F r k v, I, L))) := by
    unfold mm_put
    simp only [hf]
    rw [if_pos ⟨hk, hv, ho⟩]
    rfl
  exact e)
theorem mm_e_iald {r : Nat} {i : Int32} (hd : decode M.2.2.1 pc = .ok (.iaload, 1)) (hk : mm_zT z r 0) (hi : vp_in i (mm_zl z r)) : mm_E d M pc ls (.int i :: .ref r :: st) (z, F, I, L) = mm_E d M (pc + 1) ls (.int (I r i.toNatClampNeg) :: st) (z, F, I, L) := mm_E_go (by rw [mm_S_of hd (Or.inr rfl)]; simp only [mm_st, mm_iald, hk.1]; rw [if_pos ⟨mm_ix_of hi, hk.2.1, hk.2.2⟩]; rfl)
theorem mm_e_sald {i : Int32} (hd : decode M.2.2.1 pc = .ok (.iaload, 1)) (hk : mm_zS z) (hi : vp_in i (mm_zl z 1)) : mm_E d M pc ls (.int i :: .ref 1 :: st) (z, F, I, L) = mm_E d M (pc + 1) ls (.int (I 1 i.toNatClampNeg) :: st) (z, F, I, L) := mm_E_go (by rw [mm_S_of hd (Or.inr rfl)]; unfold mm_zS at hk; simp only [mm_st, mm_iald, hk]; rw [if_pos ⟨mm_ix_of hi, trivial⟩]; rfl)
theorem mm_e_zald {r : Nat} {i : Int32} (hd : decode M.2.2.1 pc = .ok (.baload, 1)) (hk : mm_zT z r 2) (hi : vp_in i (mm_zl z r)) : mm_E d M pc ls (.int i :: .ref r :: st) (z, F, I, L) = mm_E d M (pc + 1) ls (.int (I r i.toNatClampNeg) :: st) (z, F, I, L) := mm_E_go (by rw [mm_S_of hd (Or.inr rfl)]; simp only [mm_st, mm_zald, hk.1]; rw [if_pos ⟨mm_ix_of hi, hk.2.1, hk.2.2⟩]; rfl)
theorem mm_e_lald {r : Nat} {i : Int32} (hd : decode M.2.2.1 pc = .ok (.laload, 1)) (hk : mm_zT z r 1) (hi : vp_in i (mm_zl z r)) : mm_E d M pc ls (.int i :: .ref r :: st) (z, F, I, L) = mm_E d M (pc + 1) ls (.long (L r i.toNatClampNeg) :: st) (z, F, I, L) := mm_E_go (by rw [mm_S_of hd (Or.inr rfl)]; simp only [mm_st, mm_lald, hk.1]; rw [if_pos ⟨mm_ix_of hi, hk.2.1, hk.2.2⟩]; rfl)
theorem mm_e_aald {r t : Nat} {i : Int32} (hd : decode M.2.2.1 pc = .ok (.aaload, 1)) (hk : mm_zT z r t) (hi : vp_in i (mm_zl z r)) (ht : 3 ≤ t ∧ t ≤ 5) (hq : mm_rv (F r i.toNatClampNeg) = true) : mm_E d M pc ls (.int i :: .ref r :: st) (z, F, I, L) = mm_E d M (pc + 1) ls (F r i.toNatClampNeg :: st) (z, F, I, L) := mm_E_go (by
  rw [mm_S_of hd (Or.inr rfl)]
  simp only [mm_st, mm_aald, hk.1]
  rw [if_pos ⟨⟨mm_ix_of hi, hk.2.1, hk.2.2⟩, ht⟩]
  cases hv : F r i.toNatClampNeg <;> rw [hv] at hq <;> first | rfl | (cases hq))
theorem mm_e_iast {r : Nat} {i x : Int32} (hd : decode M.2.2.1 pc = .ok (.iastore, 1)) (hk : mm_zT z r 0) (hi : vp_in i (mm_zl z r)) : mm_E d M pc ls (.int x :: .int i :: .ref r :: st) (z, F, I, L) = mm_E d M (pc + 1) ls st (z, F, mm_up2 I r i.toNatClampNeg x, L) := mm_E_go (by rw [mm_S_of hd (Or.inr rfl)]; simp only [mm_st, mm_iast, hk.1]; rw [if_pos ⟨mm_ix_of hi, hk.2.1, hk.2.2⟩]; rfl)
theorem mm_e_zast {r : Nat} {i x : Int32} (hd : decode M.2.2.1 pc = .ok (.bastore, 1)) (hk : mm_zT z r 2) (hi : vp_in i (mm_zl z r)) (hx : x = 0 ∨ x = 1) : mm_E d M pc ls (.int x :: .int i :: .ref r :: st) (z, F, I, L) = mm_E d M (pc + 1) ls st (z, F, mm_up2 I r i.toNatClampNeg x, L) := mm_E_go (by rw [mm_S_of hd (Or.inr rfl)]; simp only [mm_st, mm_zast, hk.1]; rw [if_pos ⟨⟨mm_ix_of hi, hk.2.1, hk.2.2⟩, hx⟩]; rfl)
theorem mm_e_last {r : Nat} {i : Int32} {x : Int64} (hd : decode M.2.2.1 pc = .ok (.lastore, 1)) (hk : mm_zT z r 1) (hi : vp_in i (mm_zl z r)) : mm_E d M pc ls (.long x :: .int i :: .ref r :: st) (z, F, I, L) = mm_E d M (pc + 1) ls st (z, F, I, mm_up2 L r i.toNatClampNeg x) := mm_E_go (by rw [mm_S_of hd (Or.inr rfl)]; simp only [mm_st, mm_last, hk.1]; rw [if_pos ⟨mm_ix_of hi, hk.2.1, hk.2.2⟩]; rfl)
theorem mm_e_aast {r q : Nat} {i : Int32} (hd : decode M.2.2.1 pc = .ok (.aastore, 1)) (hk : mm_zT z r 3) (hi : vp_in i (mm_zl z r)) (hq : mm_zO z q 7) : mm_E d M pc ls (.ref q :: .int i :: .ref r :: st) (z, F, I, L) = mm_E d M (pc + 1) ls st (z, mm_up2 F r i.toNatClampNeg (.ref q), I, L) := mm_E_go (by rw [mm_S_of hd (Or.inr rfl)]; simp only [mm_st, mm_aast, hk.1]; rw [if_pos ⟨⟨mm_ix_of hi, hk.2.1, hk.2.2⟩, hq⟩]; rfl)
theorem mm_e_alen {r : Nat} (hd : decode M.2.2.1 pc = .ok (.arraylength, 1)) (hk : mm_zT z r 0) : mm_E d M pc ls (.ref r :: st) (z, F, I, L) = mm_E d M (pc + 1) ls (.int (nI (mm_zl z r)) :: st) (z, F, I, L) := mm_E_go (by rw [mm_S_of hd (Or.inr rfl)]; simp only [mm_st, mm_alen, hk.1]; rw [if_pos (Or.inl ⟨by decide, hk.2.1, hk.2.2⟩)]; rfl)
theorem mm_e_slen (hd : decode M.2.2.1 pc = .ok (.arraylength, 1)) (hk : mm_zS z) : mm_E d M pc ls (.ref 1 :: st) (z, F, I, L) = mm_E d M (pc + 1) ls (.int (nI (mm_zl z 1)) :: st) (z, F, I, L) := mm_E_go (by rw [mm_S_of hd (Or.inr rfl)]; unfold mm_zS at hk; simp only [mm_st, mm_alen, hk]; rw [if_pos (Or.inr ⟨trivial, trivial⟩)]; rfl)
theorem mm_e_new {i c : Nat} (hd : decode M.2.2.1 pc = .ok (.new i, 3)) (hf : mm_find (mm_nws M.1) i = some c) : mm_E d M pc ls st H = mm_E d M (pc + 3) ls (.ref H.1.1 :: st) (mm_nO H c) := mm_E_go (by rw [mm_S_of hd (Or.inr rfl)]; simp only [mm_st, mm_new, hf]; rfl)
theorem mm_e_newa0 {x : Int32} (hd : decode M.2.2.1 pc = .ok (.newarray .int, 2)) (hx : 0 ≤ x ∧ x.toNatClampNeg ≤ 4096) : mm_E d M pc ls (.int x :: st) H = mm_E d M (pc + 2) ls (.ref H.1.1 :: st) (mm_nA H 0 x.toNatClampNeg) := mm_E_go (by rw [mm_S_of hd (Or.inr rfl)]; simp only [mm_st, mm_newa]; rw [if_pos hx]; rfl)
theorem mm_e_newa1 {x : Int32} (hd : decode M.2.2.1 pc = .ok (.newarray .long, 2)) (hx : 0 ≤ x ∧ x.toNatClampNeg ≤ 4096) : mm_E d M pc ls (.int x :: st) H = mm_E d M (pc + 2) ls (.ref H.1.1 :: st) (mm_nA H 1 x.toNatClampNeg) := mm_E_go (by rw [mm_S_of hd (Or.inr rfl)]; simp only [mm_st, mm_newa]; rw [if_pos hx]; rfl)
theorem mm_e_newa2 {x : Int32} (hd : decode M.2.2.1 pc = .ok (.newarray .boolean, 2)) (hx : 0 ≤ x ∧ x.toNatClampNeg ≤ 4096) : mm_E d M pc ls (.int x :: st) H = mm_E d M (pc + 2) ls (.ref H.1.1 :: st) (mm_nA H 2 x.toNatClampNeg) := mm_E_go (by rw [mm_S_of hd (Or.inr rfl)]; simp only [mm_st, mm_newa]; rw [if_pos hx]; rfl)
theorem mm_e_anew {i : Nat} {x : Int32} (hd : decode M.2.2.1 pc = .ok (.anewarray i, 3)) (h1 : M.1 = 1) (h2 : i = 9) (hx : 0 ≤ x ∧ x.toNatClampNeg ≤ 4096) : mm_E d M pc ls (.int x :: st) H = mm_E d M (pc + 3) ls (.ref H.1.1 :: st) (mm_nA H 3 x.toNatClampNeg) := mm_E_go (by rw [mm_S_of hd (Or.inr rfl)]; simp only [mm_st, mm_anew]; rw [if_pos ⟨hx, h1, h2⟩]; rfl)
theorem mm_e_mnew0 {x y : Int32} (hd : decode M.2.2.1 pc = .ok (.multianewarray 24 2, 4)) (h1 : M.1 = 2) (hx : 0 ≤ x ∧ x.toNatClampNeg ≤ 4096) (hy : 0 ≤ y ∧ y.toNatClampNeg ≤ 4096) : mm_E d M pc ls (.int y :: .int x :: st) H = mm_E d M (pc + 4) ls (.ref H.1.1 :: st) (mm_nM H 0 x.toNatClampNeg y.toNatClampNeg) := mm_E_go (by rw [mm_S_of hd (Or.inr rfl)]; simp only [mm_st, mm_mnew]; rw [if_pos ⟨⟨hx, hy⟩, trivial⟩, if_pos ⟨h1, trivial⟩]; rfl)
theorem mm_e_mnew1 {x y : Int32} (hd : decode M.2.2.1 pc = .ok (.multianewarray 9 2, 4)) (h1 : M.1 = 0) (hx : 0 ≤ x ∧ x.toNatClampNeg ≤ 4096) (hy : 0 ≤ y ∧ y.toNatClampNeg ≤ 4096) : mm_E d M pc ls (.int y :: .int x :: st) H = mm_E d M (pc + 4) ls (.ref H.1.1 :: st) (mm_nM H 1 x.toNatClampNeg y.toNatClampNeg) := mm_E_go (by rw [mm_S_of hd (Or.inr rfl)]; simp only [mm_st, mm_mnew]; rw [if_pos ⟨⟨hx, hy⟩, trivial⟩, if_neg (fun q => by rw [h1] at q; exact absurd q.1 (by decide)), if_pos ⟨h1, trivial⟩]; rfl)
theorem mm_e_cv {C : mm_M} {i r : Nat} {As st0 l : List Value} (hd : decode M.2.2.1 pc = .ok (.invokevirtual i, 3)) (hf : mm_find (mm_lks M.1) i = some (0, C)) (h0 : C.2.2.2.2.2.2.1 = 0) (hp : mm_pop C.2.2.2.2.2.1 [] st0 = some (As, .ref r :: st)) (hk : mm_zO z r C.1) (hc : Nat.ble (mm_cat st) 8 = true) (hi : mm_in C (.ref r :: As) = some l) : mm_E (d + 1) M pc ls st0 (z, F, I, L) = mm_bd (d + 1) M (pc + 3) ls st (mm_E d C 0 l [] (z, F, I, L)) := mm_E_ca (As := .ref r :: As) (by
  rw [mm_S_of hd (Or.inr rfl)]
  have e : mm_cv M i ls st0 (z, F, I, L) pc = mm_cal C (.ref r :: As) st := by
    unfold mm_cv
    simp only [hf]
    rw [if_pos (Or.inl h0), hp]
    simp only []
    rw [if_pos ⟨hk, Nat.le_of_ble_eq_true hc⟩]
  exact e) (by rw [h0]; decide) hi
theorem mm_e_cs {C : mm_M} {i : Nat} {As st0 l : List Value} (hd : decode M.2.2.1 pc = .ok (.invokestatic i, 3)) (hn : ¬ (M.1 = 2 ∧ i = 64)) {nn : Nat} (hf : mm_find (mm_lks M.1) i = some (nn, C)) (h0 : C.2.2.2.2.2.2.1 = 1) (hp : mm_pop C.2.2.2.2.2.1 [] st0 = some (As, st)) (hc : Nat.ble (mm_cat st) 8 = true) (hi : mm_in C As = some l) : mm_E (d + 1) M pc ls st0 (z, F, I, L) = mm_bd (d + 1) M (pc + 3) ls st (mm_E d C 0 l [] (z, F, I, L)) := mm_E_ca (As := As) (by
  rw [mm_S_of hd (Or.inr rfl)]
  have e : mm_cs M i ls st0 (z, F, I, L) pc = mm_cal C As st := by
    unfold mm_cs
    rw [if_neg hn]
    simp only [hf]
    rw [if_pos h0, hp]
    simp only []
    rw [if_pos (Nat.le_of_ble_eq_true hc)]
  exact e) (by rw [h0]; decide) hi
theorem mm_e_ci {C : mm_M} {i r : Nat} {As st0 l : List Value} (hd : decode M.2.2.1 pc = .ok (.invokespecial i, 3)) (hn : mm_oi M.1 i = false) {nn : Nat} (hf : mm_find (mm_lks M.1) i = some (nn, C)) (h0 : C.2.2.2.2.2.2.1 = 2) (hp : mm_pop C.2.2.2.2.2.1 [] st0 = some (As, .ref r :: st)) (hk : mm_zO z r C.1) (hc : Nat.ble (mm_cat st) 8 = true) (hi : mm_in C (.ref r :: As) = some l) : mm_E (d + 1) M pc ls st0 (z, F, I, L) = mm_bd (d + 1) M (pc + 3) ls st (mm_E d C 0 l [] (z, F, I, L)) := mm_E_ca (As := .ref r :: As) (by
  rw [mm_S_of hd (Or.inr rfl)]
  have e : mm_ci M i ls st0 (z, F, I, L) pc = mm_cal C (.ref r :: As) st := by
    unfold mm_ci
    rw [if_neg (by rw [hn]; decide)]
    simp only [hf]
    rw [if_pos h0, hp]
    simp only []
    rw [if_pos ⟨hk, Nat.le_of_ble_eq_true hc⟩]
  exact e) (by rw [h0]; decide) hi
theorem mm_e_cw {C : mm_M} {i r : Nat} {As st0 : List Value} (hd : decode M.2.2.1 pc = .ok (.invokevirtual i, 3)) (hf : mm_find (mm_lks M.1) i = some (0, C)) (h0 : C.2.2.2.2.2.2.1 = 3) (hp : mm_pop C.2.2.2.2.2.1 [] st0 = some (As, .ref r :: st)) (hk : mm_zO z r C.1) (hc : Nat.ble (mm_cat st) 8 = true) : mm_E d M pc ls st0 (z, F, I, L) = mm_bd d M (pc + 3) ls st (mm_wk (.ref r :: As) (z, F, I, L)) := mm_E_cw (As := .ref r :: As) (by
  rw [mm_S_of hd (Or.inr rfl)]
  have e : mm_cv M i ls st0 (z, F, I, L) pc = mm_cal C (.ref r :: As) st := by
    unfold mm_cv
    simp only [hf]
    rw [if_pos (Or.inr h0), hp]
    simp only []
    rw [if_pos ⟨hk, Nat.le_of_ble_eq_true hc⟩]
  exact e) h0
theorem mm_e_oi {i r : Nat} (hd : decode M.2.2.1 pc = .ok (.invokespecial i, 3)) (hn : mm_oi M.1 i = true) (hc : Nat.ble (mm_cat st) 8 = true) : mm_E d M pc ls (.ref r :: st) H = mm_E d M (pc + 3) ls st H := mm_E_go (by
  rw [mm_S_of hd (Or.inr rfl)]
  have e : mm_ci M i ls (.ref r :: st) H pc = some (.inl (pc + 3, ls, st, H)) := by
    unfold mm_ci
    rw [if_pos hn]
    simp only []
    rw [if_pos (Nat.le_of_ble_eq_true hc)]
    rfl
  exact e)
theorem mm_e_copy {i r q : Nat} {x dp sp : Int32} (hd : decode M.2.2.1 pc = .ok (.invokestatic i, 3)) (h1 : M.1 = 2) (h2 : i = 64) (hq : mm_zT z q 0) (hr : mm_zT z r 0) (hx : (0 ≤ sp ∧ 0 ≤ dp ∧ 0 ≤ x) ∧ sp.toNatClampNeg + x.toNatClampNeg ≤ mm_zl z q ∧ dp.toNatClampNeg + x.toNatClampNeg ≤ mm_zl z r) : mm_E d M pc ls [.int x, .int dp, .ref r, .int sp, .ref q] (z, F, I, L) = mm_E d M (pc + 3) ls [] (z, F, va_up I r (va_cpy (I q) (I r) sp.toNatClampNeg dp.toNatClampNeg x.toNatClampNeg), L) := mm_E_go (by
  rw [mm_S_of hd (Or.inr rfl)]
  have e : mm_cs M i ls [.int x, .int dp, .ref r, .int sp, .ref q] (z, F, I, L) pc = some (.inl (pc + 3, ls, [], (z, F, va_up I r (va_cpy (I q) (I r) sp.toNatClampNeg dp.toNatClampNeg x.toNatClampNeg), L))) := by
    unfold mm_cs
    rw [if_pos ⟨h1, h2⟩]
    simp only [mm_copy, hq.1, hr.1]
    rw [if_pos ⟨hx, ⟨hr.2.1, hr.2.2, hq.2.1, hq.2.2⟩, Nat.le_of_ble_eq_true rfl⟩]
    rfl
  exact e)
theorem mm_e_iret {x : Int32} (hd : decode M.2.2.1 pc = .ok (.ireturn, 1)) (hr : M.2.2.2.2.1 = some .int) : mm_E d M pc ls [.int x] H = some (some (.int x), H) := mm_E_rt (by rw [mm_S_of hd (Or.inr rfl)]; simp only [mm_st, mm_iret, hr])
theorem mm_e_zret {x : Int32} (hd : decode M.2.2.1 pc = .ok (.ireturn, 1)) (hr : M.2.2.2.2.1 = some .boolean) (hx : x = 0 ∨ x = 1) : mm_E d M pc ls [.int x] H = some (some (.int x), H) := mm_E_rt (by rw [mm_S_of hd (Or.inr rfl)]; simp only [mm_st, mm_iret, hr]; rw [if_pos hx])
theorem mm_e_lret {x : Int64} (hd : decode M.2.2.1 pc = .ok (.lreturn, 1)) (hr : M.2.2.2.2.1 = some .long) : mm_E d M pc ls [.long x] H = some (some (.long x), H) := mm_E_rt (by rw [mm_S_of hd (Or.inr rfl)]; simp only [mm_st, mm_lret, hr])
theorem mm_e_aret {x : Nat} {C : String} (hd : decode M.2.2.1 pc = .ok (.areturn, 1)) (hr : M.2.2.2.2.1 = some (.object C)) : mm_E d M pc ls [.ref x] H = some (some (.ref x), H) := mm_E_rt (by rw [mm_S_of hd (Or.inr rfl)]; simp only [mm_st, mm_aret, hr])
theorem mm_e_aretN {C : String} (hd : decode M.2.2.1 pc = .ok (.areturn, 1)) (hr : M.2.2.2.2.1 = some (.object C)) : mm_E d M pc ls [.null] H = some (some .null, H) := mm_E_rt (by rw [mm_S_of hd (Or.inr rfl)]; simp only [mm_st, mm_aret, hr])
theorem mm_e_vret (hd : decode M.2.2.1 pc = .ok (.return_, 1)) (hr : M.2.2.2.2.1 = none) : mm_E d M pc ls [] H = some (none, H) := mm_E_rt (by rw [mm_S_of hd (Or.inr rfl)]; simp only [mm_st, mm_vret, hr])
/-- a table's place, by the number -/
def mm_tgt (pc : Nat) (x : Int32) (lo hi : Int) (offs : Array Int) (tgt : Nat) : Bool := decide (¬ (x.toInt < lo ∨ hi < x.toInt)) && decide ((offs[(x.toInt - lo).toNat]?).map (fun o => (pc : Int) + o) = some (tgt : Int))
theorem mm_e_tsw {df lo hi : Int} {offs : Array Int} {len tgt : Nat} {x : Int32} (hd : decode M.2.2.1 pc = .ok (.tableswitch df lo hi offs, len)) (ht : mm_tgt pc x lo hi offs tgt = true) : mm_E d M pc ls (.int x :: st) H = mm_E d M tgt ls st H := mm_E_go (by
  rw [mm_S_of hd (Or.inl rfl)]
  simp only [mm_tgt, Bool.and_eq_true, decide_eq_true_eq] at ht
  simp only [mm_st, mm_tsw]
  rw [if_neg ht.1]
  cases ho : offs[(x.toInt - lo).toNat]? with
  | none => rw [ho] at ht; cases ht.2
  | some off =>
    rw [ho] at ht
    exact mm_jmp_to (Option.some.inj ht.2))
theorem mm_e_tswo {df lo hi : Int} {offs : Array Int} {len tgt : Nat} {x : Int32} (hd : decode M.2.2.1 pc = .ok (.tableswitch df lo hi offs, len)) (hx : x.toInt < lo ∨ hi < x.toInt) (ht : (pc : Int) + df = (tgt : Int)) : mm_E d M pc ls (.int x :: st) H = mm_E d M tgt ls st H := mm_E_go (by
  rw [mm_S_of hd (Or.inl rfl)]
  simp only [mm_st, mm_tsw]
  rw [if_pos hx]
  exact mm_jmp_to ht)
theorem mm_e_lswo {df off : Int} {ps : Array (Int × Int)} {len tgt : Nat} {x : Int32} (hd : decode M.2.2.1 pc = .ok (.lookupswitch df ps, len)) (hp : (ps.toList.zip (ps.toList.drop 1)).all (fun (a, next) => a.1 < next.1) = true) (ho : Op.lookupswitch.offset ps.toList df x.toInt = off) (ht : (pc : Int) + off = (tgt : Int)) : mm_E d M pc ls (.int x :: st) H = mm_E d M tgt ls st H := mm_E_go (by
  rw [mm_S_of hd (Or.inl rfl)]
  simp only [mm_st, mm_lsw]
  rw [if_pos hp, ho]
  exact mm_jmp_to ht)
end MR
