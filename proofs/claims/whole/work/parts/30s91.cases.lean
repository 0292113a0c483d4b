/-! by cases on the instruction: by wip/whole/gen5.py -/
theorem mm_nM_ex {H : mm_H} {t N K : Nat} (h2 : 1 < H.1.1) : mm_ex H (mm_nM H t N K) := by
  refine ⟨by show H.1.1 ≤ H.1.1 + 1 + N; omega, by show H.1.2.1 ≤ H.1.2.1 + N + N * K; omega, ?_, ?_⟩
  · show (if 1 = H.1.1 then _ else if _ then _ else _) = _
    rw [if_neg (by omega), if_neg (by omega)]
  · show (if _ then _ else _) = _
    rw [if_neg (by omega)]
theorem mm_nr_i {M : mm_M} {st : List Value} {H : mm_H} {x : Nat × List Value × List Value × mm_H} : ¬ mm_iret M st H = some (.inl x) := by
  unfold mm_iret
  intro h
  split at h
  · cases h
  · split at h <;> cases h
  · cases h
theorem mm_nr_l {M : mm_M} {st : List Value} {H : mm_H} {x : Nat × List Value × List Value × mm_H} : ¬ mm_lret M st H = some (.inl x) := by
  unfold mm_lret
  intro h
  split at h <;> cases h
theorem mm_nr_a {M : mm_M} {st : List Value} {H : mm_H} {x : Nat × List Value × List Value × mm_H} : ¬ mm_aret M st H = some (.inl x) := by
  unfold mm_aret
  intro h
  split at h <;> cases h
theorem mm_nr_v {M : mm_M} {st : List Value} {H : mm_H} {x : Nat × List Value × List Value × mm_H} : ¬ mm_vret M st H = some (.inl x) := by
  unfold mm_vret
  intro h
  split at h <;> cases h
set_option maxHeartbeats 4000000 in
theorem mm_st_ex {M : mm_M} {pc pc' : Nat} {ls st ls' st' : List Value} {H H' : mm_H} {ins : Instr} (h : mm_st M pc ls st H ins = some (.inl (pc', ls', st', H'))) (h0 : 2 ≤ H.1.1) : mm_ex H H' := by
  have h2 : 1 < H.1.1 := h0
  cases ins with
  | iconst n =>
      obtain ⟨-, -, -, rfl⟩ := mm_inj2 h; exact mm_ex_rfl _
  | bipush n =>
      obtain ⟨-, -, -, rfl⟩ := mm_inj2 h; exact mm_ex_rfl _
  | sipush n =>
      obtain ⟨-, -, -, rfl⟩ := mm_inj2 h; exact mm_ex_rfl _
  | lconst n =>
      obtain ⟨-, -, -, rfl⟩ := mm_inj2 h; exact mm_ex_rfl _
  | aconst_null =>
      obtain ⟨-, -, -, rfl⟩ := mm_inj2 h; exact mm_ex_rfl _
  | ldc i =>
      simp only [mm_st] at h; split at h; · obtain ⟨-, -, -, rfl⟩ := mm_inj2 h; exact mm_ex_rfl _
      · cases h
  | ldc_w i =>
      simp only [mm_st] at h; split at h; · obtain ⟨-, -, -, rfl⟩ := mm_inj2 h; exact mm_ex_rfl _
      · cases h
  | ldc2_w i =>
      simp only [mm_st] at h; split at h; · obtain ⟨-, -, -, rfl⟩ := mm_inj2 h; exact mm_ex_rfl _
      · cases h
  | iload_n i =>
      obtain ⟨_, _, h⟩ := mm_ldI_inv h; obtain ⟨-, -, -, rfl⟩ := mm_inj2 h; exact mm_ex_rfl _
  | iload i =>
      obtain ⟨_, _, h⟩ := mm_ldI_inv h; obtain ⟨-, -, -, rfl⟩ := mm_inj2 h; exact mm_ex_rfl _
  | lload_n i =>
      obtain ⟨_, _, h⟩ := mm_ldL_inv h; obtain ⟨-, -, -, rfl⟩ := mm_inj2 h; exact mm_ex_rfl _
  | lload i =>
      obtain ⟨_, _, h⟩ := mm_ldL_inv h; obtain ⟨-, -, -, rfl⟩ := mm_inj2 h; exact mm_ex_rfl _
  | aload_n i =>
      rcases mm_ldA_inv h with ⟨_, _, h⟩ | ⟨_, h⟩ <;> (obtain ⟨-, -, -, rfl⟩ := mm_inj2 h; exact mm_ex_rfl _)
  | aload i =>
      rcases mm_ldA_inv h with ⟨_, _, h⟩ | ⟨_, h⟩ <;> (obtain ⟨-, -, -, rfl⟩ := mm_inj2 h; exact mm_ex_rfl _)
  | istore_n i =>
      obtain ⟨_, _, _, _, h⟩ := mm_stI_inv h; obtain ⟨-, -, -, rfl⟩ := mm_inj2 h; exact mm_ex_rfl _
  | istore i =>
      obtain ⟨_, _, _, _, h⟩ := mm_stI_inv h; obtain ⟨-, -, -, rfl⟩ := mm_inj2 h; exact mm_ex_rfl _
  | astore_n i =>
      rcases mm_stA_inv h with ⟨_, _, _, _, h⟩ | ⟨_, _, _, h⟩ <;> (obtain ⟨-, -, -, rfl⟩ := mm_inj2 h; exact mm_ex_rfl _)
  | astore i =>
      rcases mm_stA_inv h with ⟨_, _, _, _, h⟩ | ⟨_, _, _, h⟩ <;> (obtain ⟨-, -, -, rfl⟩ := mm_inj2 h; exact mm_ex_rfl _)
  | lstore_n i =>
      obtain ⟨_, _, _, _, h⟩ := mm_stL_inv h; obtain ⟨-, -, -, rfl⟩ := mm_inj2 h; exact mm_ex_rfl _
  | lstore i =>
      obtain ⟨_, _, _, _, h⟩ := mm_stL_inv h; obtain ⟨-, -, -, rfl⟩ := mm_inj2 h; exact mm_ex_rfl _
  | iinc i n =>
      obtain ⟨_, _, _, h⟩ := mm_iinc_inv h; obtain ⟨-, -, -, rfl⟩ := mm_inj2 h; exact mm_ex_rfl _
  | iadd =>
      obtain ⟨_, _, _, _, h⟩ := mm_bI_inv h; obtain ⟨-, -, -, rfl⟩ := mm_inj2 h; exact mm_ex_rfl _
  | isub =>
      obtain ⟨_, _, _, _, h⟩ := mm_bI_inv h; obtain ⟨-, -, -, rfl⟩ := mm_inj2 h; exact mm_ex_rfl _
  | imul =>
      obtain ⟨_, _, _, _, h⟩ := mm_bI_inv h; obtain ⟨-, -, -, rfl⟩ := mm_inj2 h; exact mm_ex_rfl _
  | iand =>
      obtain ⟨_, _, _, _, h⟩ := mm_bI_inv h; obtain ⟨-, -, -, rfl⟩ := mm_inj2 h; exact mm_ex_rfl _
  | ior =>
      obtain ⟨_, _, _, _, h⟩ := mm_bI_inv h; obtain ⟨-, -, -, rfl⟩ := mm_inj2 h; exact mm_ex_rfl _
  | ishl =>
      obtain ⟨_, _, _, _, h⟩ := mm_bI_inv h; obtain ⟨-, -, -, rfl⟩ := mm_inj2 h; exact mm_ex_rfl _
  | ishr =>
      obtain ⟨_, _, _, _, h⟩ := mm_bI_inv h; obtain ⟨-, -, -, rfl⟩ := mm_inj2 h; exact mm_ex_rfl _
  | iushr =>
      obtain ⟨_, _, _, _, h⟩ := mm_bI_inv h; obtain ⟨-, -, -, rfl⟩ := mm_inj2 h; exact mm_ex_rfl _
  | idiv =>
      obtain ⟨_, _, _, _, _, h⟩ := mm_dI_inv h; obtain ⟨-, -, -, rfl⟩ := mm_inj2 h; exact mm_ex_rfl _
  | irem =>
      obtain ⟨_, _, _, _, _, h⟩ := mm_dI_inv h; obtain ⟨-, -, -, rfl⟩ := mm_inj2 h; exact mm_ex_rfl _
  | ladd =>
      obtain ⟨_, _, _, _, h⟩ := mm_bL_inv h; obtain ⟨-, -, -, rfl⟩ := mm_inj2 h; exact mm_ex_rfl _
  | lsub =>
      obtain ⟨_, _, _, _, h⟩ := mm_bL_inv h; obtain ⟨-, -, -, rfl⟩ := mm_inj2 h; exact mm_ex_rfl _
  | lmul =>
      obtain ⟨_, _, _, _, h⟩ := mm_bL_inv h; obtain ⟨-, -, -, rfl⟩ := mm_inj2 h; exact mm_ex_rfl _
  | land =>
      obtain ⟨_, _, _, _, h⟩ := mm_bL_inv h; obtain ⟨-, -, -, rfl⟩ := mm_inj2 h; exact mm_ex_rfl _
  | lor =>
      obtain ⟨_, _, _, _, h⟩ := mm_bL_inv h; obtain ⟨-, -, -, rfl⟩ := mm_inj2 h; exact mm_ex_rfl _
  | lxor =>
      obtain ⟨_, _, _, _, h⟩ := mm_bL_inv h; obtain ⟨-, -, -, rfl⟩ := mm_inj2 h; exact mm_ex_rfl _
  | lshl =>
      obtain ⟨_, _, _, _, h⟩ := mm_sL_inv h; obtain ⟨-, -, -, rfl⟩ := mm_inj2 h; exact mm_ex_rfl _
  | lshr =>
      obtain ⟨_, _, _, _, h⟩ := mm_sL_inv h; obtain ⟨-, -, -, rfl⟩ := mm_inj2 h; exact mm_ex_rfl _
  | lushr =>
      obtain ⟨_, _, _, _, h⟩ := mm_sL_inv h; obtain ⟨-, -, -, rfl⟩ := mm_inj2 h; exact mm_ex_rfl _
  | ineg =>
      simp only [mm_st] at h; split at h
      · obtain ⟨-, -, -, rfl⟩ := mm_inj2 h; exact mm_ex_rfl _
      · cases h
  | i2l =>
      simp only [mm_st] at h; split at h
      · obtain ⟨-, -, -, rfl⟩ := mm_inj2 h; exact mm_ex_rfl _
      · cases h
  | l2i =>
      simp only [mm_st] at h; split at h
      · obtain ⟨-, -, -, rfl⟩ := mm_inj2 h; exact mm_ex_rfl _
      · cases h
  | lcmp =>
      simp only [mm_st] at h; split at h
      · obtain ⟨-, -, -, rfl⟩ := mm_inj2 h; exact mm_ex_rfl _
      · cases h
  | pop =>
      simp only [mm_st] at h; split at h
      · obtain ⟨-, -, -, rfl⟩ := mm_inj2 h; exact mm_ex_rfl _
      · cases h
  | dup2 =>
      simp only [mm_st] at h; split at h
      · obtain ⟨-, -, -, rfl⟩ := mm_inj2 h; exact mm_ex_rfl _
      · cases h
  | dup =>
      simp only [mm_st] at h; split at h
      · obtain ⟨-, -, -, rfl⟩ := mm_inj2 h; exact mm_ex_rfl _
      · obtain ⟨-, -, -, rfl⟩ := mm_inj2 h; exact mm_ex_rfl _
      · cases h
  | goto off =>
      obtain ⟨_, _, h⟩ := mm_jmp_inv h; obtain ⟨-, -, -, rfl⟩ := mm_inj2 h; exact mm_ex_rfl _
  | ifCond cd off =>
      cases cd <;> rcases mm_j1_inv h with ⟨_, _, _, ⟨_, h⟩ | ⟨_, h⟩⟩ <;> first | (obtain ⟨-, -, -, rfl⟩ := mm_inj2 h; exact mm_ex_rfl _) | (obtain ⟨_, _, h⟩ := mm_jmp_inv h; obtain ⟨-, -, -, rfl⟩ := mm_inj2 h; exact mm_ex_rfl _)
  | if_icmp cd off =>
      cases cd <;> rcases mm_j2_inv h with ⟨_, _, _, _, ⟨_, h⟩ | ⟨_, h⟩⟩ <;> first | (obtain ⟨-, -, -, rfl⟩ := mm_inj2 h; exact mm_ex_rfl _) | (obtain ⟨_, _, h⟩ := mm_jmp_inv h; obtain ⟨-, -, -, rfl⟩ := mm_inj2 h; exact mm_ex_rfl _)
  | ifnull off =>
      simp only [mm_st] at h; split at h
      · obtain ⟨_, _, h⟩ := mm_jmp_inv h; obtain ⟨-, -, -, rfl⟩ := mm_inj2 h; exact mm_ex_rfl _
      · obtain ⟨-, -, -, rfl⟩ := mm_inj2 h; exact mm_ex_rfl _
      · cases h
  | ifnonnull off =>
      simp only [mm_st] at h; split at h
      · obtain ⟨_, _, h⟩ := mm_jmp_inv h; obtain ⟨-, -, -, rfl⟩ := mm_inj2 h; exact mm_ex_rfl _
      · obtain ⟨-, -, -, rfl⟩ := mm_inj2 h; exact mm_ex_rfl _
      · cases h
  | getfield i =>
      obtain ⟨_, _, _, _, _, _, _, h⟩ := mm_get_inv h; obtain ⟨-, -, -, rfl⟩ := mm_inj2 h; exact mm_ex_rfl _
  | putfield i =>
      obtain ⟨_, _, _, _, _, _, _, _, _, _, h⟩ := mm_put_inv h; obtain ⟨-, -, -, rfl⟩ := mm_inj2 h; exact ⟨Nat.le_refl _, Nat.le_refl _, rfl, rfl⟩
  | iaload =>
      obtain ⟨_, _, _, _, _, _, _, h⟩ := mm_iald_inv h; obtain ⟨-, -, -, rfl⟩ := mm_inj2 h; exact mm_ex_rfl _
  | baload =>
      obtain ⟨_, _, _, _, _, _, _, h⟩ := mm_zald_inv h; obtain ⟨-, -, -, rfl⟩ := mm_inj2 h; exact mm_ex_rfl _
  | laload =>
      obtain ⟨_, _, _, _, _, _, _, h⟩ := mm_lald_inv h; obtain ⟨-, -, -, rfl⟩ := mm_inj2 h; exact mm_ex_rfl _
  | aaload =>
      obtain ⟨_, _, _, _, _, _, _, _, _, _, h⟩ := mm_aald_inv h; obtain ⟨-, -, -, rfl⟩ := mm_inj2 h; exact mm_ex_rfl _
  | iastore =>
      obtain ⟨_, _, _, _, _, _, _, hk, h⟩ := mm_iast_inv h; obtain ⟨-, -, -, rfl⟩ := mm_inj2 h; exact ⟨Nat.le_refl _, Nat.le_refl _, rfl, mm_up2_ne (Nat.ne_of_lt (Nat.lt_of_lt_of_le (by decide : 1 < 2) hk.2.2))⟩
  | bastore =>
      obtain ⟨_, _, _, _, _, _, _, hk, _, h⟩ := mm_zast_inv h; obtain ⟨-, -, -, rfl⟩ := mm_inj2 h; exact ⟨Nat.le_refl _, Nat.le_refl _, rfl, mm_up2_ne (Nat.ne_of_lt (Nat.lt_of_lt_of_le (by decide : 1 < 2) hk.2.2))⟩
  | lastore =>
      obtain ⟨_, _, _, _, _, _, _, _, h⟩ := mm_last_inv h; obtain ⟨-, -, -, rfl⟩ := mm_inj2 h; exact ⟨Nat.le_refl _, Nat.le_refl _, rfl, rfl⟩
  | aastore =>
      obtain ⟨_, _, _, _, _, _, _, _, _, h⟩ := mm_aast_inv h; obtain ⟨-, -, -, rfl⟩ := mm_inj2 h; exact ⟨Nat.le_refl _, Nat.le_refl _, rfl, rfl⟩
  | arraylength =>
      obtain ⟨_, _, _, _, _, _, _, h⟩ := mm_alen_inv h; obtain ⟨-, -, -, rfl⟩ := mm_inj2 h; exact mm_ex_rfl _
  | new i =>
      obtain ⟨_, _, h⟩ := mm_new_inv h; obtain ⟨-, -, -, rfl⟩ := mm_inj2 h; exact ⟨Nat.le_succ _, Nat.le_add_right _ _, mm_up_row h2, rfl⟩
  | newarray ty =>
      cases ty with
      | int => obtain ⟨_, _, _, _, _, h⟩ := mm_newa_inv h; obtain ⟨-, -, -, rfl⟩ := mm_inj2 h; exact ⟨Nat.le_succ _, Nat.le_add_right _ _, mm_up_row h2, mm_up_row h2⟩
      | long => obtain ⟨_, _, _, _, _, h⟩ := mm_newa_inv h; obtain ⟨-, -, -, rfl⟩ := mm_inj2 h; exact ⟨Nat.le_succ _, Nat.le_add_right _ _, mm_up_row h2, mm_up_row h2⟩
      | boolean => obtain ⟨_, _, _, _, _, h⟩ := mm_newa_inv h; obtain ⟨-, -, -, rfl⟩ := mm_inj2 h; exact ⟨Nat.le_succ _, Nat.le_add_right _ _, mm_up_row h2, mm_up_row h2⟩
      | _ => cases (show (none : mm_Q) = some (.inl (pc', ls', st', H')) from h)
  | anewarray i =>
      obtain ⟨_, _, _, _, _, _, h⟩ := mm_anew_inv h; obtain ⟨-, -, -, rfl⟩ := mm_inj2 h; exact ⟨Nat.le_succ _, Nat.le_add_right _ _, mm_up_row h2, mm_up_row h2⟩
  | multianewarray i d =>
      obtain ⟨_, _, _, _, _, _, ⟨_, _, h⟩ | ⟨_, _, h⟩⟩ := mm_mnew_inv h <;> (obtain ⟨-, -, -, rfl⟩ := mm_inj2 h; exact mm_nM_ex h2)
  | tableswitch df lo hi offs =>
      simp only [mm_st, mm_tsw] at h; split at h
      · split at h
        · obtain ⟨_, _, h⟩ := mm_jmp_inv h; obtain ⟨-, -, -, rfl⟩ := mm_inj2 h; exact mm_ex_rfl _
        · split at h
          · obtain ⟨_, _, h⟩ := mm_jmp_inv h; obtain ⟨-, -, -, rfl⟩ := mm_inj2 h; exact mm_ex_rfl _
          · cases h
      · cases h
  | lookupswitch df ps =>
      simp only [mm_st, mm_lsw] at h; split at h
      · split at h
        · obtain ⟨_, _, h⟩ := mm_jmp_inv h; obtain ⟨-, -, -, rfl⟩ := mm_inj2 h; exact mm_ex_rfl _
        · cases h
      · cases h
  | invokestatic i =>
      rcases mm_cs_inv (ls := ls) (pc := pc) h with ⟨_, _, h⟩ | ⟨_, _, _, _, _, _, _, _, h⟩
      · obtain ⟨_, _, _, _, _, _, _, _, _, _, _, _, hk, _, h⟩ := mm_copy_inv h
        obtain ⟨-, -, -, rfl⟩ := mm_inj2 h
        refine ⟨Nat.le_refl _, Nat.le_refl _, rfl, ?_⟩
        show va_up H.2.2.1 _ _ 1 = _
        unfold va_up
        rw [if_neg (Nat.ne_of_lt (Nat.lt_of_lt_of_le (by decide : 1 < 2) hk.2.1))]
      · cases h
  | invokespecial i =>
      rcases mm_ci_inv (ls := ls) (pc := pc) h with ⟨_, _, _, _, _, h⟩ | ⟨_, _, _, _, _, _, _, _, _, _, h⟩
      · obtain ⟨-, -, -, rfl⟩ := mm_inj2 h; exact mm_ex_rfl _
      · cases h
  | invokevirtual i =>
      obtain ⟨_, _, _, _, _, _, _, _, _, h⟩ := mm_cv_inv (ls := ls) (pc := pc) h
      cases h
  | ireturn => exact absurd h mm_nr_i
  | lreturn => exact absurd h mm_nr_l
  | areturn => exact absurd h mm_nr_a
  | return_ => exact absurd h mm_nr_v
  | if_acmp cd off => cases (show (none : mm_Q) = some (.inl (pc', ls', st', H')) from h)
  | _ => cases (show (none : mm_Q) = some (.inl (pc', ls', st', H')) from h)
section MP
variable {p : Program} {l : Launch} {e : Env} {R : Room} {s : State} {m : MethodId} {args : Array Value} {below : List Frame} {meth : Method} {c : Code} {D : va_G} {aC : Nat → ClassId} {A : Nat → Prop} {ad0 : Nat → Nat} {n0 s0 dd : Nat} {M : mm_M} {Q : State → Prop}
variable {pc pc' : Nat} {ls st ls' st' : List Value} {H H' : mm_H}
set_option maxHeartbeats 4000000 in
theorem mm_step {ins : Instr} {len : Nat} (X : mm_cx D aC A M p R s m args meth c dd) (hd : decode M.2.2.1 pc = .ok (ins, len)) (hl : mm_len ins = 0 ∨ len = mm_len ins) (h : mm_st M pc ls st H ins = some (.inl (pc', ls', st', H'))) (k : mm_Wp p l e R s m args below meth c D aC A ad0 n0 s0 M Q pc' ls' st' H') (hRc : H'.1.1 - n0 ≤ R.cells ∧ H'.1.2.1 - s0 ≤ R.slots) : mm_Wp p l e R s m args below meth c D aC A ad0 n0 s0 M Q pc ls st H := by
  cases ins with
  | iconst n => have e : len = 1 := hl.resolve_left (fun q => absurd (show (1 : Nat) = 0 from q) (by decide)); subst e; exact mm_p_iconst X hd h k
  | bipush n => have e : len = 2 := hl.resolve_left (fun q => absurd (show (2 : Nat) = 0 from q) (by decide)); subst e; exact mm_p_bipush X hd h k
  | sipush n => have e : len = 3 := hl.resolve_left (fun q => absurd (show (3 : Nat) = 0 from q) (by decide)); subst e; exact mm_p_sipush X hd h k
  | lconst n => have e : len = 1 := hl.resolve_left (fun q => absurd (show (1 : Nat) = 0 from q) (by decide)); subst e; exact mm_p_lconst X hd h k
  | aconst_null => have e : len = 1 := hl.resolve_left (fun q => absurd (show (1 : Nat) = 0 from q) (by decide)); subst e; exact mm_p_aconst_null X hd h k
  | ldc i => have e : len = 2 := hl.resolve_left (fun q => absurd (show (2 : Nat) = 0 from q) (by decide)); subst e; exact mm_p_ldc X hd h k
  | ldc_w i => have e : len = 3 := hl.resolve_left (fun q => absurd (show (3 : Nat) = 0 from q) (by decide)); subst e; exact mm_p_ldc_w X hd h k
  | ldc2_w i => have e : len = 3 := hl.resolve_left (fun q => absurd (show (3 : Nat) = 0 from q) (by decide)); subst e; exact mm_p_ldc2_w X hd h k
  | iload_n i => have e : len = 1 := hl.resolve_left (fun q => absurd (show (1 : Nat) = 0 from q) (by decide)); subst e; exact mm_p_iload_n X hd h k
  | iload i => have e : len = 2 := hl.resolve_left (fun q => absurd (show (2 : Nat) = 0 from q) (by decide)); subst e; exact mm_p_iload X hd h k
  | lload_n i => have e : len = 1 := hl.resolve_left (fun q => absurd (show (1 : Nat) = 0 from q) (by decide)); subst e; exact mm_p_lload_n X hd h k
  | lload i => have e : len = 2 := hl.resolve_left (fun q => absurd (show (2 : Nat) = 0 from q) (by decide)); subst e; exact mm_p_lload X hd h k
  | aload_n i => have e : len = 1 := hl.resolve_left (fun q => absurd (show (1 : Nat) = 0 from q) (by decide)); subst e; exact mm_p_aload_n X hd h k
  | aload i => have e : len = 2 := hl.resolve_left (fun q => absurd (show (2 : Nat) = 0 from q) (by decide)); subst e; exact mm_p_aload X hd h k
  | istore_n i => have e : len = 1 := hl.resolve_left (fun q => absurd (show (1 : Nat) = 0 from q) (by decide)); subst e; exact mm_p_istore_n X hd h k
  | istore i => have e : len = 2 := hl.resolve_left (fun q => absurd (show (2 : Nat) = 0 from q) (by decide)); subst e; exact mm_p_istore X hd h k
  | astore_n i => have e : len = 1 := hl.resolve_left (fun q => absurd (show (1 : Nat) = 0 from q) (by decide)); subst e; exact mm_p_astore_n X hd h k
  | astore i => have e : len = 2 := hl.resolve_left (fun q => absurd (show (2 : Nat) = 0 from q) (by decide)); subst e; exact mm_p_astore X hd h k
  | lstore_n i => have e : len = 1 := hl.resolve_left (fun q => absurd (show (1 : Nat) = 0 from q) (by decide)); subst e; exact mm_p_lstore_n X hd h k
  | lstore i => have e : len = 2 := hl.resolve_left (fun q => absurd (show (2 : Nat) = 0 from q) (by decide)); subst e; exact mm_p_lstore X hd h k
  | iinc i n => have e : len = 3 := hl.resolve_left (fun q => absurd (show (3 : Nat) = 0 from q) (by decide)); subst e; exact mm_p_iinc X hd h k
  | iadd => have e : len = 1 := hl.resolve_left (fun q => absurd (show (1 : Nat) = 0 from q) (by decide)); subst e; exact mm_p_iadd X hd h k
  | isub => have e : len = 1 := hl.resolve_left (fun q => absurd (show (1 : Nat) = 0 from q) (by decide)); subst e; exact mm_p_isub X hd h k
  | imul => have e : len = 1 := hl.resolve_left (fun q => absurd (show (1 : Nat) = 0 from q) (by decide)); subst e; exact mm_p_imul X hd h k
  | iand => have e : len = 1 := hl.resolve_left (fun q => absurd (show (1 : Nat) = 0 from q) (by decide)); subst e; exact mm_p_iand X hd h k
  | ior => have e : len = 1 := hl.resolve_left (fun q => absurd (show (1 : Nat) = 0 from q) (by decide)); subst e; exact mm_p_ior X hd h k
  | ishl => have e : len = 1 := hl.resolve_left (fun q => absurd (show (1 : Nat) = 0 from q) (by decide)); subst e; exact mm_p_ishl X hd h k
  | ishr => have e : len = 1 := hl.resolve_left (fun q => absurd (show (1 : Nat) = 0 from q) (by decide)); subst e; exact mm_p_ishr X hd h k
  | iushr => have e : len = 1 := hl.resolve_left (fun q => absurd (show (1 : Nat) = 0 from q) (by decide)); subst e; exact mm_p_iushr X hd h k
  | idiv => have e : len = 1 := hl.resolve_left (fun q => absurd (show (1 : Nat) = 0 from q) (by decide)); subst e; exact mm_p_idiv X hd h k
  | irem => have e : len = 1 := hl.resolve_left (fun q => absurd (show (1 : Nat) = 0 from q) (by decide)); subst e; exact mm_p_irem X hd h k
  | ladd => have e : len = 1 := hl.resolve_left (fun q => absurd (show (1 : Nat) = 0 from q) (by decide)); subst e; exact mm_p_ladd X hd h k
  | lsub => have e : len = 1 := hl.resolve_left (fun q => absurd (show (1 : Nat) = 0 from q) (by decide)); subst e; exact mm_p_lsub X hd h k
  | lmul => have e : len = 1 := hl.resolve_left (fun q => absurd (show (1 : Nat) = 0 from q) (by decide)); subst e; exact mm_p_lmul X hd h k
  | land => have e : len = 1 := hl.resolve_left (fun q => absurd (show (1 : Nat) = 0 from q) (by decide)); subst e; exact mm_p_land X hd h k
  | lor => have e : len = 1 := hl.resolve_left (fun q => absurd (show (1 : Nat) = 0 from q) (by decide)); subst e; exact mm_p_lor X hd h k
  | lxor => have e : len = 1 := hl.resolve_left (fun q => absurd (show (1 : Nat) = 0 from q) (by decide)); subst e; exact mm_p_lxor X hd h k
  | lshl => have e : len = 1 := hl.resolve_left (fun q => absurd (show (1 : Nat) = 0 from q) (by decide)); subst e; exact mm_p_lshl X hd h k
  | lshr => have e : len = 1 := hl.resolve_left (fun q => absurd (show (1 : Nat) = 0 from q) (by decide)); subst e; exact mm_p_lshr X hd h k
  | lushr => have e : len = 1 := hl.resolve_left (fun q => absurd (show (1 : Nat) = 0 from q) (by decide)); subst e; exact mm_p_lushr X hd h k
  | ineg => have e : len = 1 := hl.resolve_left (fun q => absurd (show (1 : Nat) = 0 from q) (by decide)); subst e; exact mm_p_ineg X hd h k
  | i2l => have e : len = 1 := hl.resolve_left (fun q => absurd (show (1 : Nat) = 0 from q) (by decide)); subst e; exact mm_p_i2l X hd h k
  | l2i => have e : len = 1 := hl.resolve_left (fun q => absurd (show (1 : Nat) = 0 from q) (by decide)); subst e; exact mm_p_l2i X hd h k
  | lcmp => have e : len = 1 := hl.resolve_left (fun q => absurd (show (1 : Nat) = 0 from q) (by decide)); subst e; exact mm_p_lcmp X hd h k
  | pop => have e : len = 1 := hl.resolve_left (fun q => absurd (show (1 : Nat) = 0 from q) (by decide)); subst e; exact mm_p_pop X hd h k
  | dup2 => have e : len = 1 := hl.resolve_left (fun q => absurd (show (1 : Nat) = 0 from q) (by decide)); subst e; exact mm_p_dup2 X hd h k
  | dup => have e : len = 1 := hl.resolve_left (fun q => absurd (show (1 : Nat) = 0 from q) (by decide)); subst e; exact mm_p_dup X hd h k
  | goto off => have e : len = 3 := hl.resolve_left (fun q => absurd (show (3 : Nat) = 0 from q) (by decide)); subst e; exact mm_p_goto X hd h k
  | ifCond cd off =>
    have e : len = 3 := hl.resolve_left (fun q => absurd (show (3 : Nat) = 0 from q) (by decide)); subst e; cases cd with
    | eq => exact mm_p_if_eq X hd h k
    | ne => exact mm_p_if_ne X hd h k
    | lt => exact mm_p_if_lt X hd h k
    | ge => exact mm_p_if_ge X hd h k
    | gt => exact mm_p_if_gt X hd h k
    | le => exact mm_p_if_le X hd h k
  | if_icmp cd off =>
    have e : len = 3 := hl.resolve_left (fun q => absurd (show (3 : Nat) = 0 from q) (by decide)); subst e; cases cd with
    | eq => exact mm_p_icmp_eq X hd h k
    | ne => exact mm_p_icmp_ne X hd h k
    | lt => exact mm_p_icmp_lt X hd h k
    | ge => exact mm_p_icmp_ge X hd h k
    | gt => exact mm_p_icmp_gt X hd h k
    | le => exact mm_p_icmp_le X hd h k
  | ifnull off => have e : len = 3 := hl.resolve_left (fun q => absurd (show (3 : Nat) = 0 from q) (by decide)); subst e; exact mm_p_ifnull X hd h k
  | ifnonnull off => have e : len = 3 := hl.resolve_left (fun q => absurd (show (3 : Nat) = 0 from q) (by decide)); subst e; exact mm_p_ifnonnull X hd h k
  | getfield i => have e : len = 3 := hl.resolve_left (fun q => absurd (show (3 : Nat) = 0 from q) (by decide)); subst e; exact mm_p_getfield X hd h k
  | putfield i => have e : len = 3 := hl.resolve_left (fun q => absurd (show (3 : Nat) = 0 from q) (by decide)); subst e; exact mm_p_putfield X hd h k
  | iaload => have e : len = 1 := hl.resolve_left (fun q => absurd (show (1 : Nat) = 0 from q) (by decide)); subst e; exact mm_p_iaload X hd h k
  | baload => have e : len = 1 := hl.resolve_left (fun q => absurd (show (1 : Nat) = 0 from q) (by decide)); subst e; exact mm_p_baload X hd h k
  | laload => have e : len = 1 := hl.resolve_left (fun q => absurd (show (1 : Nat) = 0 from q) (by decide)); subst e; exact mm_p_laload X hd h k
  | aaload => have e : len = 1 := hl.resolve_left (fun q => absurd (show (1 : Nat) = 0 from q) (by decide)); subst e; exact mm_p_aaload X hd h k
  | iastore => have e : len = 1 := hl.resolve_left (fun q => absurd (show (1 : Nat) = 0 from q) (by decide)); subst e; exact mm_p_iastore X hd h k
  | bastore => have e : len = 1 := hl.resolve_left (fun q => absurd (show (1 : Nat) = 0 from q) (by decide)); subst e; exact mm_p_bastore X hd h k
  | lastore => have e : len = 1 := hl.resolve_left (fun q => absurd (show (1 : Nat) = 0 from q) (by decide)); subst e; exact mm_p_lastore X hd h k
  | aastore => have e : len = 1 := hl.resolve_left (fun q => absurd (show (1 : Nat) = 0 from q) (by decide)); subst e; exact mm_p_aastore X hd h k
  | arraylength => have e : len = 1 := hl.resolve_left (fun q => absurd (show (1 : Nat) = 0 from q) (by decide)); subst e; exact mm_p_arraylength X hd h k
  | new i => have e : len = 3 := hl.resolve_left (fun q => absurd (show (3 : Nat) = 0 from q) (by decide)); subst e; exact mm_p_new X hd h k hRc
  | newarray ty =>
    have e : len = 2 := hl.resolve_left (fun q => absurd (show (2 : Nat) = 0 from q) (by decide)); subst e; cases ty with
    | int => exact mm_p_newi X hd h k hRc
    | long => exact mm_p_newl X hd h k hRc
    | boolean => exact mm_p_newz X hd h k hRc
    | _ => cases (show (none : mm_Q) = some (.inl (pc', ls', st', H')) from h)
  | anewarray i => have e : len = 3 := hl.resolve_left (fun q => absurd (show (3 : Nat) = 0 from q) (by decide)); subst e; exact mm_p_anew X hd h k hRc
  | multianewarray i d => have e : len = 4 := hl.resolve_left (fun q => absurd (show (4 : Nat) = 0 from q) (by decide)); subst e; exact mm_p_mnew X hd h k hRc
  | tableswitch df lo hi offs => exact mm_p_tableswitch X hd h k
  | lookupswitch df ps => exact mm_p_lookupswitch X hd h k
  | invokestatic i =>
    have e : len = 3 := hl.resolve_left (fun q => absurd (show (3 : Nat) = 0 from q) (by decide))
    subst e
    rcases mm_cs_inv (ls := ls) (pc := pc) h with ⟨h1, h2, h⟩ | ⟨_, _, _, _, _, _, _, _, h⟩
    · exact mm_p_copy X hd h1 h2 h k
    · cases h
  | invokespecial i =>
    have e : len = 3 := hl.resolve_left (fun q => absurd (show (3 : Nat) = 0 from q) (by decide))
    subst e
    rcases mm_ci_inv (ls := ls) (pc := pc) h with ⟨h1, r, st1, rfl, hc, h⟩ | ⟨_, _, _, _, _, _, _, _, _, _, h⟩
    · obtain ⟨rfl, rfl, rfl, rfl⟩ := mm_inj2 h
      exact mm_p_oi X hd h1 hc k
    · cases h
  | invokevirtual i =>
    obtain ⟨_, _, _, _, _, _, _, _, _, h⟩ := mm_cv_inv (ls := ls) (pc := pc) h
    cases h
  | ireturn => exact absurd h mm_nr_i
  | lreturn => exact absurd h mm_nr_l
  | areturn => exact absurd h mm_nr_a
  | return_ => exact absurd h mm_nr_v
  | _ => cases (show (none : mm_Q) = some (.inl (pc', ls', st', H')) from h)
end MP
