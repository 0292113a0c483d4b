/-! every run of the small machine is a run of the true one -/
theorem mm_nrI {M : mm_M} {st : List Value} {H : mm_H} {x : mm_M × List Value × List Value} : ¬ mm_iret M st H = some (.inr (.inl x)) := by
  intro h
  obtain ⟨v, -, ho, -⟩ := mm_iret_inv h
  cases ho
theorem mm_nrL {M : mm_M} {st : List Value} {H : mm_H} {x : mm_M × List Value × List Value} : ¬ mm_lret M st H = some (.inr (.inl x)) := by
  intro h
  obtain ⟨v, -, ho, -⟩ := mm_lret_inv h
  cases ho
theorem mm_nrA {M : mm_M} {st : List Value} {H : mm_H} {x : mm_M × List Value × List Value} : ¬ mm_aret M st H = some (.inr (.inl x)) := by
  intro h
  obtain ⟨C, -, ⟨v, -, ho⟩ | ⟨-, ho⟩⟩ := mm_aret_inv h <;> cases ho
theorem mm_nrV {M : mm_M} {st : List Value} {H : mm_H} {x : mm_M × List Value × List Value} : ¬ mm_vret M st H = some (.inr (.inl x)) := by
  intro h
  obtain ⟨-, ho, -⟩ := mm_vret_inv h
  cases ho
theorem mm_so_pop {n : Nat} {st As st1 : List Value} (h : st = As.reverse ++ st1) (hs : mm_so n st) : mm_so n As ∧ mm_so n st1 := by
  subst h
  have := mm_so_app.mp hs
  refine ⟨?_, this.2⟩
  have := mm_so_rev this.1
  rw [List.reverse_reverse] at this
  exact this
theorem mm_snd {l : Launch} (hw : mm_wdOK l) : ∀ n, mm_SND l n := by
  intro n
  induction n with
  | zero => intro dd M pc ls st H r h; cases h
  | succ n ih =>
    intro dd M pc ls st H r h h2 p e R s m args below meth c D aC A ad0 n0 s0 Q X hret hRc
    rw [mm_run_nx] at h
    match hq : mm_S M pc ls st H with
    | none => rw [hq] at h; cases h
    | some (.inr (.inr x)) =>
      have hq0 := hq
      rw [hq] at h
      cases h
      exact hret pc ls st H hq0
    | some (.inl (pc', ls', st', H')) =>
      rw [hq] at h
      obtain ⟨ins, len, hd, hl, hst⟩ := mm_S_inv hq
      have e1 := mm_st_ex hst h2
      have h2' : 2 ≤ H'.1.1 := Nat.le_trans h2 e1.1
      have e2 := mm_run_ex n dd M pc' ls' st' H' r h h2'
      have k := ih dd M pc' ls' st' H' r h h2' p e R s m args below meth c D aC A ad0 n0 s0 Q X hret hRc
      exact mm_step X hd hl hst k ⟨Nat.le_trans (Nat.sub_le_sub_right e2.1 _) hRc.1, Nat.le_trans (Nat.sub_le_sub_right e2.2.1 _) hRc.2⟩
    | some (.inr (.inl (C, As, st1))) =>
      rw [hq] at h
      simp only [mm_nx] at h
      cases hc : mm_cr (mm_run n) dd C As H with
      | none => rw [hc] at h; cases h
      | some x =>
        obtain ⟨v, H1⟩ := x
        rw [hc] at h
        have e1 : mm_ex H H1 := by
          rcases mm_cr_inv hc with ⟨-, hwk⟩ | ⟨-, d, ll, -, -, hr⟩
          · rw [mm_wk_same hwk]; exact mm_ex_rfl H
          · exact mm_run_ex n d C 0 ll [] H (v, H1) hr h2
        have h2' : 2 ≤ H1.1.1 := Nat.le_trans h2 e1.1
        have e2 := mm_run_ex n dd M (pc + 3) ls (v.toList ++ st1) H1 r h h2'
        have hRc1 : H1.1.1 - n0 ≤ R.cells ∧ H1.1.2.1 - s0 ≤ R.slots := ⟨Nat.le_trans (Nat.sub_le_sub_right e2.1 _) hRc.1, Nat.le_trans (Nat.sub_le_sub_right e2.2.1 _) hRc.2⟩
        have k := ih dd M (pc + 3) ls (v.toList ++ st1) H1 r h h2' p e R s m args below meth c D aC A ad0 n0 s0 Q X hret hRc
        obtain ⟨ins, len, hd, hl, hst⟩ := mm_S_inv hq
        have hR := X.2.2.2.2.2.2.2.2.2.2.2.2
        rcases mm_st_inr hst with rfl | rfl | rfl | rfl | ⟨i, rfl⟩ | ⟨i, rfl⟩ | ⟨i, rfl⟩
        · exact absurd hst mm_nrI
        · exact absurd hst mm_nrL
        · exact absurd hst mm_nrA
        · exact absurd hst mm_nrV
        · have e9 : len = 3 := hl.resolve_left (fun q => absurd (show (3 : Nat) = 0 from q) (by decide))
          subst e9
          obtain ⟨C', As', q, st2, hf, hk, hp, hO, hcat, ho⟩ := mm_cv_inv (ls := ls) (pc := pc) hst
          cases ho
          obtain ⟨hlk, hmk⟩ := mm_lk_ok hf
          have w11 := (mm_mok_spec hmk).2.2.2.2.2.2.2.2
          intro ad Hp locs rl hH hL hs
          obtain ⟨s1, s2⟩ := mm_so_pop (mm_pop0 hp).1 hs
          rcases mm_cr_inv hc with ⟨h3, hwk⟩ | ⟨h3, d, ll, rfl, hi, hr⟩
          · have eC : C = mX8_wordKind := mm_wone hf h3
            subst eC
            exact mm_p_cv X hd hf hk hp hO hcat (fun ad sz => hw D aC ad _ H v H1 sz hwk) (by omega) (by have : mX8_wordKind.2.2.2.1 = 1 := rfl; rw [this]; omega) e1 hRc1 k ad Hp locs rl hH hL hs
          · have hC : C.1 < 12 := by
              have h9 := hH.2.2.2.2.2.1.2 q hO.2.2 hO.2.1
              unfold mm_co at h9
              rw [hO.1] at h9
              exact h9.1
            exact mm_p_cv X hd hf hk hp hO hcat (fun ad sz => mm_met ih hr hi hmk (by omega) h2 ⟨s2.1, s1⟩ D aC ad sz) (by omega) (by omega) e1 hRc1 k ad Hp locs rl hH hL hs
        · have e9 : len = 3 := hl.resolve_left (fun q => absurd (show (3 : Nat) = 0 from q) (by decide))
          subst e9
          rcases mm_cs_inv (ls := ls) (pc := pc) hst with ⟨_, _, hst⟩ | ⟨nn, C', As', st2, hf, hk, hp, hcat, ho⟩
          · obtain ⟨_, _, _, _, _, _, _, _, _, _, _, _, _, _, hst⟩ := mm_copy_inv hst
            exact absurd hst mm_go_nr
          · cases ho
            obtain ⟨hlk, hmk⟩ := mm_lk_ok hf
            have w11 := (mm_mok_spec hmk).2.2.2.2.2.2.2.2
            intro ad Hp locs rl hH hL hs
            obtain ⟨s1, s2⟩ := mm_so_pop (mm_pop0 hp).1 hs
            rcases mm_cr_inv hc with ⟨h3, hwk⟩ | ⟨h3, d, ll, rfl, hi, hr⟩
            · rw [hk] at h3; cases h3
            · by_cases h15 : C.1 = 15
              · exact mm_p_math X hd hf h15 hk hp hcat hi hr hRc1 k ad Hp locs rl hH hL hs
              · exact mm_p_cs X hd hf hk hp hcat (fun ad sz => mm_met ih hr hi hmk h15 h2 s1 D aC ad sz) (by omega) (by omega) e1 hRc1 k ad Hp locs rl hH hL hs
        · have e9 : len = 3 := hl.resolve_left (fun q => absurd (show (3 : Nat) = 0 from q) (by decide))
          subst e9
          rcases mm_ci_inv (ls := ls) (pc := pc) hst with ⟨_, _, _, _, _, hst⟩ | ⟨nn, C', As', q, st2, hf, hk, hp, hO, hcat, ho⟩
          · exact absurd hst mm_go_nr
          · cases ho
            obtain ⟨hlk, hmk⟩ := mm_lk_ok hf
            have w11 := (mm_mok_spec hmk).2.2.2.2.2.2.2.2
            intro ad Hp locs rl hH hL hs
            obtain ⟨s1, s2⟩ := mm_so_pop (mm_pop0 hp).1 hs
            rcases mm_cr_inv hc with ⟨h3, hwk⟩ | ⟨h3, d, ll, rfl, hi, hr⟩
            · rw [hk] at h3; cases h3
            · have hC : C.1 < 12 := by
                have h9 := hH.2.2.2.2.2.1.2 q hO.2.2 hO.2.1
                unfold mm_co at h9
                rw [hO.1] at h9
                exact h9.1
              exact mm_p_ci X hd hf hk (mm_cnone hf hk) hp hcat (fun ad sz => mm_met ih hr hi hmk (by omega) h2 ⟨s2.1, s1⟩ D aC ad sz) (by omega) (by omega) e1 hRc1 k ad Hp locs rl hH hL hs
