/-! THE SMALL MACHINE IS SOUND -/
theorem mm_S_inv {M : mm_M} {pc : Nat} {ls st : List Value} {H : mm_H} {o : mm_O} (h : mm_S M pc ls st H = some o) : ∃ ins len, decode M.2.2.1 pc = .ok (ins, len) ∧ (mm_len ins = 0 ∨ len = mm_len ins) ∧ mm_st M pc ls st H ins = some o := by
  unfold mm_S at h
  split at h
  · rename_i ins len hd
    split at h
    · rename_i hl
      exact ⟨ins, len, hd, hl, h⟩
    · cases h
  · cases h
theorem mm_iret_inv {M : mm_M} {st : List Value} {H : mm_H} {o : mm_O} (h : mm_iret M st H = some o) : ∃ v, st = [.int v] ∧ o = .inr (.inr (some (.int v), H)) ∧ (M.2.2.2.2.1 = some .int ∨ (M.2.2.2.2.1 = some .boolean ∧ (v = 0 ∨ v = 1))) := by
  unfold mm_iret at h
  split at h
  · rename_i v hr
    cases h
    exact ⟨v, rfl, rfl, Or.inl hr⟩
  · rename_i v hr
    split at h
    · rename_i hv
      cases h
      exact ⟨v, rfl, rfl, Or.inr ⟨hr, hv⟩⟩
    · cases h
  · cases h
theorem mm_lret_inv {M : mm_M} {st : List Value} {H : mm_H} {o : mm_O} (h : mm_lret M st H = some o) : ∃ v, st = [.long v] ∧ o = .inr (.inr (some (.long v), H)) ∧ M.2.2.2.2.1 = some .long := by
  unfold mm_lret at h
  split at h
  · rename_i v hr
    cases h
    exact ⟨v, rfl, rfl, hr⟩
  · cases h
theorem mm_aret_inv {M : mm_M} {st : List Value} {H : mm_H} {o : mm_O} (h : mm_aret M st H = some o) : ∃ C, M.2.2.2.2.1 = some (.object C) ∧ ((∃ v, st = [.ref v] ∧ o = .inr (.inr (some (.ref v), H))) ∨ (st = [.null] ∧ o = .inr (.inr (some .null, H)))) := by
  unfold mm_aret at h
  split at h
  · rename_i C v hr
    cases h
    exact ⟨C, hr, Or.inl ⟨v, rfl, rfl⟩⟩
  · rename_i C hr
    cases h
    exact ⟨C, hr, Or.inr ⟨rfl, rfl⟩⟩
  · cases h
theorem mm_vret_inv {M : mm_M} {st : List Value} {H : mm_H} {o : mm_O} (h : mm_vret M st H = some o) : st = [] ∧ o = .inr (.inr (none, H)) ∧ M.2.2.2.2.1 = none := by
  unfold mm_vret at h
  split at h
  · rename_i hr
    cases h
    exact ⟨rfl, rfl, hr⟩
  · cases h
theorem mm_ret_same {M : mm_M} {pc : Nat} {ls st : List Value} {H : mm_H} {ins : Instr} {r : Option Value × mm_H} (h : mm_st M pc ls st H ins = some (.inr (.inr r))) : r.2 = H := by
  rcases mm_st_inr h with rfl | rfl | rfl | rfl | ⟨i, rfl⟩ | ⟨i, rfl⟩ | ⟨i, rfl⟩
  · obtain ⟨v, -, ho, -⟩ := mm_iret_inv h
    cases ho; rfl
  · obtain ⟨v, -, ho, -⟩ := mm_lret_inv h
    cases ho; rfl
  · obtain ⟨C, -, ⟨v, -, ho⟩ | ⟨-, ho⟩⟩ := mm_aret_inv h <;> (cases ho; rfl)
  · obtain ⟨-, ho, -⟩ := mm_vret_inv h
    cases ho; rfl
  · obtain ⟨_, _, _, _, _, _, _, _, _, h⟩ := mm_cv_inv (ls := ls) (pc := pc) h
    cases h
  · rcases mm_cs_inv (ls := ls) (pc := pc) h with ⟨_, _, h⟩ | ⟨_, _, _, _, _, _, _, _, h⟩
    · obtain ⟨_, _, _, _, _, _, _, _, _, _, _, _, _, _, h⟩ := mm_copy_inv h
      exact absurd h mm_go_nr
    · cases h
  · rcases mm_ci_inv (ls := ls) (pc := pc) h with ⟨_, _, _, _, _, h⟩ | ⟨_, _, _, _, _, _, _, _, _, _, h⟩
    · exact absurd h mm_go_nr
    · cases h
theorem mm_wk_same {As : List Value} {H H1 : mm_H} {v : Option Value} (h : mm_wk As H = some (v, H1)) : H1 = H := by
  unfold mm_wk at h
  split at h
  · split at h
    · split at h
      · split at h
        · cases h; rfl
        · cases h
      · cases h
    · cases h
  · cases h
theorem mm_cr_inv {n dd : Nat} {C : mm_M} {As : List Value} {H H1 : mm_H} {v : Option Value} (h : mm_cr (mm_run n) dd C As H = some (v, H1)) : (C.2.2.2.2.2.2.1 = 3 ∧ mm_wk As H = some (v, H1)) ∨ (¬ C.2.2.2.2.2.2.1 = 3 ∧ ∃ d ll, dd = d + 1 ∧ mm_in C As = some ll ∧ mm_run n d C 0 ll [] H = some (v, H1)) := by
  unfold mm_cr at h
  by_cases h3 : C.2.2.2.2.2.2.1 = 3
  · rw [if_pos h3] at h; exact Or.inl ⟨h3, h⟩
  · rw [if_neg h3] at h
    refine Or.inr ⟨h3, ?_⟩
    cases dd with
    | zero => cases h
    | succ d =>
      cases hi : mm_in C As with
      | none => rw [hi] at h; cases h
      | some ll => rw [hi] at h; exact ⟨d, ll, rfl, rfl, h⟩
theorem mm_run_ex : ∀ (n dd : Nat) (M : mm_M) (pc : Nat) (ls st : List Value) (H : mm_H) (r : Option Value × mm_H), mm_run n dd M pc ls st H = some r → 2 ≤ H.1.1 → mm_ex H r.2 := by
  intro n
  induction n with
  | zero => intro dd M pc ls st H r h; cases h
  | succ n ih =>
    intro dd M pc ls st H r h h2
    rw [mm_run_nx] at h
    match hq : mm_S M pc ls st H with
    | none => rw [hq] at h; cases h
    | some (.inl (pc', ls', st', H')) =>
      rw [hq] at h
      obtain ⟨ins, len, hd, hl, hst⟩ := mm_S_inv hq
      have e1 := mm_st_ex hst h2
      exact mm_ex_trans e1 (ih dd M pc' ls' st' H' r h (Nat.le_trans h2 e1.1))
    | some (.inr (.inr x)) =>
      rw [hq] at h
      obtain ⟨ins, len, hd, hl, hst⟩ := mm_S_inv hq
      cases h
      rw [mm_ret_same hst]
      exact mm_ex_rfl H
    | some (.inr (.inl (C, As, st'))) =>
      rw [hq] at h
      simp only [mm_nx] at h
      cases hc : mm_cr (mm_run n) dd C As H with
      | none => rw [hc] at h; cases h
      | some x =>
        obtain ⟨v, H1⟩ := x
        rw [hc] at h
        have e1 : mm_ex H H1 := by
          rcases mm_cr_inv hc with ⟨-, hw⟩ | ⟨-, d, ll, -, -, hr⟩
          · rw [mm_wk_same hw]; exact mm_ex_rfl H
          · exact ih d C 0 ll [] H (v, H1) hr h2
        exact mm_ex_trans e1 (ih dd M (pc + 3) ls (v.toList ++ st') H1 r h (Nat.le_trans h2 e1.1))
/-- the contract of wordKind, that reads texts -/
def mm_wdOK (l : Launch) : Prop := ∀ (D : va_G) (aC : Nat → ClassId) (ad : Nat → Nat) (As : List Value) (H : mm_H) (v : Option Value) (H1 : mm_H) (sz : Nat), mm_wk As H = some (v, H1) → mm_Mt l D aC mX8_wordKind ad As H v H1 11 (64 * 11) sz
def mm_SND (l : Launch) (n : Nat) : Prop := ∀ (dd : Nat) (M : mm_M) (pc : Nat) (ls st : List Value) (H : mm_H) (r : Option Value × mm_H), mm_run n dd M pc ls st H = some r → 2 ≤ H.1.1 →
  ∀ (p : Program) (e : Env) (R : Room) (s : State) (m : MethodId) (args : Array Value) (below : List Frame) (meth : Method) (c : Code) (D : va_G) (aC : Nat → ClassId) (A : Nat → Prop) (ad0 : Nat → Nat) (n0 s0 : Nat) (Q : State → Prop), mm_cx D aC A M p R s m args meth c dd → (∀ pc ls st H, mm_S M pc ls st H = some (.inr (.inr r)) → mm_Wp p l e R s m args below meth c D aC A ad0 n0 s0 M Q pc ls st H) → (r.2.1.1 - n0 ≤ R.cells ∧ r.2.1.2.1 - s0 ≤ R.slots) → mm_Wp p l e R s m args below meth c D aC A ad0 n0 s0 M Q pc ls st H
section MP
variable {p : Program} {l : Launch} {e : Env} {R : Room} {s : State} {m : MethodId} {args : Array Value} {below : List Frame} {meth : Method} {c : Code} {D : va_G} {aC : Nat → ClassId} {A : Nat → Prop} {ad0 : Nat → Nat} {n0 s0 dd : Nat} {M : mm_M} {Q : State → Prop}
variable {pc : Nat} {ls st : List Value} {H H0 : mm_H}
/-- a return, of a method under contract -/
theorem mm_ret_ok {r : Option Value × mm_H} (X : mm_cx D aC (va_A (mm_ws aC ad0 H0) s.heap.size) M p R s m args meth c dd) (h : mm_S M pc ls st H = some (.inr (.inr r))) : mm_Wp p l e R s m args below meth c D aC (va_A (mm_ws aC ad0 H0) s.heap.size) ad0 H0.1.1 H0.1.2.1 M (MQ below (mm_Qc D aC ad0 H0 r.1 r.2) args s (r.2.1.1 - H0.1.1) (r.2.1.2.1 - H0.1.2.1) (va_A (mm_ws aC ad0 H0) s.heap.size)) pc ls st H := by
  obtain ⟨ins, len, hd, hl, h⟩ := mm_S_inv h
  obtain ⟨hx, hb, hml, hrt, hown, hts, hlk, hin, hK, hNs, hA, hAO, hR⟩ := X
  rcases mm_st_inr h with rfl | rfl | rfl | rfl | ⟨i, rfl⟩ | ⟨i, rfl⟩ | ⟨i, rfl⟩
  · have e9 : len = 1 := hl.resolve_left (fun q => absurd (show (1 : Nat) = 0 from q) (by decide))
    subst e9
    obtain ⟨v, rfl, ho, ht⟩ := mm_iret_inv h
    cases ho
    intro ad Hp locs rl hH hL hs
    rcases ht with ht | ⟨ht, hv⟩
    · exact W.iret (v := v) hx hb (hrt.trans ht) (fun t ht hW => ⟨ad, hH.1, rfl, by rw [ht]; exact hH.2.2.1, hH.2.2.2.1, hH.2.2.2.2.2.1, ⟨trivial, trivial⟩, hH.2.2.2.2.1.F ht⟩) hH.2.2.2.2.1.2.2 hd hlk
    · exact W.zret (v := v) (ty := .boolean) hx hb (hrt.trans ht) (by rcases hv with rfl | rfl <;> rfl) (fun t ht hW => ⟨ad, hH.1, rfl, by rw [ht]; exact hH.2.2.1, hH.2.2.2.1, hH.2.2.2.2.2.1, ⟨trivial, trivial⟩, hH.2.2.2.2.1.F ht⟩) hH.2.2.2.2.1.2.2 hd hlk
  · have e9 : len = 1 := hl.resolve_left (fun q => absurd (show (1 : Nat) = 0 from q) (by decide))
    subst e9
    obtain ⟨v, rfl, ho, ht⟩ := mm_lret_inv h
    cases ho
    intro ad Hp locs rl hH hL hs
    exact W.lret (v := v) hx hb (hrt.trans ht) (fun t ht hW => ⟨ad, hH.1, rfl, by rw [ht]; exact hH.2.2.1, hH.2.2.2.1, hH.2.2.2.2.2.1, ⟨trivial, trivial⟩, hH.2.2.2.2.1.F ht⟩) hH.2.2.2.2.1.2.2 hd hlk
  · have e9 : len = 1 := hl.resolve_left (fun q => absurd (show (1 : Nat) = 0 from q) (by decide))
    subst e9
    obtain ⟨C, ht, ⟨v, rfl, ho⟩ | ⟨rfl, ho⟩⟩ := mm_aret_inv h
    · cases ho
      intro ad Hp locs rl hH hL hs
      exact W.aret (v := .ref (ad v)) (rt := .object C) hx hb (hrt.trans ht) (Or.inl ⟨C, rfl⟩) (Or.inr ⟨_, rfl⟩) (fun t ht hW => ⟨ad, hH.1, rfl, by rw [ht]; exact hH.2.2.1, hH.2.2.2.1, hH.2.2.2.2.2.1, ⟨hs.1, trivial⟩, hH.2.2.2.2.1.F ht⟩) hH.2.2.2.2.1.2.2 hd hlk
    · cases ho
      intro ad Hp locs rl hH hL hs
      exact W.aret (v := .null) (rt := .object C) hx hb (hrt.trans ht) (Or.inl ⟨C, rfl⟩) (Or.inl rfl) (fun t ht hW => ⟨ad, hH.1, rfl, by rw [ht]; exact hH.2.2.1, hH.2.2.2.1, hH.2.2.2.2.2.1, ⟨trivial, trivial⟩, hH.2.2.2.2.1.F ht⟩) hH.2.2.2.2.1.2.2 hd hlk
  · have e9 : len = 1 := hl.resolve_left (fun q => absurd (show (1 : Nat) = 0 from q) (by decide))
    subst e9
    obtain ⟨rfl, ho, ht⟩ := mm_vret_inv h
    cases ho
    intro ad Hp locs rl hH hL hs
    exact W.vret hx hb (hrt.trans ht) (fun t ht hW => ⟨ad, hH.1, rfl, by rw [ht]; exact hH.2.2.1, hH.2.2.2.1, hH.2.2.2.2.2.1, trivial, hH.2.2.2.2.1.F ht⟩) hH.2.2.2.2.1.2.2 hd hlk
  · obtain ⟨_, _, _, _, _, _, _, _, _, h⟩ := mm_cv_inv (ls := ls) (pc := pc) h
    cases h
  · rcases mm_cs_inv (ls := ls) (pc := pc) h with ⟨_, _, h⟩ | ⟨_, _, _, _, _, _, _, _, h⟩
    · obtain ⟨_, _, _, _, _, _, _, _, _, _, _, _, _, _, h⟩ := mm_copy_inv h
      exact absurd h mm_go_nr
    · cases h
  · rcases mm_ci_inv (ls := ls) (pc := pc) h with ⟨_, _, _, _, _, h⟩ | ⟨_, _, _, _, _, _, _, _, _, _, h⟩
    · exact absurd h mm_go_nr
    · cases h
/-- a method's contract out of its run -/
theorem mm_met {n d : Nat} (hS : mm_SND l n) {C : mm_M} {As ll : List Value} {v : Option Value} {H1 : mm_H} (hr : mm_run n d C 0 ll [] H = some (v, H1)) (hi : mm_in C As = some ll) (hm : mm_mok C) (h15 : ¬ C.1 = 15) (h2 : 2 ≤ H.1.1) (hs : mm_so H.1.1 As) (D : va_G) (aC : Nat → ClassId) (ad : Nat → Nat) (sz : Nat) : mm_Mt l D aC C ad As H v H1 (d + 12) (64 * (d + 12)) sz := by
  obtain ⟨w1, w2, w3, w4, w5, w6, w7, ⟨w8, w9, w10⟩, w11⟩ := mm_mok_spec hm
  refine Met.ofW (cc := C.2.2.1) (maxL := C.2.2.2.1) (ret := C.2.2.2.2.1) (w7.resolve_left h15) rfl ?_
  intro p e s m args below meth c s₁ B hml hv
  obtain ⟨rfl, hsz, hP, hK, hD, hNs, hAO, hho, hsc⟩ := hv
  subst hsz
  have hts := atoms_spec (ws := (Cond.code C.2.1 C.2.2.1 C.2.2.2.1 C.2.2.2.2.1 :: mm_gd)) B.pre
  have hown : s.vm.findClass C.2.1.cls = some m.cls := findClass_of_methodNamed B.named
  rw [w5] at hown
  have X : mm_cx D aC (va_A (mm_ws aC ad H) s.heap.size) C p (headSpec (Cond.code C.2.1 C.2.2.1 C.2.2.2.1 C.2.2.2.2.1 :: mm_gd) { frames := d + 12, cells := H1.1.1 - H.1.1, slots := H1.1.2.1 - H.1.2.1, locals := 64 * (d + 12) }).room s m (As.map (mm_tv ad)).toArray meth c d := ⟨B.exec, B.bytes, hml, B.returns, hown, fun w hw => hts w (List.mem_cons_of_mem _ hw), B.notSynchronized, fun hk => (name_of_methodNamed B.named B.method).1.trans (w6 hk), hK, hNs, fun q hq => Or.inr hq, hAO, ⟨Nat.le_refl _, Nat.le_refl _⟩⟩
  have k := hS d C 0 ll [] H (v, H1) hr h2 p e _ s m (As.map (mm_tv ad)).toArray below meth c D aC (va_A (mm_ws aC ad H) s.heap.size) ad H.1.1 H.1.2.1 (MQ below (mm_Qc D aC ad H v H1) (As.map (mm_tv ad)).toArray s (H1.1.1 - H.1.1) (H1.1.2.1 - H.1.2.1) (va_A (mm_ws aC ad H) s.heap.size)) X (fun pc ls st H' h => mm_ret_ok X h) ⟨Nat.le_refl _, Nat.le_refl _⟩
  rw [lg_entry_eq]
  have kk := k ad s.heap [] _ ⟨fun _ _ => rfl, ⟨Nat.le_refl _, Nat.le_refl _⟩, hP, hD.self, va_S.rf, hho, hsc⟩ (mm_in_rel hi hs) trivial
  rw [Nat.sub_self, Nat.sub_self] at kk
  exact kk
end MP
