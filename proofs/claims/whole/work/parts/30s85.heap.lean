/-! instructions that look at the heap, or change it -/
theorem mm_inj2 {a a' : Nat} {b c b' c' : List Value} {H H' : mm_H} (h : mm_go a b c H = some (.inl (a', b', c', H'))) : a = a' ∧ b = b' ∧ c = c' ∧ H = H' := by
  have h1 := mm_inj h
  exact ⟨h1.1.symm, h1.2.1.symm, h1.2.2.1.symm, h1.2.2.2.symm⟩
theorem mm_fits_tv (ty : FieldType) (ad : Nat → Nat) (v : Value) : fits ty (mm_tv ad v) = fits ty v := by
  cases v with
  | ref r => cases ty <;> rfl
  | _ => rfl
def mm_tg : FieldType → Bool
  | .int => true
  | .long => true
  | .boolean => true
  | .object _ => true
  | .array _ => true
  | _ => false
theorem mm_nar {ty : FieldType} {v : Value} (ht : mm_tg ty = true) (h : fits ty v = true) : narrow ty v = v := by
  cases ty with
  | boolean =>
    cases v with
    | int x =>
      have hx : x = 0 ∨ x = 1 := by
        simp only [fits, Bool.or_eq_true, beq_iff_eq] at h
        exact h
      rcases hx with rfl | rfl <;> rfl
    | _ => cases h
  | int => rfl
  | long => rfl
  | object C => rfl
  | array t => rfl
  | byte => cases ht
  | char => cases ht
  | short => cases ht
  | float => cases ht
  | double => cases ht
theorem mm_tgs : ∀ c, c < 12 → ∀ k, k < mm_nf c → mm_tg (mm_ty c k) = true := by decide +kernel
theorem mm_get_inv {M : mm_M} {i : Nat} {ls st : List Value} {H : mm_H} {pc : Nat} {o : mm_O} (h : mm_get M i ls st H pc = some o) : ∃ r st' c k, st = .ref r :: st' ∧ mm_find (mm_fls M.1) i = some (c, k) ∧ mm_isO H r c ∧ mm_go (pc + 3) ls (H.2.1 r k :: st') H = some o := by
  unfold mm_get at h
  split at h
  · split at h
    · rename_i c k hf
      split at h
      · rename_i hO; exact ⟨_, _, c, k, rfl, hf, hO, h⟩
      · cases h
    · cases h
  · cases h
theorem mm_put_inv {M : mm_M} {i : Nat} {ls st : List Value} {H : mm_H} {pc : Nat} {o : mm_O} (h : mm_put M i ls st H pc = some o) : ∃ v r st' c k, st = v :: .ref r :: st' ∧ mm_find (mm_fls M.1) i = some (c, k) ∧ mm_isO H r c ∧ fits (mm_ty c k) v = true ∧ ((mm_T c k).2.2.2 = false ∨ (M.2.2.2.2.2.2.1 = 2 ∧ M.1 = c)) ∧ mm_go (pc + 3) ls st' (mm_pF H r k v) = some o := by
  unfold mm_put at h
  split at h
  · rename_i v r st'
    split at h
    · rename_i c k hf
      split at h
      · rename_i hO; exact ⟨_, _, _, c, k, rfl, hf, hO.1, hO.2.1, hO.2.2, h⟩
      · cases h
    · cases h
  · cases h
theorem mm_iald_inv {ls st : List Value} {H : mm_H} {pc : Nat} {o : mm_O} (h : mm_iald ls st H pc = some o) : ∃ i r st' n, st = .int i :: .ref r :: st' ∧ mm_ix i n = true ∧ ((H.1.2.2 r = .inr (0, n) ∧ r < H.1.1 ∧ 2 ≤ r) ∨ (H.1.2.2 r = .inr (6, n) ∧ r = 1)) ∧ mm_go (pc + 1) ls (.int (H.2.2.1 r i.toNatClampNeg) :: st') H = some o := by
  unfold mm_iald at h
  split at h
  · split at h
    · rename_i n hk
      split at h
      · rename_i hO; exact ⟨_, _, _, n, rfl, hO.1, Or.inl ⟨hk, hO.2⟩, h⟩
      · cases h
    · rename_i n hk
      split at h
      · rename_i hO; exact ⟨_, _, _, n, rfl, hO.1, Or.inr ⟨hk, hO.2⟩, h⟩
      · cases h
    · cases h
  · cases h
theorem mm_zald_inv {ls st : List Value} {H : mm_H} {pc : Nat} {o : mm_O} (h : mm_zald ls st H pc = some o) : ∃ i r st' n, st = .int i :: .ref r :: st' ∧ mm_ix i n = true ∧ (H.1.2.2 r = .inr (2, n) ∧ r < H.1.1 ∧ 2 ≤ r) ∧ mm_go (pc + 1) ls (.int (H.2.2.1 r i.toNatClampNeg) :: st') H = some o := by
  unfold mm_zald at h
  split at h
  · split at h
    · rename_i n hk
      split at h
      · rename_i hO; exact ⟨_, _, _, n, rfl, hO.1, ⟨hk, hO.2⟩, h⟩
      · cases h
    · cases h
  · cases h
theorem mm_lald_inv {ls st : List Value} {H : mm_H} {pc : Nat} {o : mm_O} (h : mm_lald ls st H pc = some o) : ∃ i r st' n, st = .int i :: .ref r :: st' ∧ mm_ix i n = true ∧ (H.1.2.2 r = .inr (1, n) ∧ r < H.1.1 ∧ 2 ≤ r) ∧ mm_go (pc + 1) ls (.long (H.2.2.2 r i.toNatClampNeg) :: st') H = some o := by
  unfold mm_lald at h
  split at h
  · split at h
    · rename_i n hk
      split at h
      · rename_i hO; exact ⟨_, _, _, n, rfl, hO.1, ⟨hk, hO.2⟩, h⟩
      · cases h
    · cases h
  · cases h
theorem mm_aald_inv {ls st : List Value} {H : mm_H} {pc : Nat} {o : mm_O} (h : mm_aald ls st H pc = some o) : ∃ i r st' t n, st = .int i :: .ref r :: st' ∧ mm_ix i n = true ∧ (H.1.2.2 r = .inr (t, n) ∧ r < H.1.1 ∧ 2 ≤ r) ∧ (3 ≤ t ∧ t ≤ 5) ∧ ((∃ q, H.2.1 r i.toNatClampNeg = .ref q) ∨ H.2.1 r i.toNatClampNeg = .null) ∧ mm_go (pc + 1) ls (H.2.1 r i.toNatClampNeg :: st') H = some o := by
  unfold mm_aald at h
  split at h
  · split at h
    · rename_i t n hk
      split at h
      · rename_i hO
        split at h
        · rename_i q hq
          exact ⟨_, _, _, t, n, rfl, hO.1.1, ⟨hk, hO.1.2⟩, hO.2, Or.inl ⟨q, hq⟩, by rw [hq]; exact h⟩
        · rename_i hq
          exact ⟨_, _, _, t, n, rfl, hO.1.1, ⟨hk, hO.1.2⟩, hO.2, Or.inr hq, by rw [hq]; exact h⟩
        · cases h
      · cases h
    · cases h
  · cases h
theorem mm_iast_inv {ls st : List Value} {H : mm_H} {pc : Nat} {o : mm_O} (h : mm_iast ls st H pc = some o) : ∃ x i r st' n, st = .int x :: .int i :: .ref r :: st' ∧ mm_ix i n = true ∧ (H.1.2.2 r = .inr (0, n) ∧ r < H.1.1 ∧ 2 ≤ r) ∧ mm_go (pc + 1) ls st' (mm_pI H r i.toNatClampNeg x) = some o := by
  unfold mm_iast at h
  split at h
  · split at h
    · rename_i n hk
      split at h
      · rename_i hO; exact ⟨_, _, _, _, n, rfl, hO.1, ⟨hk, hO.2⟩, h⟩
      · cases h
    · cases h
  · cases h
theorem mm_zast_inv {ls st : List Value} {H : mm_H} {pc : Nat} {o : mm_O} (h : mm_zast ls st H pc = some o) : ∃ x i r st' n, st = .int x :: .int i :: .ref r :: st' ∧ mm_ix i n = true ∧ (H.1.2.2 r = .inr (2, n) ∧ r < H.1.1 ∧ 2 ≤ r) ∧ (x = 0 ∨ x = 1) ∧ mm_go (pc + 1) ls st' (mm_pI H r i.toNatClampNeg x) = some o := by
  unfold mm_zast at h
  split at h
  · split at h
    · rename_i n hk
      split at h
      · rename_i hO; exact ⟨_, _, _, _, n, rfl, hO.1.1, ⟨hk, hO.1.2⟩, hO.2, h⟩
      · cases h
    · cases h
  · cases h
theorem mm_last_inv {ls st : List Value} {H : mm_H} {pc : Nat} {o : mm_O} (h : mm_last ls st H pc = some o) : ∃ x i r st' n, st = .long x :: .int i :: .ref r :: st' ∧ mm_ix i n = true ∧ (H.1.2.2 r = .inr (1, n) ∧ r < H.1.1 ∧ 2 ≤ r) ∧ mm_go (pc + 1) ls st' (mm_pL H r i.toNatClampNeg x) = some o := by
  unfold mm_last at h
  split at h
  · split at h
    · rename_i n hk
      split at h
      · rename_i hO; exact ⟨_, _, _, _, n, rfl, hO.1, ⟨hk, hO.2⟩, h⟩
      · cases h
    · cases h
  · cases h
theorem mm_aast_inv {ls st : List Value} {H : mm_H} {pc : Nat} {o : mm_O} (h : mm_aast ls st H pc = some o) : ∃ q i r st' n, st = .ref q :: .int i :: .ref r :: st' ∧ mm_ix i n = true ∧ (H.1.2.2 r = .inr (3, n) ∧ r < H.1.1 ∧ 2 ≤ r) ∧ mm_isO H q 7 ∧ mm_go (pc + 1) ls st' (mm_pF H r i.toNatClampNeg (.ref q)) = some o := by
  unfold mm_aast at h
  split at h
  · rename_i q i r st'
    split at h
    · rename_i n hk
      split at h
      · rename_i hO; exact ⟨_, _, _, _, n, rfl, hO.1.1, ⟨hk, hO.1.2⟩, hO.2, h⟩
      · cases h
    · cases h
  · cases h
theorem mm_alen_inv {ls st : List Value} {H : mm_H} {pc : Nat} {o : mm_O} (h : mm_alen ls st H pc = some o) : ∃ r st' t n, st = .ref r :: st' ∧ H.1.2.2 r = .inr (t, n) ∧ ((t < 6 ∧ r < H.1.1 ∧ 2 ≤ r) ∨ (t = 6 ∧ r = 1)) ∧ mm_go (pc + 1) ls (.int (Int32.ofNat n) :: st') H = some o := by
  unfold mm_alen at h
  split at h
  · split at h
    · rename_i t n hk
      split at h
      · rename_i hO; exact ⟨_, _, t, n, rfl, hk, hO, h⟩
      · cases h
    · cases h
  · cases h
/-- the same cells, other contents -/
theorem mm_relH_same {D : va_G} {aC : Nat → ClassId} {A : Nat → Prop} {ad0 ad : Nat → Nat} {n0 s0 : Nat} {s : State} {Hp H1 : Heap} {locs locs1 : List Loc} {H H' : mm_H} (hH : mm_relH D aC A ad0 n0 s0 s ad Hp locs H) (h1 : H'.1 = H.1) (hP : va_P D mm_cl (mm_ws aC ad H') H1) (hD : va_D A (mm_ws aC ad H')) (hS : va_S A s.heap H1 locs1) (hI : H'.2.2.1 1 = H.2.2.1 1) (hF : ∀ r k, 2 ≤ r → r < H.1.1 → H'.2.1 r k = H.2.1 r k ∨ mm_vo H.1.1 (H'.2.1 r k)) : mm_relH D aC A ad0 n0 s0 s ad H1 locs1 H' := by
  refine ⟨hH.1, by rw [h1]; exact hH.2.1, hP, hD, hS, ⟨by rw [h1]; exact hH.2.2.2.2.2.1.1, fun r h2 hr => ?_⟩, fun n hn => ?_, hH.2.2.2.2.2.2.2⟩
  · rw [h1] at hr
    have hc := hH.2.2.2.2.2.1.2 r h2 hr
    unfold mm_co at hc ⊢
    rw [h1]
    have hv : ∀ k, mm_vo H.1.1 (H.2.1 r k) → mm_vo H.1.1 (H'.2.1 r k) := fun k hk => by
      rcases hF r k h2 hr with e | e
      · rw [e]; exact hk
      · exact e
    cases hk : H.1.2.2 r with
    | inl x => rw [hk] at hc; exact ⟨hc.1, fun k => hv k (hc.2 k)⟩
    | inr x => rw [hk] at hc; exact ⟨hc.1, fun h3 k => hv k (hc.2 h3 k)⟩
  · rw [h1] at hn
    rw [hI]
    exact hH.2.2.2.2.2.2.1 n hn
theorem mm_up2_vo {F : Nat → Nat → Value} {n r k : Nat} {v : Value} (hv : mm_vo n v) (q j : Nat) : mm_up2 F r k v q j = F q j ∨ mm_vo n (mm_up2 F r k v q j) := by
  unfold mm_up2
  by_cases h : q = r ∧ j = k
  · rw [if_pos h]; exact Or.inr hv
  · rw [if_neg h]; exact Or.inl rfl
theorem mm_ce_a {aC : Nat → ClassId} {ad : Nat → Nat} {H : mm_H} {r t n : Nat} (h : H.1.2.2 r = .inr (t, n)) : mm_ce aC ad H r = .inl (aC t, mm_ac ad H r t n) := by
  unfold mm_ce; rw [h]
theorem mm_ce_o {aC : Nat → ClassId} {ad : Nat → Nat} {H : mm_H} {r c : Nat} (h : H.1.2.2 r = .inl c) : mm_ce aC ad H r = .inr (c, mm_fs ad H r c) := by
  unfold mm_ce; rw [h]
section MP
variable {p : Program} {l : Launch} {e : Env} {R : Room} {s : State} {m : MethodId} {args : Array Value} {below : List Frame} {meth : Method} {c : Code} {D : va_G} {aC : Nat → ClassId} {A : Nat → Prop} {ad0 : Nat → Nat} {n0 s0 dd : Nat} {M : mm_M} {Q : State → Prop}
variable {pc pc' : Nat} {ls st ls' st' : List Value} {H H' : mm_H}
theorem mm_p_getfield {i : Nat} (X : mm_cx D aC A M p R s m args meth c dd) (hd : decode M.2.2.1 pc = .ok (.getfield i, 3)) (h : mm_st M pc ls st H (.getfield i) = some (.inl (pc', ls', st', H'))) (k : mm_Wp p l e R s m args below meth c D aC A ad0 n0 s0 M Q pc' ls' st' H') : mm_Wp p l e R s m args below meth c D aC A ad0 n0 s0 M Q pc ls st H := by
  obtain ⟨r, st1, c0, k0, rfl, hf, hO, h⟩ := mm_get_inv h
  obtain ⟨rfl, rfl, rfl, rfl⟩ := mm_inj2 h
  obtain ⟨hw, hc, hk⟩ := mm_fl_ok hf
  obtain ⟨hcl, hus, hty, hnm, hdc⟩ := mm_cls_ok hc
  obtain ⟨hx, hb, hml, hr, hown, hts, hlk, hin, hK, hNs, hA, hAO, hR⟩ := X
  intro ad Hp locs rl hH hL hs
  have he : (mm_ws aC ad H)[r - 2]? = some (ad r, .inr (c0, mm_fs ad H r c0)) := by rw [mm_ws_get aC ad H hO.2.2 hO.2.1, mm_ce_o hO.1]
  have hv : mm_vo H.1.1 (H.2.1 r k0) := by
    have h9 := hH.2.2.2.2.2.1.2 r hO.2.2 hO.2.1
    unfold mm_co at h9
    rw [hO.1] at h9
    exact h9.2 k0
  exact va_get (D := D) (ci := c0) (v := mm_tv ad (H.2.1 r k0)) (C := mm_nm c0) (T := mm_T c0) (N := mm_nf c0) (ref := (mm_T c0 k0).1) hx hb hts hus hown hK hH.2.2.1 (r - 2) he hcl k0 hk (hts _ hw) (fun _ h9 => h9) (mm_fs_get ad H r c0 hk) hd (k ad Hp locs rl hH hL ⟨hv, hs.2⟩)
theorem mm_p_putfield {i : Nat} (X : mm_cx D aC A M p R s m args meth c dd) (hd : decode M.2.2.1 pc = .ok (.putfield i, 3)) (h : mm_st M pc ls st H (.putfield i) = some (.inl (pc', ls', st', H'))) (k : mm_Wp p l e R s m args below meth c D aC A ad0 n0 s0 M Q pc' ls' st' H') : mm_Wp p l e R s m args below meth c D aC A ad0 n0 s0 M Q pc ls st H := by
  obtain ⟨v, r, st1, c0, k0, rfl, hf, hO, hfit, hfin, h⟩ := mm_put_inv h
  obtain ⟨rfl, rfl, rfl, rfl⟩ := mm_inj2 h
  obtain ⟨hw, hc, hk⟩ := mm_fl_ok hf
  obtain ⟨hcl, hus, hty, hnm, hdc⟩ := mm_cls_ok hc
  obtain ⟨hx, hb, hml, hr, hown, hts, hlk, hin, hK, hNs, hA, hAO, hR⟩ := X
  intro ad Hp locs rl hH hL hs
  have he : (mm_ws aC ad H)[r - 2]? = some (ad r, .inr (c0, mm_fs ad H r c0)) := by rw [mm_ws_get aC ad H hO.2.2 hO.2.1, mm_ce_o hO.1]
  have hft : fits (mm_ty c0 k0) (mm_tv ad v) = true := by rw [mm_fits_tv]; exact hfit
  have hn : narrow (mm_ty c0 k0) (mm_tv ad v) = mm_tv ad v := mm_nar (mm_tgs c0 hc k0 hk) hft
  have hset : (mm_ws aC ad H).set (r - 2) (ad r, .inr (c0, (mm_fs ad H r c0).set k0 (mm_tv ad v))) = mm_ws aC ad (mm_pF H r k0 v) := mm_ws_set hO.2.2 rfl (by rw [mm_ce_o (H := mm_pF H r k0 v) (c := c0) hO.1, mm_fs_set]) (fun q _ hq => mm_ce_pF hq)
  have fin : ∀ (H1 : Heap) (locs1 : List Loc), va_P D mm_cl ((mm_ws aC ad H).set (r - 2) (ad r, .inr (c0, (mm_fs ad H r c0).set k0 (mm_tv ad v)))) H1 → va_D A ((mm_ws aC ad H).set (r - 2) (ad r, .inr (c0, (mm_fs ad H r c0).set k0 (mm_tv ad v)))) → va_S A s.heap H1 locs1 → W p l e R s m args below meth c H1 locs1 (H.1.1 - n0) (H.1.2.1 - s0) Q (F0 m (pc + 3) rl (st1.map (mm_tv ad))) := by
    intro H1 locs1 hP1 hD1 hS1
    rw [hset] at hP1 hD1
    exact k ad H1 locs1 rl (mm_relH_same hH rfl hP1 hD1 hS1 rfl (fun q j _ _ => mm_up2_vo hs.1 q j)) hL hs.2.2
  cases hfi : (mm_T c0 k0).2.2.2 with
  | false =>
    exact va_put (D := D) (ci := c0) (C := mm_nm c0) (T := mm_T c0) (N := mm_nf c0) (ref := (mm_T c0 k0).1) hx hb hts hus (mm_ty c0) hty hnm hown hK hH.2.2.1 hH.2.2.2.1 hH.2.2.2.2.1 (r - 2) he hcl k0 hk (hts _ hw) (fun _ h9 => h9) hfi (hty k0 hk) hn hft (by rw [mm_fs_len]; exact hk) hd fin
  | true =>
    rcases hfin with q | ⟨q1, q2⟩
    · rw [hfi] at q; cases q
    · exact va_putF (D := D) (ci := c0) (C := mm_nm c0) (T := mm_T c0) (N := mm_nf c0) (ref := (mm_T c0 k0).1) hx hb hts hus (mm_ty c0) hty hnm hown hK hH.2.2.1 hH.2.2.2.1 hH.2.2.2.2.1 (r - 2) he hcl k0 hk (hts _ hw) (fun _ h9 => h9) hfi (hin q1) (by rw [hdc k0 hk, q2]) (hty k0 hk) hn hft (by rw [mm_fs_len]; exact hk) hd fin
theorem mm_p_iaload (X : mm_cx D aC A M p R s m args meth c dd) (hd : decode M.2.2.1 pc = .ok (.iaload, 1)) (h : mm_st M pc ls st H .iaload = some (.inl (pc', ls', st', H'))) (k : mm_Wp p l e R s m args below meth c D aC A ad0 n0 s0 M Q pc' ls' st' H') : mm_Wp p l e R s m args below meth c D aC A ad0 n0 s0 M Q pc ls st H := by
  obtain ⟨i, r, st1, n, rfl, hi, hk, h⟩ := mm_iald_inv h
  obtain ⟨rfl, rfl, rfl, rfl⟩ := mm_inj2 h
  obtain ⟨hx, hb, hml, hr, hown, hts, hlk, hin, hK, hNs, hA, hAO, hR⟩ := X
  intro ad Hp locs rl hH hL hs
  rcases hk with ⟨hk, hr1, hr2⟩ | ⟨hk, rfl⟩
  · exact va_iald hx hb hK hH.2.2.1 (r - 2) 0 (by rw [mm_ws_get aC ad H hr2 hr1, mm_ce_a hk]; rfl) rfl (mm_ix_vp hi) hd (k ad Hp locs rl hH hL ⟨trivial, hs.2.2⟩)
  · obtain ⟨hX, hbl, hbA⟩ := hH.2.2.2.2.2.2.1 n hk
    exact va_sld hx hb hX hbl hbA hH.2.2.2.2.1 (mm_ix_vp hi) hd (k ad Hp locs rl hH hL ⟨trivial, hs.2.2⟩)
theorem mm_p_baload (X : mm_cx D aC A M p R s m args meth c dd) (hd : decode M.2.2.1 pc = .ok (.baload, 1)) (h : mm_st M pc ls st H .baload = some (.inl (pc', ls', st', H'))) (k : mm_Wp p l e R s m args below meth c D aC A ad0 n0 s0 M Q pc' ls' st' H') : mm_Wp p l e R s m args below meth c D aC A ad0 n0 s0 M Q pc ls st H := by
  obtain ⟨i, r, st1, n, rfl, hi, ⟨hk, hr1, hr2⟩, h⟩ := mm_zald_inv h
  obtain ⟨rfl, rfl, rfl, rfl⟩ := mm_inj2 h
  obtain ⟨hx, hb, hml, hr, hown, hts, hlk, hin, hK, hNs, hA, hAO, hR⟩ := X
  intro ad Hp locs rl hH hL hs
  exact va_zald hx hb hK hH.2.2.1 (r - 2) 2 (by rw [mm_ws_get aC ad H hr2 hr1, mm_ce_a hk]; rfl) rfl (mm_ix_vp hi) hd (k ad Hp locs rl hH hL ⟨trivial, hs.2.2⟩)
theorem mm_p_laload (X : mm_cx D aC A M p R s m args meth c dd) (hd : decode M.2.2.1 pc = .ok (.laload, 1)) (h : mm_st M pc ls st H .laload = some (.inl (pc', ls', st', H'))) (k : mm_Wp p l e R s m args below meth c D aC A ad0 n0 s0 M Q pc' ls' st' H') : mm_Wp p l e R s m args below meth c D aC A ad0 n0 s0 M Q pc ls st H := by
  obtain ⟨i, r, st1, n, rfl, hi, ⟨hk, hr1, hr2⟩, h⟩ := mm_lald_inv h
  obtain ⟨rfl, rfl, rfl, rfl⟩ := mm_inj2 h
  obtain ⟨hx, hb, hml, hr, hown, hts, hlk, hin, hK, hNs, hA, hAO, hR⟩ := X
  intro ad Hp locs rl hH hL hs
  exact va_lald hx hb hK hH.2.2.1 (r - 2) 1 (by rw [mm_ws_get aC ad H hr2 hr1, mm_ce_a hk]; rfl) rfl (mm_ix_vp hi) hd (k ad Hp locs rl hH hL ⟨trivial, hs.2.2⟩)
/-- a row of references, of any kind -/
theorem mm_aldr {cc : ByteArray} {H : Heap} {locs : List Loc} {cells slots : Nat} {rl : Array Slot} {rest : List Value} {ws : va_W} {tys : List (ClassId × FieldType)} (hexec : p.tables.exec = Jvm.exec) (hb : c.code = cc) (hK : va_K D mm_cl tys s) (hP : va_P D mm_cl ws H) (q0 t0 : Nat) {a : Nat} {cA : ClassId} {ty : FieldType} (href : ty.isReference = true) {n : Nat} {f : Nat → Option Nat} (ha : ws[q0]? = some (a, .inl (cA, n, .inr (.inr (.inr (.inr f)))))) (ht : tys[t0]? = some (cA, ty)) {i : Int32} (hin : vp_in i n) (hdg : decode cc pc = .ok (.aaload, 1))
    (kk : W p l e R s m args below meth c H locs cells slots Q (F0 m (pc + 1) rl (va_rf (f i.toNatClampNeg) :: rest))) : W p l e R s m args below meth c H locs cells slots Q (F0 m pc rl (.int i :: .ref a :: rest)) := by
  have hlt : i.toNatClampNeg < n := Nat.not_le.mp fun q => hin (Or.inr q)
  refine W.aald (v := va_rf (f i.toNatClampNeg)) (ty := ty) hexec hb (hP q0 _ ha) ((hK.2 t0 _ ht).1 n (fun j => va_rf (f j))) href (fun q => by cases q) ?_ ?_ rfl rfl hdg kk
  · show ¬ (i < 0 ∨ (arrV _ _ _).slots.size ≤ _)
    rw [arrV_size]
    exact hin
  · show (arrV _ _ _).slots[_]? = _
    rw [arrV_read _ _ hlt]
theorem mm_rf_tv {ad : Nat → Nat} {v : Value} (h : (∃ q, v = .ref q) ∨ v = .null) : va_rf (mm_rf ad v) = mm_tv ad v := by
  rcases h with ⟨q, rfl⟩ | rfl <;> rfl
theorem mm_p_aaload (X : mm_cx D aC A M p R s m args meth c dd) (hd : decode M.2.2.1 pc = .ok (.aaload, 1)) (h : mm_st M pc ls st H .aaload = some (.inl (pc', ls', st', H'))) (k : mm_Wp p l e R s m args below meth c D aC A ad0 n0 s0 M Q pc' ls' st' H') : mm_Wp p l e R s m args below meth c D aC A ad0 n0 s0 M Q pc ls st H := by
  obtain ⟨i, r, st1, t, n, rfl, hi, ⟨hk, hr1, hr2⟩, ht, hv, h⟩ := mm_aald_inv h
  obtain ⟨rfl, rfl, rfl, rfl⟩ := mm_inj2 h
  obtain ⟨hx, hb, hml, hr, hown, hts, hlk, hin, hK, hNs, hA, hAO, hR⟩ := X
  intro ad Hp locs rl hH hL hs
  have hw : (mm_ws aC ad H)[r - 2]? = some (ad r, .inl (aC t, n, .inr (.inr (.inr (.inr (fun j => mm_rf ad (H.2.1 r j))))))) := by
    rw [mm_ws_get aC ad H hr2 hr1, mm_ce_a hk]
    unfold mm_ac
    rw [if_neg (by omega), if_pos ht.1]
  have hvo : mm_vo H.1.1 (H.2.1 r i.toNatClampNeg) := by
    have h9 := hH.2.2.2.2.2.1.2 r hr2 hr1
    unfold mm_co at h9
    rw [hk] at h9
    exact h9.2 ht.1 _
  have kk := k ad Hp locs rl hH hL ⟨hvo, hs.2.2⟩
  have e1 : mm_tv ad (H.2.1 r i.toNatClampNeg) = va_rf ((fun j => mm_rf ad (H.2.1 r j)) i.toNatClampNeg) := (mm_rf_tv hv).symm
  have kk2 : W p l e R s m args below meth c Hp locs (H.1.1 - n0) (H.1.2.1 - s0) Q (F0 m (pc + 1) rl (va_rf ((fun j => mm_rf ad (H.2.1 r j)) i.toNatClampNeg) :: st1.map (mm_tv ad))) := by rw [← e1]; exact kk
  rcases (show t = 3 ∨ t = 4 ∨ t = 5 by omega) with rfl | rfl | rfl
  · exact mm_aldr (ty := .object RX7) (tys := mm_tys aC) hx hb hK hH.2.2.1 (r - 2) 3 rfl hw rfl (mm_ix_vp hi) hd kk2
  · exact mm_aldr (ty := .array .int) (tys := mm_tys aC) hx hb hK hH.2.2.1 (r - 2) 4 rfl hw rfl (mm_ix_vp hi) hd kk2
  · exact mm_aldr (ty := .array .long) (tys := mm_tys aC) hx hb hK hH.2.2.1 (r - 2) 5 rfl hw rfl (mm_ix_vp hi) hd kk2
theorem mm_p_iastore (X : mm_cx D aC A M p R s m args meth c dd) (hd : decode M.2.2.1 pc = .ok (.iastore, 1)) (h : mm_st M pc ls st H .iastore = some (.inl (pc', ls', st', H'))) (k : mm_Wp p l e R s m args below meth c D aC A ad0 n0 s0 M Q pc' ls' st' H') : mm_Wp p l e R s m args below meth c D aC A ad0 n0 s0 M Q pc ls st H := by
  obtain ⟨x, i, r, st1, n, rfl, hi, ⟨hk, hr1, hr2⟩, h⟩ := mm_iast_inv h
  obtain ⟨rfl, rfl, rfl, rfl⟩ := mm_inj2 h
  obtain ⟨hx, hb, hml, hr, hown, hts, hlk, hin, hK, hNs, hA, hAO, hR⟩ := X
  intro ad Hp locs rl hH hL hs
  have hset : (mm_ws aC ad H).set (r - 2) (ad r, .inl (aC 0, n, .inl (upd (H.2.2.1 r) i.toNatClampNeg x))) = mm_ws aC ad (mm_pI H r i.toNatClampNeg x) := mm_ws_set hr2 rfl (by
    rw [mm_ce_a (H := mm_pI H r i.toNatClampNeg x) hk]
    show Sum.inl (aC 0, n, Sum.inl (mm_up2 H.2.2.1 r i.toNatClampNeg x r)) = _
    rw [mm_up2_row]) (fun q _ hq => mm_ce_I (H := H) (mm_up2_ne hq))
  refine va_iast hx hb hK hH.2.2.1 hH.2.2.2.1 hH.2.2.2.2.1 (r - 2) 0 (by rw [mm_ws_get aC ad H hr2 hr1, mm_ce_a hk]; rfl) rfl (mm_ix_vp hi) hd (fun H1 locs1 hP1 hD1 hS1 => ?_)
  rw [hset] at hP1 hD1
  exact k ad H1 locs1 rl (mm_relH_same hH rfl hP1 hD1 hS1 (mm_up2_ne (Nat.ne_of_lt (Nat.lt_of_lt_of_le (by decide : 1 < 2) hr2))) (fun _ _ _ _ => Or.inl rfl)) hL hs.2.2.2
theorem mm_p_bastore (X : mm_cx D aC A M p R s m args meth c dd) (hd : decode M.2.2.1 pc = .ok (.bastore, 1)) (h : mm_st M pc ls st H .bastore = some (.inl (pc', ls', st', H'))) (k : mm_Wp p l e R s m args below meth c D aC A ad0 n0 s0 M Q pc' ls' st' H') : mm_Wp p l e R s m args below meth c D aC A ad0 n0 s0 M Q pc ls st H := by
  obtain ⟨x, i, r, st1, n, rfl, hi, ⟨hk, hr1, hr2⟩, hx01, h⟩ := mm_zast_inv h
  obtain ⟨rfl, rfl, rfl, rfl⟩ := mm_inj2 h
  obtain ⟨hx, hb, hml, hr, hown, hts, hlk, hin, hK, hNs, hA, hAO, hR⟩ := X
  intro ad Hp locs rl hH hL hs
  have hnx : vp_nar .boolean x = x := by rcases hx01 with rfl | rfl <;> rfl
  have hset : (mm_ws aC ad H).set (r - 2) (ad r, .inl (aC 2, n, .inl (upd (H.2.2.1 r) i.toNatClampNeg x))) = mm_ws aC ad (mm_pI H r i.toNatClampNeg x) := mm_ws_set hr2 rfl (by
    rw [mm_ce_a (H := mm_pI H r i.toNatClampNeg x) hk]
    show Sum.inl (aC 2, n, Sum.inl (mm_up2 H.2.2.1 r i.toNatClampNeg x r)) = _
    rw [mm_up2_row]) (fun q _ hq => mm_ce_I (H := H) (mm_up2_ne hq))
  refine va_zast hx hb hK hH.2.2.1 hH.2.2.2.1 hH.2.2.2.2.1 (r - 2) 2 (by rw [mm_ws_get aC ad H hr2 hr1, mm_ce_a hk]; rfl) rfl (mm_ix_vp hi) hd (fun H1 locs1 hP1 hD1 hS1 => ?_)
  rw [hnx, hset] at hP1 hD1
  exact k ad H1 locs1 rl (mm_relH_same hH rfl hP1 hD1 hS1 (mm_up2_ne (Nat.ne_of_lt (Nat.lt_of_lt_of_le (by decide : 1 < 2) hr2))) (fun _ _ _ _ => Or.inl rfl)) hL hs.2.2.2
theorem mm_p_lastore (X : mm_cx D aC A M p R s m args meth c dd) (hd : decode M.2.2.1 pc = .ok (.lastore, 1)) (h : mm_st M pc ls st H .lastore = some (.inl (pc', ls', st', H'))) (k : mm_Wp p l e R s m args below meth c D aC A ad0 n0 s0 M Q pc' ls' st' H') : mm_Wp p l e R s m args below meth c D aC A ad0 n0 s0 M Q pc ls st H := by
  obtain ⟨x, i, r, st1, n, rfl, hi, ⟨hk, hr1, hr2⟩, h⟩ := mm_last_inv h
  obtain ⟨rfl, rfl, rfl, rfl⟩ := mm_inj2 h
  obtain ⟨hx, hb, hml, hr, hown, hts, hlk, hin, hK, hNs, hA, hAO, hR⟩ := X
  intro ad Hp locs rl hH hL hs
  have hset : (mm_ws aC ad H).set (r - 2) (ad r, .inl (aC 1, n, .inr (.inl (vp_updL (H.2.2.2 r) i.toNatClampNeg x)))) = mm_ws aC ad (mm_pL H r i.toNatClampNeg x) := mm_ws_set hr2 rfl (by
    rw [mm_ce_a (H := mm_pL H r i.toNatClampNeg x) hk]
    show Sum.inl (aC 1, n, Sum.inr (Sum.inl (mm_up2 H.2.2.2 r i.toNatClampNeg x r))) = _
    rw [mm_up2_rowL]) (fun q _ hq => mm_ce_L (H := H) (mm_up2_ne hq))
  refine va_last hx hb hK hH.2.2.1 hH.2.2.2.1 hH.2.2.2.2.1 (r - 2) 1 (by rw [mm_ws_get aC ad H hr2 hr1, mm_ce_a hk]; rfl) rfl (mm_ix_vp hi) hd (fun H1 locs1 hP1 hD1 hS1 => ?_)
  rw [hset] at hP1 hD1
  exact k ad H1 locs1 rl (mm_relH_same hH rfl hP1 hD1 hS1 rfl (fun _ _ _ _ => Or.inl rfl)) hL hs.2.2.2
theorem mm_p_aastore (X : mm_cx D aC A M p R s m args meth c dd) (hd : decode M.2.2.1 pc = .ok (.aastore, 1)) (h : mm_st M pc ls st H .aastore = some (.inl (pc', ls', st', H'))) (k : mm_Wp p l e R s m args below meth c D aC A ad0 n0 s0 M Q pc' ls' st' H') : mm_Wp p l e R s m args below meth c D aC A ad0 n0 s0 M Q pc ls st H := by
  obtain ⟨q, i, r, st1, n, rfl, hi, ⟨hk, hr1, hr2⟩, hO, h⟩ := mm_aast_inv h
  obtain ⟨rfl, rfl, rfl, rfl⟩ := mm_inj2 h
  obtain ⟨hx, hb, hml, hr, hown, hts, hlk, hin, hK, hNs, hA, hAO, hR⟩ := X
  intro ad Hp locs rl hH hL hs
  have hw : (mm_ws aC ad H)[r - 2]? = some (ad r, .inl (aC 3, n, .inr (.inr (.inr (.inr (fun j => mm_rf ad (H.2.1 r j))))))) := by
    rw [mm_ws_get aC ad H hr2 hr1, mm_ce_a hk]
    rfl
  have hset : (mm_ws aC ad H).set (r - 2) (ad r, .inl (aC 3, n, .inr (.inr (.inr (.inr (va_up (fun j => mm_rf ad (H.2.1 r j)) i.toNatClampNeg (some (ad q)))))))) = mm_ws aC ad (mm_pF H r i.toNatClampNeg (.ref q)) := mm_ws_set hr2 rfl (by
    rw [mm_ce_a (H := mm_pF H r i.toNatClampNeg (.ref q)) hk]
    show Sum.inl (aC 3, n, Sum.inr (Sum.inr (Sum.inr (Sum.inr (fun j => mm_rf ad (mm_up2 H.2.1 r i.toNatClampNeg (.ref q) r j)))))) = _
    congr 7
    funext j
    unfold mm_up2 va_up
    by_cases hj : j = i.toNatClampNeg
    · rw [if_pos ⟨rfl, hj⟩, if_pos hj]; rfl
    · rw [if_neg (fun z => hj z.2), if_neg hj]) (fun q _ hq => mm_ce_pF hq)
  refine va_astq hx hb hK hH.2.2.1 hH.2.2.2.1 hH.2.2.2.2.1 (r - 2) 3 (q - 2) 7 (r := (RX7, TX7, 8)) hw rfl (by rw [mm_ws_get aC ad H hO.2.2 hO.2.1, mm_ce_o hO.1]) rfl (mm_ix_vp hi) hd (fun H1 locs1 hP1 hD1 hS1 => ?_)
  rw [hset] at hP1 hD1
  exact k ad H1 locs1 rl (mm_relH_same hH rfl hP1 hD1 hS1 rfl (fun q j _ _ => mm_up2_vo hs.1 q j)) hL hs.2.2.2
theorem mm_p_arraylength (X : mm_cx D aC A M p R s m args meth c dd) (hd : decode M.2.2.1 pc = .ok (.arraylength, 1)) (h : mm_st M pc ls st H .arraylength = some (.inl (pc', ls', st', H'))) (k : mm_Wp p l e R s m args below meth c D aC A ad0 n0 s0 M Q pc' ls' st' H') : mm_Wp p l e R s m args below meth c D aC A ad0 n0 s0 M Q pc ls st H := by
  obtain ⟨r, st1, t, n, rfl, hk, ht, h⟩ := mm_alen_inv h
  obtain ⟨rfl, rfl, rfl, rfl⟩ := mm_inj2 h
  obtain ⟨hx, hb, hml, hr, hown, hts, hlk, hin, hK, hNs, hA, hAO, hR⟩ := X
  intro ad Hp locs rl hH hL hs
  rcases ht with ⟨ht, hr1, hr2⟩ | ⟨rfl, rfl⟩
  · have hT : ∃ ty, (mm_tys aC)[t]? = some (aC t, ty) := by
      match t, ht with
      | 0, _ => exact ⟨_, rfl⟩
      | 1, _ => exact ⟨_, rfl⟩
      | 2, _ => exact ⟨_, rfl⟩
      | 3, _ => exact ⟨_, rfl⟩
      | 4, _ => exact ⟨_, rfl⟩
      | 5, _ => exact ⟨_, rfl⟩
      | k + 6, h => exact absurd h (by omega)
    obtain ⟨ty, hT⟩ := hT
    exact va_alen hx hb hK hH.2.2.1 (r - 2) t (x := mm_ac ad H r t n) (by rw [mm_ws_get aC ad H hr2 hr1, mm_ce_a hk]) hT rfl hd (k ad Hp locs rl hH hL ⟨trivial, hs.2⟩)
  · obtain ⟨hX, hbl, hbA⟩ := hH.2.2.2.2.2.2.1 n hk
    exact va_slen hx hb hX hbl hbA hH.2.2.2.2.1 hd (k ad Hp locs rl hH hL ⟨trivial, hs.2⟩)
end MP
