/-! isWord and wordKind -/
def iwC (f : Nat → Int32) (b n i : Nat) : Prop := n = tx_len i ∧ ∀ k, k < tx_len i → f (b + k) = tx_ch i k
noncomputable def iwV (f : Nat → Int32) (b n i : Nat) : Int32 := @ite _ (iwC f b n i) (Classical.propDecidable _) 1 0
theorem iwV_1 {f : Nat → Int32} {b n i : Nat} (h : iwC f b n i) : iwV f b n i = 1 := by
  unfold iwV
  exact if_pos h
theorem iwV_0 {f : Nat → Int32} {b n i : Nat} (h : ¬ iwC f b n i) : iwV f b n i = 0 := by
  unfold iwV
  exact if_neg h
theorem iwC_hit {f : Nat → Int32} {b n : Nat} : iwC f b n 0 ↔ (n = 3 ∧ f b = 104 ∧ f (b + 1) = 105 ∧ f (b + 2) = 116) := by
  constructor
  · rintro ⟨h, g⟩
    exact ⟨h, g 0 (by decide), g 1 (by decide), g 2 (by decide)⟩
  · rintro ⟨h, g0, g1, g2⟩
    refine ⟨h, fun k hk => ?_⟩
    have hk : k < 3 := hk
    match k, hk with
    | 0, _ => exact g0
    | 1, _ => exact g1
    | 2, _ => exact g2
    | k + 3, h => exact absurd h (by omega)
theorem iwC_empty {f : Nat → Int32} {b n : Nat} : iwC f b n 1 ↔ (n = 5 ∧ f b = 101 ∧ f (b + 1) = 109 ∧ f (b + 2) = 112 ∧ f (b + 3) = 116 ∧ f (b + 4) = 121) := by
  constructor
  · rintro ⟨h, g⟩
    exact ⟨h, g 0 (by decide), g 1 (by decide), g 2 (by decide), g 3 (by decide), g 4 (by decide)⟩
  · rintro ⟨h, g0, g1, g2, g3, g4⟩
    refine ⟨h, fun k hk => ?_⟩
    have hk : k < 5 := hk
    match k, hk with
    | 0, _ => exact g0
    | 1, _ => exact g1
    | 2, _ => exact g2
    | 3, _ => exact g3
    | 4, _ => exact g4
    | k + 5, h => exact absurd h (by omega)
theorem iwC_mark {f : Nat → Int32} {b n : Nat} : iwC f b n 2 ↔ (n = 4 ∧ f b = 109 ∧ f (b + 1) = 97 ∧ f (b + 2) = 114 ∧ f (b + 3) = 107) := by
  constructor
  · rintro ⟨h, g⟩
    exact ⟨h, g 0 (by decide), g 1 (by decide), g 2 (by decide), g 3 (by decide)⟩
  · rintro ⟨h, g0, g1, g2, g3⟩
    refine ⟨h, fun k hk => ?_⟩
    have hk : k < 4 := hk
    match k, hk with
    | 0, _ => exact g0
    | 1, _ => exact g1
    | 2, _ => exact g2
    | 3, _ => exact g3
    | k + 4, h => exact absurd h (by omega)
def iwP (D : va_G) (aC : Nat → ClassId) (ad : Nat → Nat) (H : mm_H) (adK adV : Nat → Nat) (As : List Value) (sz : Nat) : Array Value → State → Prop := va_Pc As (fun U => U.heap.size = sz ∧ (va_P D mm_cl (mm_ws aC ad H) U.heap ∧ va_K D mm_cl (mm_tys aC) U) ∧ mm_sv adK adV (fun q => sz ≤ q) U U.heap)
theorem iw_blind {D : va_G} {aC : Nat → ClassId} {ad : Nat → Nat} {H : mm_H} {adK adV : Nat → Nat} {As : List Value} {sz : Nat} : FrameBlind (iwP D aC ad H adK adV As sz) := by
  intro a U g mk h
  obtain ⟨h1, h2, ⟨h3, h4⟩, h5⟩ := h
  exact ⟨h1, h2, ⟨h3, va_K.moved (u := U) (U := U.calling g mk a) (Vm.Alike.refl U.vm) h4⟩, mm_sv_same (s := U) (U := U.calling g mk a) rfl rfl h5⟩
def iwM (l : Launch) (D : va_G) (aC : Nat → ClassId) (ad : Nat → Nat) (H : mm_H) (adK adV : Nat → Nat) (As : List Value) (v : Int32) : Prop := ∀ sz, Met l yX8_isWord (.code yX8_isWord cX8_isWord 3 (some .boolean) :: mm_gd) { frames := 4, cells := 0, slots := 0, locals := 256 } (iwP D aC ad H adK adV As sz) (pmQ sz (some (.int v))) 0 0 (fun q => sz ≤ q)
def iwH (H : mm_H) (r q b n N : Nat) : Prop := (H.1.2.2 r = .inl 8 ∧ r < H.1.1 ∧ 2 ≤ r) ∧ (H.1.2.2 q = .inr (0, N) ∧ q < H.1.1 ∧ 2 ≤ q) ∧ (H.2.1 r 0 = .ref q ∧ H.2.1 r 2 = .int (nI b) ∧ H.2.1 r 3 = .int (nI (b + n))) ∧ b + n ≤ N ∧ b + n < 2 ^ 31
theorem pw_P {D : va_G} {ws : va_W} {s : State} {Hp : Heap} {locs : List Loc} (hP0 : va_P D mm_cl ws s.heap) (hS : va_S (fun q => s.heap.size ≤ q) s.heap Hp locs) : va_P D mm_cl ws Hp := hP0.kept (fun k q hk => hS.2.1 q.1 (hP0 k q hk).lt (Nat.not_le.mpr (hP0 k q hk).lt))
section PW
variable {p : Program} {l : Launch} {e : Env} {R : Room} {s : State} {m : MethodId} {args : Array Value} {below : List Frame} {meth : Method} {c : Code} {A : Nat → Prop} {Q : State → Prop} {cc : ByteArray} {nL pc cells slots : Nat} {Hp : Heap} {locs : List Loc} {ls : Array Slot} {D : va_G} {aC : Nat → ClassId} {ad : Nat → Nat} {H : mm_H} {rest : List Value}
theorem pw_get {i r k0 : Nat} (hx : p.tables.exec = Jvm.exec) (hb : c.code = cc) (hts : ∀ w ∈ mm_gd, w.before args s = true) (hown : s.vm.findClass RX8 = some m.cls) (hK : va_K D mm_cl (mm_tys aC) s) (hP : va_P D mm_cl (mm_ws aC ad H) Hp) (hO : H.1.2.2 r = .inl 8 ∧ r < H.1.1 ∧ 2 ≤ r) (hf : mm_find (mm_fls 8) i = some (8, k0)) (hd : decode cc pc = .ok (.getfield i, 3)) {v : Value} (hv : mm_tv ad (H.2.1 r k0) = v) (kk : W p l e R s m args below meth c Hp locs cells slots Q (F0 m (pc + 3) ls (v :: rest))) : W p l e R s m args below meth c Hp locs cells slots Q (F0 m pc ls (.ref (ad r) :: rest)) := by
  subst hv
  obtain ⟨hw, hc, hk⟩ := mm_fl_ok hf
  obtain ⟨hcl, hus, hty, hnm, hdc⟩ := mm_cls_ok hc
  have he : (mm_ws aC ad H)[r - 2]? = some (ad r, .inr (8, mm_fs ad H r 8)) := by rw [mm_ws_get aC ad H hO.2.2 hO.2.1, mm_ce_o hO.1]
  exact va_get (D := D) (ci := 8) (v := mm_tv ad (H.2.1 r k0)) (C := mm_nm 8) (T := mm_T 8) (N := mm_nf 8) (ref := (mm_T 8 k0).1) (own := RX8) hx hb hts hus hown hK hP (r - 2) he hcl k0 hk (hts _ hw) (fun _ h9 => h9) (mm_fs_get ad H r 8 hk) hd kk
end PW
set_option maxHeartbeats 2000000 in
theorem iw_isWord {l : Launch} {D : va_G} {aC : Nat → ClassId} {ad : Nat → Nat} {H : mm_H} {adK adV : Nat → Nat} {r q b n N i : Nat} (hH : iwH H r q b n N) (hi : i < 3) : iwM l D aC ad H adK adV [.ref (ad r), .ref (adK i)] (iwV (H.2.2.1 q) b n i) := by
  obtain ⟨hO, hA9, ⟨f0, f2, f3⟩, hbn, h31⟩ := hH
  obtain ⟨h6, hch⟩ := tx_facts i hi
  intro sz
  refine Met.ofW (cc := cX8_isWord) (maxL := 3) (ret := some .boolean) (by decide) rfl ?_
  intro p e s m args below meth c s₁ B hml hv
  obtain ⟨rfl, hsz, ⟨hP0, hK⟩, hE⟩ := hv
  subst hsz
  have hts0 := atoms_spec B.pre
  have hts : ∀ w ∈ mm_gd, w.before #[.ref (ad r), .ref (adK i)] s = true := fun w hw => hts0 w (List.mem_cons_of_mem _ hw)
  have hl := lv_entry [.ref (ad r), .ref (adK i)] (n := 3) (Nat.le_of_ble_eq_true rfl)
  rw [lg_entry_eq]
  have hx := B.exec
  have hb := B.bytes
  have hr := B.returns
  have hown : s.vm.findClass RX8 = some m.cls := findClass_of_methodNamed B.named
  have hlk := B.notSynchronized
  have hS : va_S (fun q => s.heap.size ≤ q) s.heap s.heap [] := va_S.rf
  generalize (lg_sl [.ref (ad r), .ref (adK i)] ++ List.replicate (3 - (lg_sl [.ref (ad r), .ref (adK i)]).length) Slot.unset).toArray = ls at hl ⊢
  have hl : lv_has ls 3 [(0, .ref (ad r)), (1, .ref (adK i))] := hl
  have hRoom : (headSpec (Cond.code yX8_isWord cX8_isWord 3 (some .boolean) :: mm_gd) { frames := 4, cells := 0, slots := 0, locals := 256 }).room = { frames := 4, cells := 0, slots := 0, locals := 256 } := rfl
  rw [hRoom]
  -- the loop, from its head
  have loop : ∀ (d j : Nat), j + d = tx_len i → n = tx_len i → (∀ k, k < j → H.2.2.1 q (b + k) = tx_ch i k) → ∀ (Hp : Heap) (locs : List Loc) (ls : Array Slot), va_S (fun q => s.heap.size ≤ q) s.heap Hp locs → lv_has ls 3 [(2, .int (nI j)), (0, .ref (ad r)), (1, .ref (adK i))] → W p l e { frames := 4, cells := 0, slots := 0, locals := 256 } s m #[.ref (ad r), .ref (adK i)] below meth c Hp locs 0 0 (MQ below (pmQ s.heap.size (some (.int (iwV (H.2.2.1 q) b n i)))) #[.ref (ad r), .ref (adK i)] s 0 0 (fun q => s.heap.size ≤ q)) (F0 m 20 ls []) := by
    intro d
    induction d with
    | zero =>
      intro j hj hn hall Hp locs ls hS hl
      refine lv_iload_n hx hb dX8_isWord_20 rfl (lv_at hl 0 rfl) ?_
      refine lv_aload_n hx hb dX8_isWord_21 rfl (lv_at hl 2 rfl) ?_
      refine pm_cv (n := 0) (As := []) (rest := [.int (nI j)]) (C := RJ0) (b := adK i) (own := RX8) hx hb hml hl.1 hown hts (fun q h => h) hE hS (pm_length hi) (by decide +kernel) (by decide +kernel) (by decide +kernel) (by decide +kernel) (by decide +kernel) (by decide) (by decide +kernel) rfl (vk_recv hE.1 hi hS) (Nat.le_of_ble_eq_true rfl) (Nat.le_of_ble_eq_true rfl) (Nat.le_of_ble_eq_true rfl) dX8_isWord_22 ⟨Nat.zero_le _, Nat.zero_le _⟩ ?_
      intro H2 locs2 hS2 _ _
      refine lv_icmp_ge hx hb dX8_isWord_25 (tgt := 55) (by decide) (fun _ => ?_) (fun h => absurd (nI_le (by omega) (by omega)) h)
      refine lv_iconst hx hb dX8_isWord_55 (v := 1) (by decide) ?_
      have hjl : j = tx_len i := by omega
      exact W.zret hx hb hr rfl (fun t ht _ => ⟨by rw [iwV_1 ⟨hn, fun k hk => hall k (by omega)⟩], hS2.F ht⟩) hS2.2.2 dX8_isWord_56
    | succ d ih =>
      intro j hj hn hall Hp locs ls hS hl
      have hjl : j < tx_len i := by omega
      refine lv_iload_n hx hb dX8_isWord_20 rfl (lv_at hl 0 rfl) ?_
      refine lv_aload_n hx hb dX8_isWord_21 rfl (lv_at hl 2 rfl) ?_
      refine pm_cv (n := 0) (As := []) (rest := [.int (nI j)]) (C := RJ0) (b := adK i) (own := RX8) hx hb hml hl.1 hown hts (fun q h => h) hE hS (pm_length hi) (by decide +kernel) (by decide +kernel) (by decide +kernel) (by decide +kernel) (by decide +kernel) (by decide) (by decide +kernel) rfl (vk_recv hE.1 hi hS) (Nat.le_of_ble_eq_true rfl) (Nat.le_of_ble_eq_true rfl) (Nat.le_of_ble_eq_true rfl) dX8_isWord_22 ⟨Nat.zero_le _, Nat.zero_le _⟩ ?_
      intro H2 locs2 hS2 _ _
      refine lv_icmp_ge hx hb dX8_isWord_25 (tgt := 55) (by decide) (fun h => absurd h (nI_ge hjl (by omega))) (fun _ => ?_)
      have hP2 := pw_P hP0 hS2
      refine lv_aload_n hx hb dX8_isWord_28 rfl (lv_at hl 1 rfl) ?_
      refine pw_get (r := r) (k0 := 0) hx hb hts hown hK hP2 hO (by decide +kernel) dX8_isWord_29 (v := .ref (ad q)) (by rw [f0]; rfl) ?_
      refine lv_aload_n hx hb dX8_isWord_32 rfl (lv_at hl 1 rfl) ?_
      refine pw_get (r := r) (k0 := 2) hx hb hts hown hK hP2 hO (by decide +kernel) dX8_isWord_33 (v := .int (nI b)) (by rw [f2]; rfl) ?_
      refine lv_iload_n hx hb dX8_isWord_36 rfl (lv_at hl 0 rfl) ?_
      refine lv_iadd hx hb dX8_isWord_37 ?_
      rw [nI_add]
      have hin : vp_in (nI (b + j)) N := fun h => by
        rcases h with h | h
        · exact nI_pos (by omega) h
        · rw [nI_clamp (by omega)] at h
          omega
      refine va_iald hx hb hK hP2 (q - 2) 0 (f := H.2.2.1 q) (cA := aC 0) (n := N) (by rw [mm_ws_get aC ad H hA9.2.2 hA9.2.1, mm_ce_a hA9.1]; rfl) rfl hin dX8_isWord_38 ?_
      rw [nI_clamp (by omega)]
      refine lv_aload_n hx hb dX8_isWord_39 rfl (lv_at hl 2 rfl) ?_
      refine lv_iload_n hx hb dX8_isWord_40 rfl (lv_at hl 0 rfl) ?_
      refine pm_cv (n := 1) (As := [.int (nI j)]) (rest := [.int (H.2.2.1 q (b + j))]) (C := RJ0) (b := adK i) (own := RX8) hx hb hml hl.1 hown hts (fun q h => h) hE hS2 (pm_charAt hi hjl) (by decide +kernel) (by decide +kernel) (by decide +kernel) (by decide +kernel) (by decide +kernel) (by decide) (by decide +kernel) rfl (vk_recv hE.1 hi hS2) (Nat.le_of_ble_eq_true rfl) (Nat.le_of_ble_eq_true rfl) (Nat.le_of_ble_eq_true rfl) dX8_isWord_41 ⟨Nat.zero_le _, Nat.zero_le _⟩ ?_
      intro H3 locs3 hS3 _ _
      refine lv_icmp_eq hx hb dX8_isWord_44 (tgt := 49) (by decide) (fun heq => ?_) (fun hne => ?_)
      · refine lv_iinc hx hb dX8_isWord_49 hl (k := 0) rfl (v := nI (j + 1)) (by rw [nI_succ]; rfl) (by decide) rfl ?_
        intro ls' hl'
        refine lv_goto hx hb dX8_isWord_52 (tgt := 20) (by decide) ?_
        refine ih (j + 1) (by omega) hn (fun k hk => ?_) H3 locs3 ls' hS3 hl'
        by_cases hkj : k = j
        · subst hkj; exact heq
        · exact hall k (by omega)
      · refine lv_iconst hx hb dX8_isWord_47 (v := 0) (by decide) ?_
        exact W.zret hx hb hr rfl (fun t ht _ => ⟨by rw [iwV_0 (fun h => hne (h.2 j hjl))], hS3.F ht⟩) hS3.2.2 dX8_isWord_48
  refine lv_aload_n hx hb dX8_isWord_0 rfl (lv_at hl 0 rfl) ?_
  refine pw_get (r := r) (k0 := 3) hx hb hts hown hK hP0 hO (by decide +kernel) dX8_isWord_1 (v := .int (nI (b + n))) (by rw [f3]; rfl) ?_
  refine lv_aload_n hx hb dX8_isWord_4 rfl (lv_at hl 0 rfl) ?_
  refine pw_get (r := r) (k0 := 2) hx hb hts hown hK hP0 hO (by decide +kernel) dX8_isWord_5 (v := .int (nI b)) (by rw [f2]; rfl) ?_
  refine lv_isub hx hb dX8_isWord_8 ?_
  rw [pk_sub (Nat.le_add_right b n), Nat.add_sub_cancel_left]
  refine lv_aload_n hx hb dX8_isWord_9 rfl (lv_at hl 1 rfl) ?_
  refine pm_cv (n := 0) (As := []) (rest := [.int (nI n)]) (C := RJ0) (b := adK i) (own := RX8) hx hb hml hl.1 hown hts (fun q h => h) hE hS (pm_length hi) (by decide +kernel) (by decide +kernel) (by decide +kernel) (by decide +kernel) (by decide +kernel) (by decide) (by decide +kernel) rfl (vk_recv hE.1 hi hS) (Nat.le_of_ble_eq_true rfl) (Nat.le_of_ble_eq_true rfl) (Nat.le_of_ble_eq_true rfl) dX8_isWord_10 ⟨Nat.zero_le _, Nat.zero_le _⟩ ?_
  intro H2 locs2 hS2 _ _
  refine lv_icmp_eq hx hb dX8_isWord_13 (tgt := 18) (by decide) (fun heq => ?_) (fun hne => ?_)
  · have hn : n = tx_len i := (nI_eq (by omega) (by omega)).mp heq
    refine lv_iconst hx hb dX8_isWord_18 (v := nI 0) (by decide) ?_
    refine lv_istore_n hx hb dX8_isWord_19 rfl hl (by decide) rfl ?_
    intro ls' hl'
    exact loop (tx_len i) 0 (by omega) hn (fun k hk => absurd hk (Nat.not_lt_zero k)) H2 locs2 ls' hS2 hl'
  · refine lv_iconst hx hb dX8_isWord_16 (v := 0) (by decide) ?_
    exact W.zret hx hb hr rfl (fun t ht _ => ⟨by rw [iwV_0 (fun h => hne (by rw [h.1]))], hS2.F ht⟩) hS2.2.2 dX8_isWord_17
