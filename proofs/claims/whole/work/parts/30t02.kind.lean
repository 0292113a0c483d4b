/-! wordKind: the contract that the small machine owes -/
theorem mm_wk_inv {As : List Value} {H H1 : mm_H} {v : Option Value} (h : mm_wk As H = some (v, H1)) : ∃ r q b n N, As = [.ref r] ∧ H1 = H ∧ iwH H r q b n N ∧ v = some (.int (mm_wd (H.2.2.1 q) b n)) := by
  unfold mm_wk at h
  split at h
  · split at h
    · split at h
      · split at h
        · rename_i r _ _ _ q b e h0 h2 h3 _ N hk hc
          cases h
          obtain ⟨⟨c1, c2, c3⟩, c4, c5⟩ := hc
          have nb : ¬ b < 0 := Int32.not_lt.mpr c1
          have ne : ¬ e < 0 := fun z => nb (Int32.lt_of_le_of_lt c2 z)
          obtain ⟨b', hb', rfl⟩ := nI_of nb
          obtain ⟨e', he', rfl⟩ := nI_of ne
          rw [nI_clamp he'] at c3 ⊢
          rw [nI_clamp hb']
          have hle : b' ≤ e' := (nI_leI hb' he').mp c2
          have e9 : b' + (e' - b') = e' := by omega
          exact ⟨r, q, b', e' - b', N, rfl, rfl, ⟨c5, ⟨hk, c4⟩, ⟨h0, h2, by rw [e9]; exact h3⟩, by omega, by omega⟩, rfl⟩
        · cases h
      · cases h
    · cases h
  · cases h
theorem iw_cv {p : Program} {l : Launch} {e : Env} {R : Room} {s : State} {m : MethodId} {args : Array Value} {below : List Frame} {meth : Method} {c : Code} {Q : State → Prop} {cc : ByteArray} {nL pc cells slots : Nat} {Hp : Heap} {locs : List Loc} {ls : Array Slot} {D : va_G} {aC : Nat → ClassId} {ad : Nat → Nat} {H : mm_H} {adK adV : Nat → Nat} {r i : Nat} {v : Int32} (hx : p.tables.exec = Jvm.exec) (hb : c.code = cc) (hml : c.maxLocals = nL) (hls : ls.size = nL) (hown : s.vm.findClass RX8 = some m.cls) (hts : ∀ w ∈ mm_gd, w.before args s = true) (hE : mm_sv adK adV (fun q => s.heap.size ≤ q) s s.heap) (hK : va_K D mm_cl (mm_tys aC) s) (hP0 : va_P D mm_cl (mm_ws aC ad H) s.heap) (hO : H.1.2.2 r = .inl 8 ∧ r < H.1.1 ∧ 2 ≤ r) (hS : va_S (fun q => s.heap.size ≤ q) s.heap Hp locs) (hM : iwM l D aC ad H adK adV [.ref (ad r), .ref (adK i)] v) (hfr : 5 ≤ R.frames) (hlo : 278 ≤ R.locals) (hdg : decode cc pc = .ok (.invokevirtual 53, 3)) (hcl : cells ≤ R.cells ∧ slots ≤ R.slots) (kk : ∀ (H2 : Heap) (locs2 : List Loc), va_S (fun q => s.heap.size ≤ q) s.heap H2 locs2 → Hp.size ≤ H2.size → (∀ q : Nat, q < Hp.size → H2[q]? = Hp[q]?) → W p l e R s m args below meth c H2 locs2 cells slots Q (F0 m (pc + 3) ls [.int v])) : W p l e R s m args below meth c Hp locs cells slots Q (F0 m pc ls [.ref (adK i), .ref (ad r)]) := by
  have w1 : Cond.code yX8_isWord cX8_isWord 3 (some .boolean) ∈ mm_gd := by decide +kernel
  have w2 : Cond.initialized yX8_isWord.cls ∈ mm_gd := by decide +kernel
  have w3 : Cond.instanceMethod yX8_isWord ∈ mm_gd := by decide +kernel
  have w4 : Cond.selects RX8 yX8_isWord yX8_isWord ∈ mm_gd := by decide +kernel
  have wl : Cond.methodLink RX8 53 yX8_isWord ∈ mm_gd := by decide +kernel
  have hP := pw_P hP0 hS
  have he : (mm_ws aC ad H)[r - 2]? = some (ad r, .inr (8, mm_fs ad H r 8)) := by rw [mm_ws_get aC ad H hO.2.2 hO.2.1, mm_ce_o hO.1]
  obtain ⟨hcl8, -⟩ := mm_cls_ok (c := 8) (by decide)
  have hpre : ∀ U : State, U.heap = Hp → s.WarmedH U.vm → iwP D aC ad H adK adV [.ref (ad r), .ref (adK i)] Hp.size #[.ref (ad r), .ref (adK i)] U := fun U hU hW => ⟨rfl, by rw [hU], ⟨by rw [hU]; exact hP, va_K.moved hW.alike hK⟩, mm_sv_to hE (by rw [hU]; exact hS.2.1) hW (fun q h => Nat.le_trans hS.1 h)⟩
  exact pm_after (va_runV (C := RX8) (bytes := cX8_isWord) (maxL := 3) (ret := some .boolean) (n := 1) (As := [.ref (adK i)]) (b := ad r) (rest := []) (g := F0 m pc ls [.ref (adK i), .ref (ad r)]) ⟨hx, hb, hml, hown, hts⟩ (hM Hp.size) ⟨⟨rfl, rfl, hfr, hlo, pm_words hts w1, List.mem_cons_self, hts _ w1, hts _ w2, by decide, mm_npar (by decide +kernel), hts _ wl⟩, hts _ w3, hts _ w4⟩ ⟨iw_blind, va_recv hK hP hcl8 he, hpre⟩ rfl rfl hls rfl (Nat.le_of_ble_eq_true rfl) hdg ⟨hcl.1, hcl.2⟩) hS (fun q h => h) kk
set_option maxHeartbeats 2000000 in
theorem mm_wd_ok (l : Launch) : mm_wdOK l := by
  intro D aC ad As H v H1 sz hwk
  obtain ⟨r, q, b, n, N, rfl, rfl, hH, rfl⟩ := mm_wk_inv hwk
  unfold mm_Mt
  simp only [Nat.sub_self]
  refine Met.ofW (cc := cX8_wordKind) (maxL := 1) (ret := some .int) (by decide) rfl ?_
  intro p e s m args below meth c s₁ B hml hv
  obtain ⟨rfl, hsz, hP0, hK, hD, -, -, hho, -, hsw⟩ := hv
  subst hsz
  obtain ⟨adK, adV, hsv⟩ := mm_sv_of hsw
  have hE : mm_sv adK adV (fun q => s.heap.size ≤ q) s s.heap := by
    obtain ⟨h1, h2, h3, h4, h5, h6⟩ := hsv
    have hAB : ∀ q, s.heap.size ≤ q → va_A (mm_ws aC ad H1) s.heap.size q := fun q h => Or.inr h
    exact ⟨vk_S.narrow h1 hAB, h2, h3, h4, va_Z.narrow h5 hAB, va_Zq.narrow h6 hAB⟩
  have hts0 := atoms_spec B.pre
  have hts : ∀ w ∈ mm_gd, w.before #[.ref (ad r)] s = true := fun w hw => hts0 w (List.mem_cons_of_mem _ hw)
  have hl := lv_entry [.ref (ad r)] (n := 1) (Nat.le_of_ble_eq_true rfl)
  have hen : entryFrame m ([Value.ref r].map (mm_tv ad)).toArray 1 = F0 m 0 ((lg_sl [.ref (ad r)] ++ List.replicate (1 - (lg_sl [.ref (ad r)]).length) Slot.unset).toArray) [] := lg_entry_eq m [.ref (ad r)] 1
  have hx := B.exec
  have hb := B.bytes
  have hr : meth.sig.returnType = some .int := B.returns
  have hown : s.vm.findClass RX8 = some m.cls := findClass_of_methodNamed B.named
  have hlk := B.notSynchronized
  have hS : va_S (fun q => s.heap.size ≤ q) s.heap s.heap [] := va_S.rf
  rw [hen]
  generalize (lg_sl [.ref (ad r)] ++ List.replicate (1 - (lg_sl [.ref (ad r)]).length) Slot.unset).toArray = ls at hl ⊢
  have hl : lv_has ls 1 [(0, .ref (ad r))] := hl
  show W p l e { frames := 11, cells := 0, slots := 0, locals := 704 } s m #[.ref (ad r)] below meth c s.heap [] 0 0 (MQ below (mm_Qc D aC ad H1 (some (.int (mm_wd (H1.2.2.1 q) b n))) H1) #[.ref (ad r)] s 0 0 (va_A (mm_ws aC ad H1) s.heap.size)) (F0 m 0 ls [])
  have fin : ∀ {Hp : Heap} {locs : List Loc} {x : Int32} {pc : Nat}, va_S (fun q => s.heap.size ≤ q) s.heap Hp locs → decode cX8_wordKind pc = .ok (.ireturn, 1) → mm_wd (H1.2.2.1 q) b n = x → W p l e { frames := 11, cells := 0, slots := 0, locals := 704 } s m #[.ref (ad r)] below meth c Hp locs 0 0 (MQ below (mm_Qc D aC ad H1 (some (.int (mm_wd (H1.2.2.1 q) b n))) H1) #[.ref (ad r)] s 0 0 (va_A (mm_ws aC ad H1) s.heap.size)) (F0 m pc ls [.int x]) := by
    intro Hp locs x pc hS hd hxx
    subst hxx
    refine W.iret hx hb hr (fun t ht _ => ⟨ad, fun _ _ => rfl, rfl, by rw [ht]; exact pw_P hP0 hS, hD.self, hho, ⟨trivial, trivial⟩, ?_⟩) (fun q hq => Or.inr (hS.2.2 q hq)) hd
    exact ⟨by rw [ht]; exact hS.1, fun q h1 h2 => by rw [ht]; exact hS.2.1 q h1 (fun z => h2 (Or.inr z))⟩
  refine lv_aload_n hx hb dX8_wordKind_0 rfl (lv_at hl 0 rfl) ?_
  refine va_ldcS hx hb hown hE.2.1 dX8_wordKind_1 ?_
  refine iw_cv (r := r) (i := 0) hx hb hml hl.1 hown hts hE hK hP0 hH.1 hS (iw_isWord hH (by decide)) (Nat.le_of_ble_eq_true rfl) (Nat.le_of_ble_eq_true rfl) dX8_wordKind_3 ⟨Nat.zero_le _, Nat.zero_le _⟩ ?_
  intro H2 locs2 hS2 _ _
  refine lv_if_eq hx hb dX8_wordKind_6 (tgt := 11) (by decide) (fun g0 => ?_) (fun g0 => ?_)
  rotate_left
  · have hc0 : iwC (H1.2.2.1 q) b n 0 := Classical.byContradiction fun z => g0 (iwV_0 z)
    refine lv_iconst hx hb dX8_wordKind_9 (v := 0) (by decide) ?_
    refine fin hS2 dX8_wordKind_10 ?_
    unfold mm_wd
    rw [if_pos (iwC_hit.mp hc0)]
  have n0 : ¬ iwC (H1.2.2.1 q) b n 0 := fun z => absurd ((iwV_1 z).symm.trans g0) (by decide)
  refine lv_aload_n hx hb dX8_wordKind_11 rfl (lv_at hl 0 rfl) ?_
  refine va_ldcS hx hb hown hE.2.2.1 dX8_wordKind_12 ?_
  refine iw_cv (r := r) (i := 1) hx hb hml hl.1 hown hts hE hK hP0 hH.1 hS2 (iw_isWord hH (by decide)) (Nat.le_of_ble_eq_true rfl) (Nat.le_of_ble_eq_true rfl) dX8_wordKind_14 ⟨Nat.zero_le _, Nat.zero_le _⟩ ?_
  intro H3 locs3 hS3 _ _
  refine lv_if_eq hx hb dX8_wordKind_17 (tgt := 22) (by decide) (fun g1 => ?_) (fun g1 => ?_)
  rotate_left
  · have hc1 : iwC (H1.2.2.1 q) b n 1 := Classical.byContradiction fun z => g1 (iwV_0 z)
    refine lv_iconst hx hb dX8_wordKind_20 (v := 1) (by decide) ?_
    refine fin hS3 dX8_wordKind_21 ?_
    unfold mm_wd
    rw [if_neg (fun z => n0 (iwC_hit.mpr z)), if_pos (iwC_empty.mp hc1)]
  have n1 : ¬ iwC (H1.2.2.1 q) b n 1 := fun z => absurd ((iwV_1 z).symm.trans g1) (by decide)
  refine lv_aload_n hx hb dX8_wordKind_22 rfl (lv_at hl 0 rfl) ?_
  refine va_ldcS hx hb hown hE.2.2.2.1 dX8_wordKind_23 ?_
  refine iw_cv (r := r) (i := 2) hx hb hml hl.1 hown hts hE hK hP0 hH.1 hS3 (iw_isWord hH (by decide)) (Nat.le_of_ble_eq_true rfl) (Nat.le_of_ble_eq_true rfl) dX8_wordKind_25 ⟨Nat.zero_le _, Nat.zero_le _⟩ ?_
  intro H4 locs4 hS4 _ _
  refine lv_if_eq hx hb dX8_wordKind_28 (tgt := 35) (by decide) (fun g2 => ?_) (fun g2 => ?_)
  · have n2 : ¬ iwC (H1.2.2.1 q) b n 2 := fun z => absurd ((iwV_1 z).symm.trans g2) (by decide)
    refine lv_iconst hx hb dX8_wordKind_35 (v := -1) (by decide) ?_
    refine fin hS4 dX8_wordKind_36 ?_
    unfold mm_wd
    rw [if_neg (fun z => n0 (iwC_hit.mpr z)), if_neg (fun z => n1 (iwC_empty.mpr z)), if_neg (fun z => n2 (iwC_mark.mpr z))]
  · have hc2 : iwC (H1.2.2.1 q) b n 2 := Classical.byContradiction fun z => g2 (iwV_0 z)
    refine lv_iconst hx hb dX8_wordKind_31 (v := 2) (by decide) ?_
    refine lv_goto hx hb dX8_wordKind_32 (tgt := 36) (by decide) ?_
    refine fin hS4 dX8_wordKind_36 ?_
    unfold mm_wd
    rw [if_neg (fun z => n0 (iwC_hit.mpr z)), if_neg (fun z => n1 (iwC_empty.mpr z)), if_pos (iwC_mark.mp hc2)]
