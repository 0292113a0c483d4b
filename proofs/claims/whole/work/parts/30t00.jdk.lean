/-! the JDK's methods over the three texts: coder, isLatin1, length, checkIndex, charAt -/
def tx_len (i : Nat) : Nat := ([3, 5, 4] : List Nat).getD i 0
def tx_ch (i k : Nat) : Int32 := (mm_by.getD i []).getD k 0
theorem tx_facts : ∀ i, i < 3 → tx_len i < 6 ∧ ∀ k, k < tx_len i → (((tx_ch i k &&& 255).toUInt32 % 65536).toInt32 = tx_ch i k ∧ narrow .char (.int (tx_ch i k)) = .int (tx_ch i k)) := by decide +kernel
theorem pm_of {l : Launch} {y : MethodName} {cc : ByteArray} {mL : Nat} {ret : Option FieldType} {fr lo : Nat} {adK adV : Nat → Nat} {As : List Value} {v : Option Value} (hy : plainName y.cls = true) (hlen : (lg_sl As).length ≤ mL) (body : ∀ (p : Program) (e : Env) (s : State) (m : MethodId) (below : List Frame) (meth : Method) (c : Code), p.tables.exec = Jvm.exec → c.code = cc → c.maxLocals = mL → meth.sig.returnType = ret → s.vm.findClass y.cls = some m.cls → (∀ w ∈ mm_gd, w.before As.toArray s = true) → meth.locks = false → mm_sv adK adV (fun q => s.heap.size ≤ q) s s.heap → ∀ ls : Array Slot, lv_has ls mL (lv_args 0 As) → W p l e { frames := fr, cells := 0, slots := 0, locals := lo } s m As.toArray below meth c s.heap [] 0 0 (MQ below (pmQ s.heap.size v) As.toArray s 0 0 (fun q => s.heap.size ≤ q)) (F0 m 0 ls [])) : pmM l y cc mL ret fr lo adK adV As v := by
  intro sz
  refine Met.ofW (cc := cc) (maxL := mL) (ret := ret) hy rfl ?_
  intro p e s m args below meth c s₁ B hml hv
  obtain ⟨rfl, hsz, hsv⟩ := hv
  subst hsz
  have hts := atoms_spec B.pre
  have hl := lv_entry As (n := mL) hlen
  rw [lg_entry_eq]
  exact body p e s m below meth c B.exec B.bytes hml B.returns (findClass_of_methodNamed B.named) (fun w hw => hts w (List.mem_cons_of_mem _ hw)) B.notSynchronized hsv _ hl
theorem pm_coder {l : Launch} {adK adV : Nat → Nat} {i : Nat} (hi : i < 3) : pmM l yJ0_coder_7d493 cJ0_coder_7d493 1 (some .byte) 0 0 adK adV [.ref (adK i)] (some (.int 0)) := by
  refine pm_of (by decide) (Nat.le_of_ble_eq_true rfl) ?_
  intro p e s m below meth c hx hb hml hr hown hts hlk hE ls hl
  have hS : va_S (fun q => s.heap.size ≤ q) s.heap s.heap [] := va_S.rf
  refine va_gets hx hb hE.2.2.2.2.1 hS hown (hts (.fieldLink RJ0 38 "java/lang/String" "COMPACT_STRINGS" "Z") (by decide +kernel)) (fun _ h => h) dJ0_coder_7d493_0 ?_
  refine lv_if_eq hx hb dJ0_coder_7d493_3 (tgt := 13) (by decide) (fun h => absurd h (by decide)) (fun _ => ?_)
  refine lv_aload_n hx hb dJ0_coder_7d493_6 rfl (lv_at hl 0 rfl) ?_
  refine vk_getf hx hb (hE.1.1 i hi).2.1 hS hown (hts (.fieldLink RJ0 15 "java/lang/String" "coder" "B") (by decide +kernel)) (fun _ h => h) dJ0_coder_7d493_7 ?_
  refine lv_goto hx hb dJ0_coder_7d493_10 (tgt := 14) (by decide) ?_
  exact W.zret hx hb hr rfl (fun t ht _ => ⟨rfl, hS.F ht⟩) hS.2.2 dJ0_coder_7d493_14
theorem pm_isLatin1 {l : Launch} {adK adV : Nat → Nat} {i : Nat} (hi : i < 3) : pmM l yJ0_isLatin1_aae02 cJ0_isLatin1_aae02 1 (some .boolean) 0 0 adK adV [.ref (adK i)] (some (.int 1)) := by
  refine pm_of (by decide) (Nat.le_of_ble_eq_true rfl) ?_
  intro p e s m below meth c hx hb hml hr hown hts hlk hE ls hl
  have hS : va_S (fun q => s.heap.size ≤ q) s.heap s.heap [] := va_S.rf
  refine va_gets hx hb hE.2.2.2.2.1 hS hown (hts (.fieldLink RJ0 38 "java/lang/String" "COMPACT_STRINGS" "Z") (by decide +kernel)) (fun _ h => h) dJ0_isLatin1_aae02_0 ?_
  refine lv_if_eq hx hb dJ0_isLatin1_aae02_3 (tgt := 17) (by decide) (fun h => absurd h (by decide)) (fun _ => ?_)
  refine lv_aload_n hx hb dJ0_isLatin1_aae02_6 rfl (lv_at hl 0 rfl) ?_
  refine vk_getf hx hb (hE.1.1 i hi).2.1 hS hown (hts (.fieldLink RJ0 15 "java/lang/String" "coder" "B") (by decide +kernel)) (fun _ h => h) dJ0_isLatin1_aae02_7 ?_
  refine lv_if_ne hx hb dJ0_isLatin1_aae02_10 (tgt := 17) (by decide) (fun h => absurd rfl h) (fun _ => ?_)
  refine lv_iconst hx hb dJ0_isLatin1_aae02_13 (v := 1) (by decide) ?_
  refine lv_goto hx hb dJ0_isLatin1_aae02_14 (tgt := 18) (by decide) ?_
  exact W.zret hx hb hr rfl (fun t ht _ => ⟨rfl, hS.F ht⟩) hS.2.2 dJ0_isLatin1_aae02_18
theorem pm_length {l : Launch} {adK adV : Nat → Nat} {i : Nat} (hi : i < 3) : pmM l yJ0_length_8abf5 cJ0_length_8abf5 1 (some .int) 1 64 adK adV [.ref (adK i)] (some (.int (nI (tx_len i)))) := by
  refine pm_of (by decide) (Nat.le_of_ble_eq_true rfl) ?_
  intro p e s m below meth c hx hb hml hr hown hts hlk hE ls hl
  have hS : va_S (fun q => s.heap.size ≤ q) s.heap s.heap [] := va_S.rf
  refine lv_aload_n hx hb dJ0_length_8abf5_0 rfl (lv_at hl 0 rfl) ?_
  refine vk_getf hx hb (hE.1.1 i hi).2.2.1 hS hown (hts (.fieldLink RJ0 9 "java/lang/String" "value" "[B") (by decide +kernel)) (fun _ h => h) dJ0_length_8abf5_1 ?_
  refine va_tlen hx hb (hE.1.1 i hi).2.2.2 hS (v := nI (tx_len i)) rfl dJ0_length_8abf5_4 ?_
  refine lv_aload_n hx hb dJ0_length_8abf5_5 rfl (lv_at hl 0 rfl) ?_
  refine pm_cv (n := 0) (As := []) (rest := [.int (nI (tx_len i))]) (C := RJ0) (b := adK i) hx hb hml hl.1 hown hts (fun q h => h) hE hS (pm_coder hi) (by decide +kernel) (by decide +kernel) (by decide +kernel) (by decide +kernel) (own := RJ0) (by decide +kernel) (by decide) (by decide +kernel) rfl (vk_recv hE.1 hi hS) (Nat.le_of_ble_eq_true rfl) (Nat.le_of_ble_eq_true rfl) (Nat.le_of_ble_eq_true rfl) dJ0_length_8abf5_6 ⟨Nat.zero_le _, Nat.zero_le _⟩ ?_
  intro H2 locs2 hS2 hz hq
  refine lv_ishr hx hb dJ0_length_8abf5_9 ?_
  have e0 : nI (tx_len i) >>> ((0 : Int32) &&& 31) = nI (tx_len i) := by
    have h6 := (tx_facts i hi).1
    generalize tx_len i = n at h6 ⊢
    revert n
    decide +kernel
  rw [e0]
  exact W.iret hx hb hr (fun t ht _ => ⟨rfl, hS2.F ht⟩) hS2.2.2 dJ0_length_8abf5_10
theorem pm_check3 {l : Launch} {adK adV : Nat → Nat} {k n : Nat} (hk : k < n) (hn : n < 6) {w : Value} (hw : w = .null ∨ ∃ t, w = .ref t) : pmM l yJ3_checkIndex_8e157 cJ3_checkIndex_8e157 3 (some .int) 0 0 adK adV [.int (nI k), .int (nI n), w] (some (.int (nI k))) := by
  have key : (lg_sl [.int (nI k), .int (nI n), w]).length ≤ 3 ∧ lv_args 0 [.int (nI k), .int (nI n), w] = [(0, .int (nI k)), (1, .int (nI n)), (2, w)] := by
    rcases hw with rfl | ⟨t, rfl⟩ <;> exact ⟨Nat.le_of_ble_eq_true rfl, rfl⟩
  refine pm_of (by decide) key.1 ?_
  intro p e s m below meth c hx hb hml hr hown hts hlk hE ls hl
  have hS : va_S (fun q => s.heap.size ≤ q) s.heap s.heap [] := va_S.rf
  rw [key.2] at hl
  refine lv_iload_n hx hb dJ3_checkIndex_8e157_0 rfl (lv_at hl 0 rfl) ?_
  refine lv_if_lt hx hb dJ3_checkIndex_8e157_1 (tgt := 9) (by decide) (fun h => absurd h (nI_pos (by omega))) (fun _ => ?_)
  refine lv_iload_n hx hb dJ3_checkIndex_8e157_4 rfl (lv_at hl 0 rfl) ?_
  refine lv_iload_n hx hb dJ3_checkIndex_8e157_5 rfl (lv_at hl 1 rfl) ?_
  refine lv_icmp_lt hx hb dJ3_checkIndex_8e157_6 (tgt := 16) (by decide) (fun _ => ?_) (fun h => absurd (nI_lt hk (by omega)) h)
  refine lv_iload_n hx hb dJ3_checkIndex_8e157_16 rfl (lv_at hl 0 rfl) ?_
  exact W.iret hx hb hr (fun t ht _ => ⟨rfl, hS.F ht⟩) hS.2.2 dJ3_checkIndex_8e157_17
theorem pm_check {l : Launch} {adK adV : Nat → Nat} {k n : Nat} (hk : k < n) (hn : n < 6) : pmM l yJ0_checkIndex_df160 cJ0_checkIndex_df160 2 none 1 64 adK adV [.int (nI k), .int (nI n)] none := by
  refine pm_of (by decide) (Nat.le_of_ble_eq_true rfl) ?_
  intro p e s m below meth c hx hb hml hr hown hts hlk hE ls hl
  have hS : va_S (fun q => s.heap.size ≤ q) s.heap s.heap [] := va_S.rf
  have hl : lv_has ls 2 [(0, .int (nI k)), (1, .int (nI n))] := hl
  refine lv_iload_n hx hb dJ0_checkIndex_df160_0 rfl (lv_at hl 0 rfl) ?_
  refine lv_iload_n hx hb dJ0_checkIndex_df160_1 rfl (lv_at hl 1 rfl) ?_
  have go : ∀ w : Value, (w = .null ∨ ∃ t, w = .ref t) → va_Z "jdk/internal/util/Preconditions" "SIOOBE_FORMATTER" "Ljava/util/function/BiFunction;" w (fun q => s.heap.size ≤ q) s s.heap → W p l e { frames := 1, cells := 0, slots := 0, locals := 64 } s m #[.int (nI k), .int (nI n)] below meth c s.heap [] 0 0 (MQ below (pmQ s.heap.size none) #[.int (nI k), .int (nI n)] s 0 0 (fun q => s.heap.size ≤ q)) (F0 m 2 ls [.int (nI n), .int (nI k)]) := by
    intro w hw hZ
    refine va_gets hx hb hZ hS hown (hts (.fieldLink RJ0 1053 "jdk/internal/util/Preconditions" "SIOOBE_FORMATTER" "Ljava/util/function/BiFunction;") (by decide +kernel)) (fun _ h => h) dJ0_checkIndex_df160_2 ?_
    refine pm_cs (n := 3) (As := [.int (nI k), .int (nI n), w]) (rest := []) hx hb hml hl.1 hown hts (fun q h => h) hE hS (pm_check3 hk hn hw) (by decide +kernel) (by decide +kernel) (by decide +kernel) (own := RJ0) (by decide +kernel) (by decide) (by decide +kernel) rfl (Nat.le_of_ble_eq_true rfl) (Nat.le_of_ble_eq_true rfl) (Nat.le_of_ble_eq_true rfl) dJ0_checkIndex_df160_5 ⟨Nat.zero_le _, Nat.zero_le _⟩ ?_
    intro H2 locs2 hS2 hz hq
    refine lv_pop hx hb dJ0_checkIndex_df160_8 rfl ?_
    exact W.vret hx hb hr (fun t ht _ => ⟨rfl, hS2.F ht⟩) hS2.2.2 dJ0_checkIndex_df160_9
  rcases hE.2.2.2.2.2 with h | ⟨t, h⟩
  · exact go _ (Or.inl rfl) h
  · exact go _ (Or.inr ⟨t, rfl⟩) h
theorem pm_char1 {l : Launch} {adK adV : Nat → Nat} {i k : Nat} (hi : i < 3) (hk : k < tx_len i) : pmM l yJ1_charAt_3b067 cJ1_charAt_3b067 2 (some .char) 2 128 adK adV [.ref (adV i), .int (nI k)] (some (.int (tx_ch i k))) := by
  obtain ⟨h6, hch⟩ := tx_facts i hi
  refine pm_of (by decide) (Nat.le_of_ble_eq_true rfl) ?_
  intro p e s m below meth c hx hb hml hr hown hts hlk hE ls hl
  have hS : va_S (fun q => s.heap.size ≤ q) s.heap s.heap [] := va_S.rf
  have hl : lv_has ls 2 [(0, .ref (adV i)), (1, .int (nI k))] := hl
  refine lv_iload_n hx hb dJ1_charAt_3b067_0 rfl (lv_at hl 1 rfl) ?_
  refine lv_aload_n hx hb dJ1_charAt_3b067_1 rfl (lv_at hl 0 rfl) ?_
  refine va_tlen hx hb (hE.1.1 i hi).2.2.2 hS (v := nI (tx_len i)) rfl dJ1_charAt_3b067_2 ?_
  refine pm_cs (n := 2) (As := [.int (nI k), .int (nI (tx_len i))]) (rest := []) hx hb hml hl.1 hown hts (fun q h => h) hE hS (pm_check hk h6) (by decide +kernel) (by decide +kernel) (by decide +kernel) (own := RJ1) (by decide +kernel) (by decide) (by decide +kernel) rfl (Nat.le_of_ble_eq_true rfl) (Nat.le_of_ble_eq_true rfl) (Nat.le_of_ble_eq_true rfl) dJ1_charAt_3b067_3 ⟨Nat.zero_le _, Nat.zero_le _⟩ ?_
  intro H2 locs2 hS2 hz hq
  refine lv_aload_n hx hb dJ1_charAt_3b067_6 rfl (lv_at hl 0 rfl) ?_
  refine lv_iload_n hx hb dJ1_charAt_3b067_7 rfl (lv_at hl 1 rfl) ?_
  refine va_tb hx hb (hE.1.1 i hi).2.2.2 hS2 (i := nI k) (vp_in_nI hk (show tx_len i < 2 ^ 31 by omega)) (v := .int (tx_ch i k)) (by rw [nI_clamp (by omega)]; rfl) dJ1_charAt_3b067_8 ?_
  refine lv_sipush hx hb dJ1_charAt_3b067_9 (v := 255) (by decide) ?_
  refine lv_iand hx hb dJ1_charAt_3b067_12 ?_
  refine lv_i2c hx hb dJ1_charAt_3b067_13 (v := tx_ch i k) (hch k hk).1 ?_
  exact W.zret hx hb hr (hch k hk).2 (fun t ht _ => ⟨rfl, hS2.F ht⟩) hS2.2.2 dJ1_charAt_3b067_14
theorem pm_charAt {l : Launch} {adK adV : Nat → Nat} {i k : Nat} (hi : i < 3) (hk : k < tx_len i) : pmM l yJ0_charAt_5068e cJ0_charAt_5068e 2 (some .char) 3 192 adK adV [.ref (adK i), .int (nI k)] (some (.int (tx_ch i k))) := by
  obtain ⟨h6, hch⟩ := tx_facts i hi
  refine pm_of (by decide) (Nat.le_of_ble_eq_true rfl) ?_
  intro p e s m below meth c hx hb hml hr hown hts hlk hE ls hl
  have hS : va_S (fun q => s.heap.size ≤ q) s.heap s.heap [] := va_S.rf
  have hl : lv_has ls 2 [(0, .ref (adK i)), (1, .int (nI k))] := hl
  refine lv_aload_n hx hb dJ0_charAt_5068e_0 rfl (lv_at hl 0 rfl) ?_
  refine pm_cv (n := 0) (As := []) (rest := []) (C := RJ0) (b := adK i) hx hb hml hl.1 hown hts (fun q h => h) hE hS (pm_isLatin1 hi) (by decide +kernel) (by decide +kernel) (by decide +kernel) (by decide +kernel) (own := RJ0) (by decide +kernel) (by decide) (by decide +kernel) rfl (vk_recv hE.1 hi hS) (Nat.le_of_ble_eq_true rfl) (Nat.le_of_ble_eq_true rfl) (Nat.le_of_ble_eq_true rfl) dJ0_charAt_5068e_1 ⟨Nat.zero_le _, Nat.zero_le _⟩ ?_
  intro H2 locs2 hS2 hz hq
  refine lv_if_eq hx hb dJ0_charAt_5068e_4 (tgt := 16) (by decide) (fun h => absurd h (by decide)) (fun _ => ?_)
  refine lv_aload_n hx hb dJ0_charAt_5068e_7 rfl (lv_at hl 0 rfl) ?_
  refine vk_getf hx hb (hE.1.1 i hi).2.2.1 hS2 hown (hts (.fieldLink RJ0 9 "java/lang/String" "value" "[B") (by decide +kernel)) (fun _ h => h) dJ0_charAt_5068e_8 ?_
  refine lv_iload_n hx hb dJ0_charAt_5068e_11 rfl (lv_at hl 1 rfl) ?_
  refine pm_cs (n := 2) (As := [.ref (adV i), .int (nI k)]) (rest := []) hx hb hml hl.1 hown hts (fun q h => h) hE hS2 (pm_char1 hi hk) (by decide +kernel) (by decide +kernel) (by decide +kernel) (own := RJ0) (by decide +kernel) (by decide) (by decide +kernel) rfl (Nat.le_of_ble_eq_true rfl) (Nat.le_of_ble_eq_true rfl) (Nat.le_of_ble_eq_true rfl) dJ0_charAt_5068e_12 ⟨Nat.zero_le _, Nat.zero_le _⟩ ?_
  intro H3 locs3 hS3 hz3 hq3
  exact W.zret hx hb hr (hch k hk).2 (fun t ht _ => ⟨rfl, hS3.F ht⟩) hS3.2.2 dJ0_charAt_5068e_15
