/-! one instruction of the small machine, one of the true one -/
def mm_gd : List Cond := lw_tbl.filter goodWord
def mm_isN : Cond → Bool
  | .methodLinkNest _ _ _ _ => true
  | _ => false
def mm_ns : List Cond := lw_tbl.filter mm_isN
def mm_ao (U : State) : Prop := (Cond.arrayOver (.object RX7)).before #[] U = true ∧ (Cond.arrayOver (.array .int)).before #[] U = true ∧ (Cond.arrayOver (.array .long)).before #[] U = true
def mm_cx (D : va_G) (aC : Nat → ClassId) (A : Nat → Prop) (M : mm_M) (p : Program) (R : Room) (s : State) (m : MethodId) (args : Array Value) (meth : Method) (c : Code) (dd : Nat) : Prop :=
  p.tables.exec = Jvm.exec ∧ c.code = M.2.2.1 ∧ c.maxLocals = M.2.2.2.1 ∧ meth.sig.returnType = M.2.2.2.2.1 ∧ s.vm.findClass (mm_nm M.1) = some m.cls ∧ (∀ w ∈ mm_gd, w.before args s = true) ∧ meth.locks = false ∧ (M.2.2.2.2.2.2.1 = 2 → meth.name = "<init>") ∧ va_K D mm_cl (mm_tys aC) s ∧ (∀ w ∈ mm_ns, va_Nw w s) ∧ (∀ q, s.heap.size ≤ q → A q) ∧ mm_ao s ∧ (dd + 12 ≤ R.frames ∧ 64 * (dd + 12) ≤ R.locals)
/-- the texts that the class reads: hit, empty, mark -/
def mm_by : List (List Int32) := [[104, 105, 116], [101, 109, 112, 116, 121], [109, 97, 114, 107]]
def mm_sw (A : Nat → Prop) (U : State) (Hp : Heap) : Prop := ∃ adK adV : Nat → Nat, vk_S 3 [3, 5, 4] mm_by adK adV A U Hp ∧ vk_R RX8 51 "hit" (adK 0) U ∧ vk_R RX8 57 "empty" (adK 1) U ∧ vk_R RX8 59 "mark" (adK 2) U ∧ va_Z "java/lang/String" "COMPACT_STRINGS" "Z" (.int 1) A U Hp ∧ va_Zq "jdk/internal/util/Preconditions" "SIOOBE_FORMATTER" "Ljava/util/function/BiFunction;" A U Hp
theorem mm_sw_to {A B : Nat → Prop} {s U : State} (h : mm_sw A s s.heap) (hq : ∀ a : Nat, a < s.heap.size → ¬ A a → U.heap[a]? = s.heap[a]?) (hW : s.WarmedH U.vm) (hAB : ∀ q, B q → A q) : mm_sw B U U.heap := by
  obtain ⟨adK, adV, h1, h2, h3, h4, h5, h6⟩ := h
  exact ⟨adK, adV, vk_S.moved hW.alike (vk_S.narrow (h1.kept hq) hAB), vk_R.warm hW h2, vk_R.warm hW h3, vk_R.warm hW h4, va_Z.moved hW.alike (va_Z.narrow (h5.kept hq) hAB), va_Zq.moved hW.alike (va_Zq.narrow (h6.kept hq) hAB)⟩
theorem mm_sw_same {A : Nat → Prop} {s U : State} (hv : U.vm = s.vm) (hh : U.heap = s.heap) (h : mm_sw A s s.heap) : mm_sw A U U.heap := by
  obtain ⟨adK, adV, h1, h2, h3, h4, h5, h6⟩ := h
  have al : s.vm.Alike U.vm := by rw [hv]; exact Vm.Alike.refl s.vm
  rw [hh]
  exact ⟨adK, adV, vk_S.moved al h1, vk_R.same hv h2, vk_R.same hv h3, vk_R.same hv h4, va_Z.moved al h5, va_Zq.moved al h6⟩
def mm_sc (A : Nat → Prop) (ad : Nat → Nat) (s : State) (H : mm_H) : Prop := (∀ n, H.1.2.2 1 = .inr (6, n) → va_X (ad 1) n (H.2.2.1 1) s s.heap ∧ ad 1 < s.heap.size ∧ ¬ A (ad 1)) ∧ mm_sw A s s.heap
def mm_relH (D : va_G) (aC : Nat → ClassId) (A : Nat → Prop) (ad0 : Nat → Nat) (n0 s0 : Nat) (s : State) (ad : Nat → Nat) (Hp : Heap) (locs : List Loc) (H : mm_H) : Prop :=
  (∀ r, r < n0 → ad r = ad0 r) ∧ (n0 ≤ H.1.1 ∧ s0 ≤ H.1.2.1) ∧ va_P D mm_cl (mm_ws aC ad H) Hp ∧ va_D A (mm_ws aC ad H) ∧ va_S A s.heap Hp locs ∧ mm_ho H ∧ mm_sc A ad s H
def mm_Wp (p : Program) (l : Launch) (e : Env) (R : Room) (s : State) (m : MethodId) (args : Array Value) (below : List Frame) (meth : Method) (c : Code) (D : va_G) (aC : Nat → ClassId) (A : Nat → Prop) (ad0 : Nat → Nat) (n0 s0 : Nat) (M : mm_M) (Q : State → Prop) (pc : Nat) (ls st : List Value) (H : mm_H) : Prop :=
  ∀ (ad : Nat → Nat) (Hp : Heap) (locs : List Loc) (rl : Array Slot), mm_relH D aC A ad0 n0 s0 s ad Hp locs H → mm_relL M ad H.1.1 rl ls → mm_so H.1.1 st → W p l e R s m args below meth c Hp locs (H.1.1 - n0) (H.1.2.1 - s0) Q (F0 m pc rl (st.map (mm_tv ad)))
theorem mm_inj {a a' : Nat} {b c b' c' : List Value} {H H' : mm_H} (h : mm_go a b c H = some (.inl (a', b', c', H'))) : a' = a ∧ b' = b ∧ c' = c ∧ H' = H := by
  have h1 := Sum.inl.inj (Option.some.inj h)
  cases h1
  exact ⟨rfl, rfl, rfl, rfl⟩
theorem mm_jmp_inv {pc : Nat} {off : Int} {ls st : List Value} {H : mm_H} {o : mm_O} (h : mm_jmp pc off ls st H = some o) : ∃ tgt : Nat, (pc : Int) + off = (tgt : Int) ∧ mm_go tgt ls st H = some o := by
  unfold mm_jmp at h
  by_cases h0 : 0 ≤ (pc : Int) + off
  · rw [if_pos h0] at h
    exact ⟨((pc : Int) + off).toNat, (Int.toNat_of_nonneg h0).symm, h⟩
  · rw [if_neg h0] at h; cases h
theorem mm_bI_inv {f : Int32 → Int32 → Int32} {ls st : List Value} {H : mm_H} {pc : Nat} {o : mm_O} (h : mm_bI f ls st H pc = some o) : ∃ y x st', st = .int y :: .int x :: st' ∧ mm_go (pc + 1) ls (.int (f x y) :: st') H = some o := by
  unfold mm_bI at h
  split at h
  · exact ⟨_, _, _, rfl, h⟩
  · cases h
theorem mm_dI_inv {f : Int32 → Int32 → Int32} {ls st : List Value} {H : mm_H} {pc : Nat} {o : mm_O} (h : mm_dI f ls st H pc = some o) : ∃ y x st', st = .int y :: .int x :: st' ∧ ¬ y = 0 ∧ mm_go (pc + 1) ls (.int (f x y) :: st') H = some o := by
  unfold mm_dI at h
  split at h
  · rename_i y x st'
    by_cases h0 : y = 0
    · rw [if_pos h0] at h; cases h
    · rw [if_neg h0] at h
      exact ⟨_, _, _, rfl, h0, h⟩
  · cases h
theorem mm_bL_inv {f : Int64 → Int64 → Int64} {ls st : List Value} {H : mm_H} {pc : Nat} {o : mm_O} (h : mm_bL f ls st H pc = some o) : ∃ y x st', st = .long y :: .long x :: st' ∧ mm_go (pc + 1) ls (.long (f x y) :: st') H = some o := by
  unfold mm_bL at h
  split at h
  · exact ⟨_, _, _, rfl, h⟩
  · cases h
theorem mm_sL_inv {f : Int64 → Int32 → Int64} {ls st : List Value} {H : mm_H} {pc : Nat} {o : mm_O} (h : mm_sL f ls st H pc = some o) : ∃ y x st', st = .int y :: .long x :: st' ∧ mm_go (pc + 1) ls (.long (f x y) :: st') H = some o := by
  unfold mm_sL at h
  split at h
  · exact ⟨_, _, _, rfl, h⟩
  · cases h
theorem mm_j1_inv {P : Int32 → Prop} [hP : ∀ x, Decidable (P x)] {off : Int} {ls st : List Value} {H : mm_H} {pc : Nat} {o : mm_O} (h : mm_j1 P off ls st H pc = some o) : ∃ x st', st = .int x :: st' ∧ ((P x ∧ mm_jmp pc off ls st' H = some o) ∨ (¬ P x ∧ mm_go (pc + 3) ls st' H = some o)) := by
  unfold mm_j1 at h
  split at h
  · rename_i x st'
    by_cases h0 : P x
    · rw [if_pos h0] at h; exact ⟨_, _, rfl, Or.inl ⟨h0, h⟩⟩
    · rw [if_neg h0] at h; exact ⟨_, _, rfl, Or.inr ⟨h0, h⟩⟩
  · cases h
theorem mm_j2_inv {P : Int32 → Int32 → Prop} [hP : ∀ x y, Decidable (P x y)] {off : Int} {ls st : List Value} {H : mm_H} {pc : Nat} {o : mm_O} (h : mm_j2 P off ls st H pc = some o) : ∃ y x st', st = .int y :: .int x :: st' ∧ ((P x y ∧ mm_jmp pc off ls st' H = some o) ∨ (¬ P x y ∧ mm_go (pc + 3) ls st' H = some o)) := by
  unfold mm_j2 at h
  split at h
  · rename_i y x st'
    by_cases h0 : P x y
    · rw [if_pos h0] at h; exact ⟨_, _, _, rfl, Or.inl ⟨h0, h⟩⟩
    · rw [if_neg h0] at h; exact ⟨_, _, _, rfl, Or.inr ⟨h0, h⟩⟩
  · cases h
theorem mm_ldI_inv {ls st : List Value} {H : mm_H} {pc i : Nat} {o : mm_O} (h : mm_ldI ls st H pc i = some o) : ∃ x, ls[i]? = some (.int x) ∧ mm_go pc ls (.int x :: st) H = some o := by
  unfold mm_ldI at h
  split at h
  · exact ⟨_, by assumption, h⟩
  · cases h
theorem mm_ldL_inv {ls st : List Value} {H : mm_H} {pc i : Nat} {o : mm_O} (h : mm_ldL ls st H pc i = some o) : ∃ x, ls[i]? = some (.long x) ∧ mm_go pc ls (.long x :: st) H = some o := by
  unfold mm_ldL at h
  split at h
  · exact ⟨_, by assumption, h⟩
  · cases h
theorem mm_ldA_inv {ls st : List Value} {H : mm_H} {pc i : Nat} {o : mm_O} (h : mm_ldA ls st H pc i = some o) : (∃ x, ls[i]? = some (.ref x) ∧ mm_go pc ls (.ref x :: st) H = some o) ∨ (ls[i]? = some .null ∧ mm_go pc ls (.null :: st) H = some o) := by
  unfold mm_ldA at h
  split at h
  · exact Or.inl ⟨_, by assumption, h⟩
  · exact Or.inr ⟨by assumption, h⟩
  · cases h
theorem mm_stI_inv {M : mm_M} {ls st : List Value} {H : mm_H} {pc i : Nat} {o : mm_O} (h : mm_stI M ls st H pc i = some o) : ∃ x st', st = .int x :: st' ∧ mm_ok1 M i ls.length = true ∧ mm_go pc (ls.set i (.int x)) st' H = some o := by
  unfold mm_stI at h
  split at h
  · by_cases h0 : mm_ok1 M i ls.length = true
    · rw [if_pos h0] at h; exact ⟨_, _, rfl, h0, h⟩
    · rw [if_neg h0] at h; cases h
  · cases h
theorem mm_stA_inv {M : mm_M} {ls st : List Value} {H : mm_H} {pc i : Nat} {o : mm_O} (h : mm_stA M ls st H pc i = some o) : (∃ x st', st = .ref x :: st' ∧ mm_ok1 M i ls.length = true ∧ mm_go pc (ls.set i (.ref x)) st' H = some o) ∨ (∃ st', st = .null :: st' ∧ mm_ok1 M i ls.length = true ∧ mm_go pc (ls.set i .null) st' H = some o) := by
  unfold mm_stA at h
  split at h
  · by_cases h0 : mm_ok1 M i ls.length = true
    · rw [if_pos h0] at h; exact Or.inl ⟨_, _, rfl, h0, h⟩
    · rw [if_neg h0] at h; cases h
  · by_cases h0 : mm_ok1 M i ls.length = true
    · rw [if_pos h0] at h; exact Or.inr ⟨_, rfl, h0, h⟩
    · rw [if_neg h0] at h; cases h
  · cases h
theorem mm_stL_inv {M : mm_M} {ls st : List Value} {H : mm_H} {pc i : Nat} {o : mm_O} (h : mm_stL M ls st H pc i = some o) : ∃ x st', st = .long x :: st' ∧ mm_ok2 M i ls.length = true ∧ mm_go pc ((ls.set i (.long x)).set (i + 1) uu) st' H = some o := by
  unfold mm_stL at h
  split at h
  · by_cases h0 : mm_ok2 M i ls.length = true
    · rw [if_pos h0] at h; exact ⟨_, _, rfl, h0, h⟩
    · rw [if_neg h0] at h; cases h
  · cases h
theorem mm_iinc_inv {M : mm_M} {ls st : List Value} {H : mm_H} {pc i : Nat} {n : Int} {o : mm_O} (h : mm_iinc M ls st H pc i n = some o) : ∃ x, ls[i]? = some (.int x) ∧ mm_ok1 M i ls.length = true ∧ mm_go pc (ls.set i (.int (x + Int32.ofInt n))) st H = some o := by
  unfold mm_iinc at h
  split at h
  · by_cases h0 : mm_ok1 M i ls.length = true
    · rw [if_pos h0] at h; exact ⟨_, by assumption, h0, h⟩
    · rw [if_neg h0] at h; cases h
  · cases h
theorem mm_ok1_lt {M : mm_M} {i n : Nat} (h : mm_ok1 M i n = true) : i < n := by
  simp only [mm_ok1, Bool.and_eq_true, decide_eq_true_eq] at h
  exact h.1
theorem mm_ok2_lt {M : mm_M} {i n : Nat} (h : mm_ok2 M i n = true) : i + 1 < n := by
  simp only [mm_ok2, Bool.and_eq_true, decide_eq_true_eq] at h
  exact h.1.1
section MI
variable {p : Program} {l : Launch} {e : Env} {R : Room} {s : State} {m : MethodId} {args : Array Value} {below : List Frame} {meth : Method} {c : Code} {H : Heap} {locs : List Loc} {cells slots : Nat} {Q : State → Prop}
variable {cc : ByteArray} {pc : Nat} {ls : Array Slot} {rest : List Value}
theorem mm_if_eq (hexec : p.tables.exec = Jvm.exec) (hb : c.code = cc) {x : Int32} {off : Int} (hdg : decode cc pc = .ok (.ifCond .eq off, 3)) (h0 : ¬ (x = 0)) (k : W p l e R s m args below meth c H locs cells slots Q (F0 m (pc + 3) ls rest)) : W p l e R s m args below meth c H locs cells slots Q (F0 m pc ls (.int x :: rest)) := by
  intro T hT X
  obtain ⟨t, a, b⟩ := k T hT X
  refine ⟨t, ?_, b⟩
  jvm_step X.here [X.here.top, hexec, hb, hdg, Op.ifCond.holds, h0]
  exact a
theorem mm_icmp_eq (hexec : p.tables.exec = Jvm.exec) (hb : c.code = cc) {x y : Int32} {off : Int} (hdg : decode cc pc = .ok (.if_icmp .eq off, 3)) (h0 : ¬ (x = y)) (k : W p l e R s m args below meth c H locs cells slots Q (F0 m (pc + 3) ls rest)) : W p l e R s m args below meth c H locs cells slots Q (F0 m pc ls (.int y :: .int x :: rest)) := by
  intro T hT X
  obtain ⟨t, a, b⟩ := k T hT X
  refine ⟨t, ?_, b⟩
  jvm_step X.here [X.here.top, hexec, hb, hdg, Op.if_icmp.holds, h0]
  exact a
theorem mm_if_ne (hexec : p.tables.exec = Jvm.exec) (hb : c.code = cc) {x : Int32} {off : Int} (hdg : decode cc pc = .ok (.ifCond .ne off, 3)) (h0 : ¬ (¬ x = 0)) (k : W p l e R s m args below meth c H locs cells slots Q (F0 m (pc + 3) ls rest)) : W p l e R s m args below meth c H locs cells slots Q (F0 m pc ls (.int x :: rest)) := by
  have h0 := Decidable.of_not_not h0
  intro T hT X
  obtain ⟨t, a, b⟩ := k T hT X
  refine ⟨t, ?_, b⟩
  jvm_step X.here [X.here.top, hexec, hb, hdg, Op.ifCond.holds, h0]
  exact a
theorem mm_icmp_ne (hexec : p.tables.exec = Jvm.exec) (hb : c.code = cc) {x y : Int32} {off : Int} (hdg : decode cc pc = .ok (.if_icmp .ne off, 3)) (h0 : ¬ (¬ x = y)) (k : W p l e R s m args below meth c H locs cells slots Q (F0 m (pc + 3) ls rest)) : W p l e R s m args below meth c H locs cells slots Q (F0 m pc ls (.int y :: .int x :: rest)) := by
  have h0 := Decidable.of_not_not h0
  intro T hT X
  obtain ⟨t, a, b⟩ := k T hT X
  refine ⟨t, ?_, b⟩
  jvm_step X.here [X.here.top, hexec, hb, hdg, Op.if_icmp.holds, h0]
  exact a
theorem mm_if_lt (hexec : p.tables.exec = Jvm.exec) (hb : c.code = cc) {x : Int32} {off : Int} (hdg : decode cc pc = .ok (.ifCond .lt off, 3)) (h0 : ¬ (x < 0)) (k : W p l e R s m args below meth c H locs cells slots Q (F0 m (pc + 3) ls rest)) : W p l e R s m args below meth c H locs cells slots Q (F0 m pc ls (.int x :: rest)) := by
  intro T hT X
  obtain ⟨t, a, b⟩ := k T hT X
  refine ⟨t, ?_, b⟩
  jvm_step X.here [X.here.top, hexec, hb, hdg, Op.ifCond.holds, h0]
  exact a
theorem mm_icmp_lt (hexec : p.tables.exec = Jvm.exec) (hb : c.code = cc) {x y : Int32} {off : Int} (hdg : decode cc pc = .ok (.if_icmp .lt off, 3)) (h0 : ¬ (x < y)) (k : W p l e R s m args below meth c H locs cells slots Q (F0 m (pc + 3) ls rest)) : W p l e R s m args below meth c H locs cells slots Q (F0 m pc ls (.int y :: .int x :: rest)) := by
  intro T hT X
  obtain ⟨t, a, b⟩ := k T hT X
  refine ⟨t, ?_, b⟩
  jvm_step X.here [X.here.top, hexec, hb, hdg, Op.if_icmp.holds, h0]
  exact a
theorem mm_if_ge (hexec : p.tables.exec = Jvm.exec) (hb : c.code = cc) {x : Int32} {off : Int} (hdg : decode cc pc = .ok (.ifCond .ge off, 3)) (h0 : ¬ (0 ≤ x)) (k : W p l e R s m args below meth c H locs cells slots Q (F0 m (pc + 3) ls rest)) : W p l e R s m args below meth c H locs cells slots Q (F0 m pc ls (.int x :: rest)) := by
  intro T hT X
  obtain ⟨t, a, b⟩ := k T hT X
  refine ⟨t, ?_, b⟩
  jvm_step X.here [X.here.top, hexec, hb, hdg, Op.ifCond.holds, h0]
  exact a
theorem mm_icmp_ge (hexec : p.tables.exec = Jvm.exec) (hb : c.code = cc) {x y : Int32} {off : Int} (hdg : decode cc pc = .ok (.if_icmp .ge off, 3)) (h0 : ¬ (y ≤ x)) (k : W p l e R s m args below meth c H locs cells slots Q (F0 m (pc + 3) ls rest)) : W p l e R s m args below meth c H locs cells slots Q (F0 m pc ls (.int y :: .int x :: rest)) := by
  intro T hT X
  obtain ⟨t, a, b⟩ := k T hT X
  refine ⟨t, ?_, b⟩
  jvm_step X.here [X.here.top, hexec, hb, hdg, Op.if_icmp.holds, h0]
  exact a
theorem mm_if_gt (hexec : p.tables.exec = Jvm.exec) (hb : c.code = cc) {x : Int32} {off : Int} (hdg : decode cc pc = .ok (.ifCond .gt off, 3)) (h0 : ¬ (0 < x)) (k : W p l e R s m args below meth c H locs cells slots Q (F0 m (pc + 3) ls rest)) : W p l e R s m args below meth c H locs cells slots Q (F0 m pc ls (.int x :: rest)) := by
  intro T hT X
  obtain ⟨t, a, b⟩ := k T hT X
  refine ⟨t, ?_, b⟩
  jvm_step X.here [X.here.top, hexec, hb, hdg, Op.ifCond.holds, h0]
  exact a
theorem mm_icmp_gt (hexec : p.tables.exec = Jvm.exec) (hb : c.code = cc) {x y : Int32} {off : Int} (hdg : decode cc pc = .ok (.if_icmp .gt off, 3)) (h0 : ¬ (y < x)) (k : W p l e R s m args below meth c H locs cells slots Q (F0 m (pc + 3) ls rest)) : W p l e R s m args below meth c H locs cells slots Q (F0 m pc ls (.int y :: .int x :: rest)) := by
  intro T hT X
  obtain ⟨t, a, b⟩ := k T hT X
  refine ⟨t, ?_, b⟩
  jvm_step X.here [X.here.top, hexec, hb, hdg, Op.if_icmp.holds, h0]
  exact a
theorem mm_if_le (hexec : p.tables.exec = Jvm.exec) (hb : c.code = cc) {x : Int32} {off : Int} (hdg : decode cc pc = .ok (.ifCond .le off, 3)) (h0 : ¬ (x ≤ 0)) (k : W p l e R s m args below meth c H locs cells slots Q (F0 m (pc + 3) ls rest)) : W p l e R s m args below meth c H locs cells slots Q (F0 m pc ls (.int x :: rest)) := by
  intro T hT X
  obtain ⟨t, a, b⟩ := k T hT X
  refine ⟨t, ?_, b⟩
  jvm_step X.here [X.here.top, hexec, hb, hdg, Op.ifCond.holds, h0]
  exact a
theorem mm_icmp_le (hexec : p.tables.exec = Jvm.exec) (hb : c.code = cc) {x y : Int32} {off : Int} (hdg : decode cc pc = .ok (.if_icmp .le off, 3)) (h0 : ¬ (x ≤ y)) (k : W p l e R s m args below meth c H locs cells slots Q (F0 m (pc + 3) ls rest)) : W p l e R s m args below meth c H locs cells slots Q (F0 m pc ls (.int y :: .int x :: rest)) := by
  intro T hT X
  obtain ⟨t, a, b⟩ := k T hT X
  refine ⟨t, ?_, b⟩
  jvm_step X.here [X.here.top, hexec, hb, hdg, Op.if_icmp.holds, h0]
  exact a
end MI
section MP
variable {p : Program} {l : Launch} {e : Env} {R : Room} {s : State} {m : MethodId} {args : Array Value} {below : List Frame} {meth : Method} {c : Code} {D : va_G} {aC : Nat → ClassId} {A : Nat → Prop} {ad0 : Nat → Nat} {n0 s0 dd : Nat} {M : mm_M} {Q : State → Prop}
variable {pc pc' : Nat} {ls st ls' st' : List Value} {H H' : mm_H}
theorem mm_p_iconst {n : Int} (X : mm_cx D aC A M p R s m args meth c dd) (hd : decode M.2.2.1 pc = .ok (.iconst n, 1)) (h : mm_st M pc ls st H (.iconst n) = some (.inl (pc', ls', st', H'))) (k : mm_Wp p l e R s m args below meth c D aC A ad0 n0 s0 M Q pc' ls' st' H') : mm_Wp p l e R s m args below meth c D aC A ad0 n0 s0 M Q pc ls st H := by
  obtain ⟨rfl, rfl, rfl, rfl⟩ := mm_inj h
  exact fun ad Hp locs rl hH hL hs => lv_iconst X.1 X.2.1 hd rfl (k ad Hp locs rl hH hL ⟨trivial, hs⟩)
theorem mm_p_bipush {n : Int} (X : mm_cx D aC A M p R s m args meth c dd) (hd : decode M.2.2.1 pc = .ok (.bipush n, 2)) (h : mm_st M pc ls st H (.bipush n) = some (.inl (pc', ls', st', H'))) (k : mm_Wp p l e R s m args below meth c D aC A ad0 n0 s0 M Q pc' ls' st' H') : mm_Wp p l e R s m args below meth c D aC A ad0 n0 s0 M Q pc ls st H := by
  obtain ⟨rfl, rfl, rfl, rfl⟩ := mm_inj h
  exact fun ad Hp locs rl hH hL hs => lv_bipush X.1 X.2.1 hd rfl (k ad Hp locs rl hH hL ⟨trivial, hs⟩)
theorem mm_p_sipush {n : Int} (X : mm_cx D aC A M p R s m args meth c dd) (hd : decode M.2.2.1 pc = .ok (.sipush n, 3)) (h : mm_st M pc ls st H (.sipush n) = some (.inl (pc', ls', st', H'))) (k : mm_Wp p l e R s m args below meth c D aC A ad0 n0 s0 M Q pc' ls' st' H') : mm_Wp p l e R s m args below meth c D aC A ad0 n0 s0 M Q pc ls st H := by
  obtain ⟨rfl, rfl, rfl, rfl⟩ := mm_inj h
  exact fun ad Hp locs rl hH hL hs => lv_sipush X.1 X.2.1 hd rfl (k ad Hp locs rl hH hL ⟨trivial, hs⟩)
theorem mm_p_lconst {n : Fin 2} (X : mm_cx D aC A M p R s m args meth c dd) (hd : decode M.2.2.1 pc = .ok (.lconst n, 1)) (h : mm_st M pc ls st H (.lconst n) = some (.inl (pc', ls', st', H'))) (k : mm_Wp p l e R s m args below meth c D aC A ad0 n0 s0 M Q pc' ls' st' H') : mm_Wp p l e R s m args below meth c D aC A ad0 n0 s0 M Q pc ls st H := by
  obtain ⟨rfl, rfl, rfl, rfl⟩ := mm_inj h
  exact fun ad Hp locs rl hH hL hs => lv_lconst X.1 X.2.1 hd rfl (k ad Hp locs rl hH hL ⟨trivial, hs⟩)
theorem mm_p_aconst_null (X : mm_cx D aC A M p R s m args meth c dd) (hd : decode M.2.2.1 pc = .ok (.aconst_null, 1)) (h : mm_st M pc ls st H .aconst_null = some (.inl (pc', ls', st', H'))) (k : mm_Wp p l e R s m args below meth c D aC A ad0 n0 s0 M Q pc' ls' st' H') : mm_Wp p l e R s m args below meth c D aC A ad0 n0 s0 M Q pc ls st H := by
  obtain ⟨rfl, rfl, rfl, rfl⟩ := mm_inj h
  exact fun ad Hp locs rl hH hL hs => lv_null X.1 X.2.1 hd (k ad Hp locs rl hH hL ⟨trivial, hs⟩)
theorem mm_p_iload_n {i : Fin 4} (X : mm_cx D aC A M p R s m args meth c dd) (hd : decode M.2.2.1 pc = .ok (.iload_n i, 1)) (h : mm_st M pc ls st H (.iload_n i) = some (.inl (pc', ls', st', H'))) (k : mm_Wp p l e R s m args below meth c D aC A ad0 n0 s0 M Q pc' ls' st' H') : mm_Wp p l e R s m args below meth c D aC A ad0 n0 s0 M Q pc ls st H := by
  obtain ⟨x, hx, h⟩ := mm_ldI_inv h
  obtain ⟨rfl, rfl, rfl, rfl⟩ := mm_inj h
  exact fun ad Hp locs rl hH hL hs => lv_iload_n X.1 X.2.1 hd rfl (hL.2.2.1 _ _ hx rfl) (k ad Hp locs rl hH hL ⟨trivial, hs⟩)
theorem mm_p_iload {i : Nat} (X : mm_cx D aC A M p R s m args meth c dd) (hd : decode M.2.2.1 pc = .ok (.iload i, 2)) (h : mm_st M pc ls st H (.iload i) = some (.inl (pc', ls', st', H'))) (k : mm_Wp p l e R s m args below meth c D aC A ad0 n0 s0 M Q pc' ls' st' H') : mm_Wp p l e R s m args below meth c D aC A ad0 n0 s0 M Q pc ls st H := by
  obtain ⟨x, hx, h⟩ := mm_ldI_inv h
  obtain ⟨rfl, rfl, rfl, rfl⟩ := mm_inj h
  exact fun ad Hp locs rl hH hL hs => lv_iload X.1 X.2.1 hd (hL.2.2.1 _ _ hx rfl) (k ad Hp locs rl hH hL ⟨trivial, hs⟩)
theorem mm_p_lload_n {i : Fin 4} (X : mm_cx D aC A M p R s m args meth c dd) (hd : decode M.2.2.1 pc = .ok (.lload_n i, 1)) (h : mm_st M pc ls st H (.lload_n i) = some (.inl (pc', ls', st', H'))) (k : mm_Wp p l e R s m args below meth c D aC A ad0 n0 s0 M Q pc' ls' st' H') : mm_Wp p l e R s m args below meth c D aC A ad0 n0 s0 M Q pc ls st H := by
  obtain ⟨x, hx, h⟩ := mm_ldL_inv h
  obtain ⟨rfl, rfl, rfl, rfl⟩ := mm_inj h
  exact fun ad Hp locs rl hH hL hs => lv_lload_n X.1 X.2.1 hd rfl (hL.2.2.1 _ _ hx rfl) (k ad Hp locs rl hH hL ⟨trivial, hs⟩)
theorem mm_p_lload {i : Nat} (X : mm_cx D aC A M p R s m args meth c dd) (hd : decode M.2.2.1 pc = .ok (.lload i, 2)) (h : mm_st M pc ls st H (.lload i) = some (.inl (pc', ls', st', H'))) (k : mm_Wp p l e R s m args below meth c D aC A ad0 n0 s0 M Q pc' ls' st' H') : mm_Wp p l e R s m args below meth c D aC A ad0 n0 s0 M Q pc ls st H := by
  obtain ⟨x, hx, h⟩ := mm_ldL_inv h
  obtain ⟨rfl, rfl, rfl, rfl⟩ := mm_inj h
  exact fun ad Hp locs rl hH hL hs => lv_lload X.1 X.2.1 hd (hL.2.2.1 _ _ hx rfl) (k ad Hp locs rl hH hL ⟨trivial, hs⟩)
theorem mm_p_aload_n {i : Fin 4} (X : mm_cx D aC A M p R s m args meth c dd) (hd : decode M.2.2.1 pc = .ok (.aload_n i, 1)) (h : mm_st M pc ls st H (.aload_n i) = some (.inl (pc', ls', st', H'))) (k : mm_Wp p l e R s m args below meth c D aC A ad0 n0 s0 M Q pc' ls' st' H') : mm_Wp p l e R s m args below meth c D aC A ad0 n0 s0 M Q pc ls st H := by
  rcases mm_ldA_inv h with ⟨x, hx, h⟩ | ⟨hx, h⟩
  · obtain ⟨rfl, rfl, rfl, rfl⟩ := mm_inj h
    exact fun ad Hp locs rl hH hL hs => lv_aload_n X.1 X.2.1 hd rfl (hL.2.2.1 _ _ hx rfl) (k ad Hp locs rl hH hL ⟨hL.2.2.2.2 _ _ hx, hs⟩)
  · obtain ⟨rfl, rfl, rfl, rfl⟩ := mm_inj h
    exact fun ad Hp locs rl hH hL hs => lv_aload_nN X.1 X.2.1 hd rfl (hL.2.2.1 _ _ hx rfl) (k ad Hp locs rl hH hL ⟨trivial, hs⟩)
theorem mm_p_aload {i : Nat} (X : mm_cx D aC A M p R s m args meth c dd) (hd : decode M.2.2.1 pc = .ok (.aload i, 2)) (h : mm_st M pc ls st H (.aload i) = some (.inl (pc', ls', st', H'))) (k : mm_Wp p l e R s m args below meth c D aC A ad0 n0 s0 M Q pc' ls' st' H') : mm_Wp p l e R s m args below meth c D aC A ad0 n0 s0 M Q pc ls st H := by
  rcases mm_ldA_inv h with ⟨x, hx, h⟩ | ⟨hx, h⟩
  · obtain ⟨rfl, rfl, rfl, rfl⟩ := mm_inj h
    exact fun ad Hp locs rl hH hL hs => lv_aload X.1 X.2.1 hd (hL.2.2.1 _ _ hx rfl) (k ad Hp locs rl hH hL ⟨hL.2.2.2.2 _ _ hx, hs⟩)
  · obtain ⟨rfl, rfl, rfl, rfl⟩ := mm_inj h
    exact fun ad Hp locs rl hH hL hs => lv_aloadN X.1 X.2.1 hd (hL.2.2.1 _ _ hx rfl) (k ad Hp locs rl hH hL ⟨trivial, hs⟩)
theorem mm_p_istore_n {i : Fin 4} (X : mm_cx D aC A M p R s m args meth c dd) (hd : decode M.2.2.1 pc = .ok (.istore_n i, 1)) (h : mm_st M pc ls st H (.istore_n i) = some (.inl (pc', ls', st', H'))) (k : mm_Wp p l e R s m args below meth c D aC A ad0 n0 s0 M Q pc' ls' st' H') : mm_Wp p l e R s m args below meth c D aC A ad0 n0 s0 M Q pc ls st H := by
  obtain ⟨x, st1, rfl, ho, h⟩ := mm_stI_inv h
  obtain ⟨rfl, rfl, rfl, rfl⟩ := mm_inj h
  exact fun ad Hp locs rl hH hL hs => lv_istore_n X.1 X.2.1 hd rfl (mm_lv_has hL) (hL.1 ▸ mm_ok1_lt ho) rfl (fun rl' h' => k ad Hp locs rl' hH (mm_relL_st1 hL ho trivial (fun _ q => by cases q) h') hs.2)
theorem mm_p_istore {i : Nat} (X : mm_cx D aC A M p R s m args meth c dd) (hd : decode M.2.2.1 pc = .ok (.istore i, 2)) (h : mm_st M pc ls st H (.istore i) = some (.inl (pc', ls', st', H'))) (k : mm_Wp p l e R s m args below meth c D aC A ad0 n0 s0 M Q pc' ls' st' H') : mm_Wp p l e R s m args below meth c D aC A ad0 n0 s0 M Q pc ls st H := by
  obtain ⟨x, st1, rfl, ho, h⟩ := mm_stI_inv h
  obtain ⟨rfl, rfl, rfl, rfl⟩ := mm_inj h
  exact fun ad Hp locs rl hH hL hs => lv_istore X.1 X.2.1 hd (mm_lv_has hL) (hL.1 ▸ mm_ok1_lt ho) rfl (fun rl' h' => k ad Hp locs rl' hH (mm_relL_st1 hL ho trivial (fun _ q => by cases q) h') hs.2)
theorem mm_p_astore_n {i : Fin 4} (X : mm_cx D aC A M p R s m args meth c dd) (hd : decode M.2.2.1 pc = .ok (.astore_n i, 1)) (h : mm_st M pc ls st H (.astore_n i) = some (.inl (pc', ls', st', H'))) (k : mm_Wp p l e R s m args below meth c D aC A ad0 n0 s0 M Q pc' ls' st' H') : mm_Wp p l e R s m args below meth c D aC A ad0 n0 s0 M Q pc ls st H := by
  rcases mm_stA_inv h with ⟨x, st1, rfl, ho, h⟩ | ⟨st1, rfl, ho, h⟩
  · obtain ⟨rfl, rfl, rfl, rfl⟩ := mm_inj h
    exact fun ad Hp locs rl hH hL hs => lv_astore_n X.1 X.2.1 hd rfl (mm_lv_has hL) (hL.1 ▸ mm_ok1_lt ho) rfl (fun rl' h' => k ad Hp locs rl' hH (mm_relL_st1 hL ho hs.1 (fun _ q => by cases q) h') hs.2)
  · obtain ⟨rfl, rfl, rfl, rfl⟩ := mm_inj h
    exact fun ad Hp locs rl hH hL hs => lv_astore_nN X.1 X.2.1 hd rfl (mm_lv_has hL) (hL.1 ▸ mm_ok1_lt ho) rfl (fun rl' h' => k ad Hp locs rl' hH (mm_relL_st1 hL ho trivial (fun _ q => by cases q) h') hs.2)
theorem mm_p_astore {i : Nat} (X : mm_cx D aC A M p R s m args meth c dd) (hd : decode M.2.2.1 pc = .ok (.astore i, 2)) (h : mm_st M pc ls st H (.astore i) = some (.inl (pc', ls', st', H'))) (k : mm_Wp p l e R s m args below meth c D aC A ad0 n0 s0 M Q pc' ls' st' H') : mm_Wp p l e R s m args below meth c D aC A ad0 n0 s0 M Q pc ls st H := by
  rcases mm_stA_inv h with ⟨x, st1, rfl, ho, h⟩ | ⟨st1, rfl, ho, h⟩
  · obtain ⟨rfl, rfl, rfl, rfl⟩ := mm_inj h
    exact fun ad Hp locs rl hH hL hs => lv_astore X.1 X.2.1 hd (mm_lv_has hL) (hL.1 ▸ mm_ok1_lt ho) rfl (fun rl' h' => k ad Hp locs rl' hH (mm_relL_st1 hL ho hs.1 (fun _ q => by cases q) h') hs.2)
  · obtain ⟨rfl, rfl, rfl, rfl⟩ := mm_inj h
    exact fun ad Hp locs rl hH hL hs => lv_astoreN X.1 X.2.1 hd (mm_lv_has hL) (hL.1 ▸ mm_ok1_lt ho) rfl (fun rl' h' => k ad Hp locs rl' hH (mm_relL_st1 hL ho trivial (fun _ q => by cases q) h') hs.2)
theorem mm_p_lstore_n {i : Fin 4} (X : mm_cx D aC A M p R s m args meth c dd) (hd : decode M.2.2.1 pc = .ok (.lstore_n i, 1)) (h : mm_st M pc ls st H (.lstore_n i) = some (.inl (pc', ls', st', H'))) (k : mm_Wp p l e R s m args below meth c D aC A ad0 n0 s0 M Q pc' ls' st' H') : mm_Wp p l e R s m args below meth c D aC A ad0 n0 s0 M Q pc ls st H := by
  obtain ⟨x, st1, rfl, ho, h⟩ := mm_stL_inv h
  obtain ⟨rfl, rfl, rfl, rfl⟩ := mm_inj h
  exact fun ad Hp locs rl hH hL hs => lv_lstore_n X.1 X.2.1 hd rfl (mm_lv_has hL) (hL.1 ▸ mm_ok2_lt ho) rfl (fun rl' h' => k ad Hp locs rl' hH (mm_relL_st2 hL ho h') hs.2)
theorem mm_p_lstore {i : Nat} (X : mm_cx D aC A M p R s m args meth c dd) (hd : decode M.2.2.1 pc = .ok (.lstore i, 2)) (h : mm_st M pc ls st H (.lstore i) = some (.inl (pc', ls', st', H'))) (k : mm_Wp p l e R s m args below meth c D aC A ad0 n0 s0 M Q pc' ls' st' H') : mm_Wp p l e R s m args below meth c D aC A ad0 n0 s0 M Q pc ls st H := by
  obtain ⟨x, st1, rfl, ho, h⟩ := mm_stL_inv h
  obtain ⟨rfl, rfl, rfl, rfl⟩ := mm_inj h
  exact fun ad Hp locs rl hH hL hs => lv_lstore X.1 X.2.1 hd (mm_lv_has hL) (hL.1 ▸ mm_ok2_lt ho) rfl (fun rl' h' => k ad Hp locs rl' hH (mm_relL_st2 hL ho h') hs.2)
theorem mm_p_iinc {i : Nat} {n : Int} (X : mm_cx D aC A M p R s m args meth c dd) (hd : decode M.2.2.1 pc = .ok (.iinc i n, 3)) (h : mm_st M pc ls st H (.iinc i n) = some (.inl (pc', ls', st', H'))) (k : mm_Wp p l e R s m args below meth c D aC A ad0 n0 s0 M Q pc' ls' st' H') : mm_Wp p l e R s m args below meth c D aC A ad0 n0 s0 M Q pc ls st H := by
  obtain ⟨x, hx, ho, h⟩ := mm_iinc_inv h
  obtain ⟨rfl, rfl, rfl, rfl⟩ := mm_inj h
  intro ad Hp locs rl hH hL hs
  obtain ⟨k0, hk0⟩ := List.getElem?_of_mem (mm_lv_mem (ad := ad) (ls := ls) (q := (i, .int x)) |>.mpr ⟨.int x, hx, rfl, rfl⟩)
  exact lv_iinc X.1 X.2.1 hd (mm_lv_has hL) hk0 rfl (hL.1 ▸ mm_ok1_lt ho) rfl (fun rl' h' => k ad Hp locs rl' hH (mm_relL_st1 hL ho trivial (fun _ q => by cases q) h') hs)
theorem mm_p_iadd (X : mm_cx D aC A M p R s m args meth c dd) (hd : decode M.2.2.1 pc = .ok (.iadd, 1)) (h : mm_st M pc ls st H .iadd = some (.inl (pc', ls', st', H'))) (k : mm_Wp p l e R s m args below meth c D aC A ad0 n0 s0 M Q pc' ls' st' H') : mm_Wp p l e R s m args below meth c D aC A ad0 n0 s0 M Q pc ls st H := by
  obtain ⟨y, x, st1, rfl, h⟩ := mm_bI_inv h
  obtain ⟨rfl, rfl, rfl, rfl⟩ := mm_inj h
  exact fun ad Hp locs rl hH hL hs => lv_iadd X.1 X.2.1 hd (k ad Hp locs rl hH hL ⟨trivial, hs.2.2⟩)
theorem mm_p_isub (X : mm_cx D aC A M p R s m args meth c dd) (hd : decode M.2.2.1 pc = .ok (.isub, 1)) (h : mm_st M pc ls st H .isub = some (.inl (pc', ls', st', H'))) (k : mm_Wp p l e R s m args below meth c D aC A ad0 n0 s0 M Q pc' ls' st' H') : mm_Wp p l e R s m args below meth c D aC A ad0 n0 s0 M Q pc ls st H := by
  obtain ⟨y, x, st1, rfl, h⟩ := mm_bI_inv h
  obtain ⟨rfl, rfl, rfl, rfl⟩ := mm_inj h
  exact fun ad Hp locs rl hH hL hs => lv_isub X.1 X.2.1 hd (k ad Hp locs rl hH hL ⟨trivial, hs.2.2⟩)
theorem mm_p_imul (X : mm_cx D aC A M p R s m args meth c dd) (hd : decode M.2.2.1 pc = .ok (.imul, 1)) (h : mm_st M pc ls st H .imul = some (.inl (pc', ls', st', H'))) (k : mm_Wp p l e R s m args below meth c D aC A ad0 n0 s0 M Q pc' ls' st' H') : mm_Wp p l e R s m args below meth c D aC A ad0 n0 s0 M Q pc ls st H := by
  obtain ⟨y, x, st1, rfl, h⟩ := mm_bI_inv h
  obtain ⟨rfl, rfl, rfl, rfl⟩ := mm_inj h
  exact fun ad Hp locs rl hH hL hs => lv_imul X.1 X.2.1 hd (k ad Hp locs rl hH hL ⟨trivial, hs.2.2⟩)
theorem mm_p_iand (X : mm_cx D aC A M p R s m args meth c dd) (hd : decode M.2.2.1 pc = .ok (.iand, 1)) (h : mm_st M pc ls st H .iand = some (.inl (pc', ls', st', H'))) (k : mm_Wp p l e R s m args below meth c D aC A ad0 n0 s0 M Q pc' ls' st' H') : mm_Wp p l e R s m args below meth c D aC A ad0 n0 s0 M Q pc ls st H := by
  obtain ⟨y, x, st1, rfl, h⟩ := mm_bI_inv h
  obtain ⟨rfl, rfl, rfl, rfl⟩ := mm_inj h
  exact fun ad Hp locs rl hH hL hs => lv_iand X.1 X.2.1 hd (k ad Hp locs rl hH hL ⟨trivial, hs.2.2⟩)
theorem mm_p_ior (X : mm_cx D aC A M p R s m args meth c dd) (hd : decode M.2.2.1 pc = .ok (.ior, 1)) (h : mm_st M pc ls st H .ior = some (.inl (pc', ls', st', H'))) (k : mm_Wp p l e R s m args below meth c D aC A ad0 n0 s0 M Q pc' ls' st' H') : mm_Wp p l e R s m args below meth c D aC A ad0 n0 s0 M Q pc ls st H := by
  obtain ⟨y, x, st1, rfl, h⟩ := mm_bI_inv h
  obtain ⟨rfl, rfl, rfl, rfl⟩ := mm_inj h
  exact fun ad Hp locs rl hH hL hs => lv_ior X.1 X.2.1 hd (k ad Hp locs rl hH hL ⟨trivial, hs.2.2⟩)
theorem mm_p_ishl (X : mm_cx D aC A M p R s m args meth c dd) (hd : decode M.2.2.1 pc = .ok (.ishl, 1)) (h : mm_st M pc ls st H .ishl = some (.inl (pc', ls', st', H'))) (k : mm_Wp p l e R s m args below meth c D aC A ad0 n0 s0 M Q pc' ls' st' H') : mm_Wp p l e R s m args below meth c D aC A ad0 n0 s0 M Q pc ls st H := by
  obtain ⟨y, x, st1, rfl, h⟩ := mm_bI_inv h
  obtain ⟨rfl, rfl, rfl, rfl⟩ := mm_inj h
  exact fun ad Hp locs rl hH hL hs => lv_ishl X.1 X.2.1 hd (k ad Hp locs rl hH hL ⟨trivial, hs.2.2⟩)
theorem mm_p_ishr (X : mm_cx D aC A M p R s m args meth c dd) (hd : decode M.2.2.1 pc = .ok (.ishr, 1)) (h : mm_st M pc ls st H .ishr = some (.inl (pc', ls', st', H'))) (k : mm_Wp p l e R s m args below meth c D aC A ad0 n0 s0 M Q pc' ls' st' H') : mm_Wp p l e R s m args below meth c D aC A ad0 n0 s0 M Q pc ls st H := by
  obtain ⟨y, x, st1, rfl, h⟩ := mm_bI_inv h
  obtain ⟨rfl, rfl, rfl, rfl⟩ := mm_inj h
  exact fun ad Hp locs rl hH hL hs => lv_ishr X.1 X.2.1 hd (k ad Hp locs rl hH hL ⟨trivial, hs.2.2⟩)
theorem mm_p_iushr (X : mm_cx D aC A M p R s m args meth c dd) (hd : decode M.2.2.1 pc = .ok (.iushr, 1)) (h : mm_st M pc ls st H .iushr = some (.inl (pc', ls', st', H'))) (k : mm_Wp p l e R s m args below meth c D aC A ad0 n0 s0 M Q pc' ls' st' H') : mm_Wp p l e R s m args below meth c D aC A ad0 n0 s0 M Q pc ls st H := by
  obtain ⟨y, x, st1, rfl, h⟩ := mm_bI_inv h
  obtain ⟨rfl, rfl, rfl, rfl⟩ := mm_inj h
  exact fun ad Hp locs rl hH hL hs => lv_iushr X.1 X.2.1 hd rfl (k ad Hp locs rl hH hL ⟨trivial, hs.2.2⟩)
theorem mm_p_idiv (X : mm_cx D aC A M p R s m args meth c dd) (hd : decode M.2.2.1 pc = .ok (.idiv, 1)) (h : mm_st M pc ls st H .idiv = some (.inl (pc', ls', st', H'))) (k : mm_Wp p l e R s m args below meth c D aC A ad0 n0 s0 M Q pc' ls' st' H') : mm_Wp p l e R s m args below meth c D aC A ad0 n0 s0 M Q pc ls st H := by
  obtain ⟨y, x, st1, rfl, h0, h⟩ := mm_dI_inv h
  obtain ⟨rfl, rfl, rfl, rfl⟩ := mm_inj h
  exact fun ad Hp locs rl hH hL hs => lv_idiv X.1 X.2.1 hd h0 (k ad Hp locs rl hH hL ⟨trivial, hs.2.2⟩)
theorem mm_p_irem (X : mm_cx D aC A M p R s m args meth c dd) (hd : decode M.2.2.1 pc = .ok (.irem, 1)) (h : mm_st M pc ls st H .irem = some (.inl (pc', ls', st', H'))) (k : mm_Wp p l e R s m args below meth c D aC A ad0 n0 s0 M Q pc' ls' st' H') : mm_Wp p l e R s m args below meth c D aC A ad0 n0 s0 M Q pc ls st H := by
  obtain ⟨y, x, st1, rfl, h0, h⟩ := mm_dI_inv h
  obtain ⟨rfl, rfl, rfl, rfl⟩ := mm_inj h
  exact fun ad Hp locs rl hH hL hs => lv_irem X.1 X.2.1 hd h0 (k ad Hp locs rl hH hL ⟨trivial, hs.2.2⟩)
theorem mm_p_ladd (X : mm_cx D aC A M p R s m args meth c dd) (hd : decode M.2.2.1 pc = .ok (.ladd, 1)) (h : mm_st M pc ls st H .ladd = some (.inl (pc', ls', st', H'))) (k : mm_Wp p l e R s m args below meth c D aC A ad0 n0 s0 M Q pc' ls' st' H') : mm_Wp p l e R s m args below meth c D aC A ad0 n0 s0 M Q pc ls st H := by
  obtain ⟨y, x, st1, rfl, h⟩ := mm_bL_inv h
  obtain ⟨rfl, rfl, rfl, rfl⟩ := mm_inj h
  exact fun ad Hp locs rl hH hL hs => lv_ladd X.1 X.2.1 hd (k ad Hp locs rl hH hL ⟨trivial, hs.2.2⟩)
theorem mm_p_lsub (X : mm_cx D aC A M p R s m args meth c dd) (hd : decode M.2.2.1 pc = .ok (.lsub, 1)) (h : mm_st M pc ls st H .lsub = some (.inl (pc', ls', st', H'))) (k : mm_Wp p l e R s m args below meth c D aC A ad0 n0 s0 M Q pc' ls' st' H') : mm_Wp p l e R s m args below meth c D aC A ad0 n0 s0 M Q pc ls st H := by
  obtain ⟨y, x, st1, rfl, h⟩ := mm_bL_inv h
  obtain ⟨rfl, rfl, rfl, rfl⟩ := mm_inj h
  exact fun ad Hp locs rl hH hL hs => lv_lsub X.1 X.2.1 hd (k ad Hp locs rl hH hL ⟨trivial, hs.2.2⟩)
theorem mm_p_lmul (X : mm_cx D aC A M p R s m args meth c dd) (hd : decode M.2.2.1 pc = .ok (.lmul, 1)) (h : mm_st M pc ls st H .lmul = some (.inl (pc', ls', st', H'))) (k : mm_Wp p l e R s m args below meth c D aC A ad0 n0 s0 M Q pc' ls' st' H') : mm_Wp p l e R s m args below meth c D aC A ad0 n0 s0 M Q pc ls st H := by
  obtain ⟨y, x, st1, rfl, h⟩ := mm_bL_inv h
  obtain ⟨rfl, rfl, rfl, rfl⟩ := mm_inj h
  exact fun ad Hp locs rl hH hL hs => lv_lmul X.1 X.2.1 hd (k ad Hp locs rl hH hL ⟨trivial, hs.2.2⟩)
theorem mm_p_land (X : mm_cx D aC A M p R s m args meth c dd) (hd : decode M.2.2.1 pc = .ok (.land, 1)) (h : mm_st M pc ls st H .land = some (.inl (pc', ls', st', H'))) (k : mm_Wp p l e R s m args below meth c D aC A ad0 n0 s0 M Q pc' ls' st' H') : mm_Wp p l e R s m args below meth c D aC A ad0 n0 s0 M Q pc ls st H := by
  obtain ⟨y, x, st1, rfl, h⟩ := mm_bL_inv h
  obtain ⟨rfl, rfl, rfl, rfl⟩ := mm_inj h
  exact fun ad Hp locs rl hH hL hs => lv_land X.1 X.2.1 hd (k ad Hp locs rl hH hL ⟨trivial, hs.2.2⟩)
theorem mm_p_lor (X : mm_cx D aC A M p R s m args meth c dd) (hd : decode M.2.2.1 pc = .ok (.lor, 1)) (h : mm_st M pc ls st H .lor = some (.inl (pc', ls', st', H'))) (k : mm_Wp p l e R s m args below meth c D aC A ad0 n0 s0 M Q pc' ls' st' H') : mm_Wp p l e R s m args below meth c D aC A ad0 n0 s0 M Q pc ls st H := by
  obtain ⟨y, x, st1, rfl, h⟩ := mm_bL_inv h
  obtain ⟨rfl, rfl, rfl, rfl⟩ := mm_inj h
  exact fun ad Hp locs rl hH hL hs => lv_lor X.1 X.2.1 hd (k ad Hp locs rl hH hL ⟨trivial, hs.2.2⟩)
theorem mm_p_lxor (X : mm_cx D aC A M p R s m args meth c dd) (hd : decode M.2.2.1 pc = .ok (.lxor, 1)) (h : mm_st M pc ls st H .lxor = some (.inl (pc', ls', st', H'))) (k : mm_Wp p l e R s m args below meth c D aC A ad0 n0 s0 M Q pc' ls' st' H') : mm_Wp p l e R s m args below meth c D aC A ad0 n0 s0 M Q pc ls st H := by
  obtain ⟨y, x, st1, rfl, h⟩ := mm_bL_inv h
  obtain ⟨rfl, rfl, rfl, rfl⟩ := mm_inj h
  exact fun ad Hp locs rl hH hL hs => lv_lxor X.1 X.2.1 hd (k ad Hp locs rl hH hL ⟨trivial, hs.2.2⟩)
theorem mm_p_lshl (X : mm_cx D aC A M p R s m args meth c dd) (hd : decode M.2.2.1 pc = .ok (.lshl, 1)) (h : mm_st M pc ls st H .lshl = some (.inl (pc', ls', st', H'))) (k : mm_Wp p l e R s m args below meth c D aC A ad0 n0 s0 M Q pc' ls' st' H') : mm_Wp p l e R s m args below meth c D aC A ad0 n0 s0 M Q pc ls st H := by
  obtain ⟨y, x, st1, rfl, h⟩ := mm_sL_inv h
  obtain ⟨rfl, rfl, rfl, rfl⟩ := mm_inj h
  exact fun ad Hp locs rl hH hL hs => lv_lshl X.1 X.2.1 hd rfl (k ad Hp locs rl hH hL ⟨trivial, hs.2.2⟩)
theorem mm_p_lshr (X : mm_cx D aC A M p R s m args meth c dd) (hd : decode M.2.2.1 pc = .ok (.lshr, 1)) (h : mm_st M pc ls st H .lshr = some (.inl (pc', ls', st', H'))) (k : mm_Wp p l e R s m args below meth c D aC A ad0 n0 s0 M Q pc' ls' st' H') : mm_Wp p l e R s m args below meth c D aC A ad0 n0 s0 M Q pc ls st H := by
  obtain ⟨y, x, st1, rfl, h⟩ := mm_sL_inv h
  obtain ⟨rfl, rfl, rfl, rfl⟩ := mm_inj h
  exact fun ad Hp locs rl hH hL hs => lv_lshr X.1 X.2.1 hd rfl (k ad Hp locs rl hH hL ⟨trivial, hs.2.2⟩)
theorem mm_p_lushr (X : mm_cx D aC A M p R s m args meth c dd) (hd : decode M.2.2.1 pc = .ok (.lushr, 1)) (h : mm_st M pc ls st H .lushr = some (.inl (pc', ls', st', H'))) (k : mm_Wp p l e R s m args below meth c D aC A ad0 n0 s0 M Q pc' ls' st' H') : mm_Wp p l e R s m args below meth c D aC A ad0 n0 s0 M Q pc ls st H := by
  obtain ⟨y, x, st1, rfl, h⟩ := mm_sL_inv h
  obtain ⟨rfl, rfl, rfl, rfl⟩ := mm_inj h
  exact fun ad Hp locs rl hH hL hs => lv_lushr X.1 X.2.1 hd rfl (k ad Hp locs rl hH hL ⟨trivial, hs.2.2⟩)
theorem mm_p_ineg (X : mm_cx D aC A M p R s m args meth c dd) (hd : decode M.2.2.1 pc = .ok (.ineg, 1)) (h : mm_st M pc ls st H .ineg = some (.inl (pc', ls', st', H'))) (k : mm_Wp p l e R s m args below meth c D aC A ad0 n0 s0 M Q pc' ls' st' H') : mm_Wp p l e R s m args below meth c D aC A ad0 n0 s0 M Q pc ls st H := by
  match st, h with
  | .int x :: st1, h =>
    obtain ⟨rfl, rfl, rfl, rfl⟩ := mm_inj h
    exact fun ad Hp locs rl hH hL hs => lv_ineg X.1 X.2.1 hd (k ad Hp locs rl hH hL ⟨trivial, hs.2⟩)
theorem mm_p_i2l (X : mm_cx D aC A M p R s m args meth c dd) (hd : decode M.2.2.1 pc = .ok (.i2l, 1)) (h : mm_st M pc ls st H .i2l = some (.inl (pc', ls', st', H'))) (k : mm_Wp p l e R s m args below meth c D aC A ad0 n0 s0 M Q pc' ls' st' H') : mm_Wp p l e R s m args below meth c D aC A ad0 n0 s0 M Q pc ls st H := by
  match st, h with
  | .int x :: st1, h =>
    obtain ⟨rfl, rfl, rfl, rfl⟩ := mm_inj h
    exact fun ad Hp locs rl hH hL hs => lv_i2l X.1 X.2.1 hd rfl (k ad Hp locs rl hH hL ⟨trivial, hs.2⟩)
theorem mm_p_l2i (X : mm_cx D aC A M p R s m args meth c dd) (hd : decode M.2.2.1 pc = .ok (.l2i, 1)) (h : mm_st M pc ls st H .l2i = some (.inl (pc', ls', st', H'))) (k : mm_Wp p l e R s m args below meth c D aC A ad0 n0 s0 M Q pc' ls' st' H') : mm_Wp p l e R s m args below meth c D aC A ad0 n0 s0 M Q pc ls st H := by
  match st, h with
  | .long x :: st1, h =>
    obtain ⟨rfl, rfl, rfl, rfl⟩ := mm_inj h
    exact fun ad Hp locs rl hH hL hs => lv_l2i X.1 X.2.1 hd rfl (k ad Hp locs rl hH hL ⟨trivial, hs.2⟩)
theorem mm_p_lcmp (X : mm_cx D aC A M p R s m args meth c dd) (hd : decode M.2.2.1 pc = .ok (.lcmp, 1)) (h : mm_st M pc ls st H .lcmp = some (.inl (pc', ls', st', H'))) (k : mm_Wp p l e R s m args below meth c D aC A ad0 n0 s0 M Q pc' ls' st' H') : mm_Wp p l e R s m args below meth c D aC A ad0 n0 s0 M Q pc ls st H := by
  match st, h with
  | .long y :: .long x :: st1, h =>
    obtain ⟨rfl, rfl, rfl, rfl⟩ := mm_inj h
    exact fun ad Hp locs rl hH hL hs => W.lcmp X.1 X.2.1 hd (k ad Hp locs rl hH hL ⟨trivial, hs.2.2⟩)
theorem mm_p_pop (X : mm_cx D aC A M p R s m args meth c dd) (hd : decode M.2.2.1 pc = .ok (.pop, 1)) (h : mm_st M pc ls st H .pop = some (.inl (pc', ls', st', H'))) (k : mm_Wp p l e R s m args below meth c D aC A ad0 n0 s0 M Q pc' ls' st' H') : mm_Wp p l e R s m args below meth c D aC A ad0 n0 s0 M Q pc ls st H := by
  match st, h with
  | .int x :: st1, h =>
    obtain ⟨rfl, rfl, rfl, rfl⟩ := mm_inj h
    exact fun ad Hp locs rl hH hL hs => lv_pop X.1 X.2.1 hd rfl (k ad Hp locs rl hH hL hs.2)
theorem mm_p_dup2 (X : mm_cx D aC A M p R s m args meth c dd) (hd : decode M.2.2.1 pc = .ok (.dup2, 1)) (h : mm_st M pc ls st H .dup2 = some (.inl (pc', ls', st', H'))) (k : mm_Wp p l e R s m args below meth c D aC A ad0 n0 s0 M Q pc' ls' st' H') : mm_Wp p l e R s m args below meth c D aC A ad0 n0 s0 M Q pc ls st H := by
  match st, h with
  | .int x :: .ref y :: st1, h =>
    obtain ⟨rfl, rfl, rfl, rfl⟩ := mm_inj h
    exact fun ad Hp locs rl hH hL hs => lv_dup2_11 X.1 X.2.1 hd rfl rfl (k ad Hp locs rl hH hL ⟨trivial, hs.2.1, trivial, hs.2.1, hs.2.2⟩)
theorem mm_p_dup (X : mm_cx D aC A M p R s m args meth c dd) (hd : decode M.2.2.1 pc = .ok (.dup, 1)) (h : mm_st M pc ls st H .dup = some (.inl (pc', ls', st', H'))) (k : mm_Wp p l e R s m args below meth c D aC A ad0 n0 s0 M Q pc' ls' st' H') : mm_Wp p l e R s m args below meth c D aC A ad0 n0 s0 M Q pc ls st H := by
  match st, h with
  | .int x :: st1, h =>
    obtain ⟨rfl, rfl, rfl, rfl⟩ := mm_inj h
    exact fun ad Hp locs rl hH hL hs => lv_dup X.1 X.2.1 hd rfl (k ad Hp locs rl hH hL ⟨trivial, trivial, hs.2⟩)
  | .ref x :: st1, h =>
    obtain ⟨rfl, rfl, rfl, rfl⟩ := mm_inj h
    exact fun ad Hp locs rl hH hL hs => lv_dup X.1 X.2.1 hd rfl (k ad Hp locs rl hH hL ⟨hs.1, hs.1, hs.2⟩)
theorem mm_p_goto {off : Int} (X : mm_cx D aC A M p R s m args meth c dd) (hd : decode M.2.2.1 pc = .ok (.goto off, 3)) (h : mm_st M pc ls st H (.goto off) = some (.inl (pc', ls', st', H'))) (k : mm_Wp p l e R s m args below meth c D aC A ad0 n0 s0 M Q pc' ls' st' H') : mm_Wp p l e R s m args below meth c D aC A ad0 n0 s0 M Q pc ls st H := by
  obtain ⟨tgt, ht, h⟩ := mm_jmp_inv h
  obtain ⟨rfl, rfl, rfl, rfl⟩ := mm_inj h
  exact fun ad Hp locs rl hH hL hs => lv_goto X.1 X.2.1 hd ht (k ad Hp locs rl hH hL hs)
theorem mm_p_if_eq {off : Int} (X : mm_cx D aC A M p R s m args meth c dd) (hd : decode M.2.2.1 pc = .ok (.ifCond .eq off, 3)) (h : mm_st M pc ls st H (.ifCond .eq off) = some (.inl (pc', ls', st', H'))) (k : mm_Wp p l e R s m args below meth c D aC A ad0 n0 s0 M Q pc' ls' st' H') : mm_Wp p l e R s m args below meth c D aC A ad0 n0 s0 M Q pc ls st H := by
  obtain ⟨x, st1, rfl, ⟨h0, h⟩ | ⟨h0, h⟩⟩ := mm_j1_inv h
  · obtain ⟨tgt, ht, h⟩ := mm_jmp_inv h
    obtain ⟨rfl, rfl, rfl, rfl⟩ := mm_inj h
    exact fun ad Hp locs rl hH hL hs => lv_if_eq X.1 X.2.1 hd ht (fun _ => k ad Hp locs rl hH hL hs.2) (fun q => absurd h0 q)
  · obtain ⟨rfl, rfl, rfl, rfl⟩ := mm_inj h
    exact fun ad Hp locs rl hH hL hs => mm_if_eq X.1 X.2.1 hd h0 (k ad Hp locs rl hH hL hs.2)
theorem mm_p_icmp_eq {off : Int} (X : mm_cx D aC A M p R s m args meth c dd) (hd : decode M.2.2.1 pc = .ok (.if_icmp .eq off, 3)) (h : mm_st M pc ls st H (.if_icmp .eq off) = some (.inl (pc', ls', st', H'))) (k : mm_Wp p l e R s m args below meth c D aC A ad0 n0 s0 M Q pc' ls' st' H') : mm_Wp p l e R s m args below meth c D aC A ad0 n0 s0 M Q pc ls st H := by
  obtain ⟨y, x, st1, rfl, ⟨h0, h⟩ | ⟨h0, h⟩⟩ := mm_j2_inv h
  · obtain ⟨tgt, ht, h⟩ := mm_jmp_inv h
    obtain ⟨rfl, rfl, rfl, rfl⟩ := mm_inj h
    exact fun ad Hp locs rl hH hL hs => lv_icmp_eq X.1 X.2.1 hd ht (fun _ => k ad Hp locs rl hH hL hs.2.2) (fun q => absurd h0 q)
  · obtain ⟨rfl, rfl, rfl, rfl⟩ := mm_inj h
    exact fun ad Hp locs rl hH hL hs => mm_icmp_eq X.1 X.2.1 hd h0 (k ad Hp locs rl hH hL hs.2.2)
theorem mm_p_if_ne {off : Int} (X : mm_cx D aC A M p R s m args meth c dd) (hd : decode M.2.2.1 pc = .ok (.ifCond .ne off, 3)) (h : mm_st M pc ls st H (.ifCond .ne off) = some (.inl (pc', ls', st', H'))) (k : mm_Wp p l e R s m args below meth c D aC A ad0 n0 s0 M Q pc' ls' st' H') : mm_Wp p l e R s m args below meth c D aC A ad0 n0 s0 M Q pc ls st H := by
  obtain ⟨x, st1, rfl, ⟨h0, h⟩ | ⟨h0, h⟩⟩ := mm_j1_inv h
  · obtain ⟨tgt, ht, h⟩ := mm_jmp_inv h
    obtain ⟨rfl, rfl, rfl, rfl⟩ := mm_inj h
    exact fun ad Hp locs rl hH hL hs => lv_if_ne X.1 X.2.1 hd ht (fun _ => k ad Hp locs rl hH hL hs.2) (fun q => absurd q h0)
  · obtain ⟨rfl, rfl, rfl, rfl⟩ := mm_inj h
    exact fun ad Hp locs rl hH hL hs => mm_if_ne X.1 X.2.1 hd h0 (k ad Hp locs rl hH hL hs.2)
theorem mm_p_icmp_ne {off : Int} (X : mm_cx D aC A M p R s m args meth c dd) (hd : decode M.2.2.1 pc = .ok (.if_icmp .ne off, 3)) (h : mm_st M pc ls st H (.if_icmp .ne off) = some (.inl (pc', ls', st', H'))) (k : mm_Wp p l e R s m args below meth c D aC A ad0 n0 s0 M Q pc' ls' st' H') : mm_Wp p l e R s m args below meth c D aC A ad0 n0 s0 M Q pc ls st H := by
  obtain ⟨y, x, st1, rfl, ⟨h0, h⟩ | ⟨h0, h⟩⟩ := mm_j2_inv h
  · obtain ⟨tgt, ht, h⟩ := mm_jmp_inv h
    obtain ⟨rfl, rfl, rfl, rfl⟩ := mm_inj h
    exact fun ad Hp locs rl hH hL hs => lv_icmp_ne X.1 X.2.1 hd ht (fun _ => k ad Hp locs rl hH hL hs.2.2) (fun q => absurd q h0)
  · obtain ⟨rfl, rfl, rfl, rfl⟩ := mm_inj h
    exact fun ad Hp locs rl hH hL hs => mm_icmp_ne X.1 X.2.1 hd h0 (k ad Hp locs rl hH hL hs.2.2)
theorem mm_p_if_lt {off : Int} (X : mm_cx D aC A M p R s m args meth c dd) (hd : decode M.2.2.1 pc = .ok (.ifCond .lt off, 3)) (h : mm_st M pc ls st H (.ifCond .lt off) = some (.inl (pc', ls', st', H'))) (k : mm_Wp p l e R s m args below meth c D aC A ad0 n0 s0 M Q pc' ls' st' H') : mm_Wp p l e R s m args below meth c D aC A ad0 n0 s0 M Q pc ls st H := by
  obtain ⟨x, st1, rfl, ⟨h0, h⟩ | ⟨h0, h⟩⟩ := mm_j1_inv h
  · obtain ⟨tgt, ht, h⟩ := mm_jmp_inv h
    obtain ⟨rfl, rfl, rfl, rfl⟩ := mm_inj h
    exact fun ad Hp locs rl hH hL hs => lv_if_lt X.1 X.2.1 hd ht (fun _ => k ad Hp locs rl hH hL hs.2) (fun q => absurd h0 q)
  · obtain ⟨rfl, rfl, rfl, rfl⟩ := mm_inj h
    exact fun ad Hp locs rl hH hL hs => mm_if_lt X.1 X.2.1 hd h0 (k ad Hp locs rl hH hL hs.2)
theorem mm_p_icmp_lt {off : Int} (X : mm_cx D aC A M p R s m args meth c dd) (hd : decode M.2.2.1 pc = .ok (.if_icmp .lt off, 3)) (h : mm_st M pc ls st H (.if_icmp .lt off) = some (.inl (pc', ls', st', H'))) (k : mm_Wp p l e R s m args below meth c D aC A ad0 n0 s0 M Q pc' ls' st' H') : mm_Wp p l e R s m args below meth c D aC A ad0 n0 s0 M Q pc ls st H := by
  obtain ⟨y, x, st1, rfl, ⟨h0, h⟩ | ⟨h0, h⟩⟩ := mm_j2_inv h
  · obtain ⟨tgt, ht, h⟩ := mm_jmp_inv h
    obtain ⟨rfl, rfl, rfl, rfl⟩ := mm_inj h
    exact fun ad Hp locs rl hH hL hs => lv_icmp_lt X.1 X.2.1 hd ht (fun _ => k ad Hp locs rl hH hL hs.2.2) (fun q => absurd h0 q)
  · obtain ⟨rfl, rfl, rfl, rfl⟩ := mm_inj h
    exact fun ad Hp locs rl hH hL hs => mm_icmp_lt X.1 X.2.1 hd h0 (k ad Hp locs rl hH hL hs.2.2)
theorem mm_p_if_ge {off : Int} (X : mm_cx D aC A M p R s m args meth c dd) (hd : decode M.2.2.1 pc = .ok (.ifCond .ge off, 3)) (h : mm_st M pc ls st H (.ifCond .ge off) = some (.inl (pc', ls', st', H'))) (k : mm_Wp p l e R s m args below meth c D aC A ad0 n0 s0 M Q pc' ls' st' H') : mm_Wp p l e R s m args below meth c D aC A ad0 n0 s0 M Q pc ls st H := by
  obtain ⟨x, st1, rfl, ⟨h0, h⟩ | ⟨h0, h⟩⟩ := mm_j1_inv h
  · obtain ⟨tgt, ht, h⟩ := mm_jmp_inv h
    obtain ⟨rfl, rfl, rfl, rfl⟩ := mm_inj h
    exact fun ad Hp locs rl hH hL hs => lv_if_ge X.1 X.2.1 hd ht (fun _ => k ad Hp locs rl hH hL hs.2) (fun q => absurd h0 q)
  · obtain ⟨rfl, rfl, rfl, rfl⟩ := mm_inj h
    exact fun ad Hp locs rl hH hL hs => mm_if_ge X.1 X.2.1 hd h0 (k ad Hp locs rl hH hL hs.2)
theorem mm_p_icmp_ge {off : Int} (X : mm_cx D aC A M p R s m args meth c dd) (hd : decode M.2.2.1 pc = .ok (.if_icmp .ge off, 3)) (h : mm_st M pc ls st H (.if_icmp .ge off) = some (.inl (pc', ls', st', H'))) (k : mm_Wp p l e R s m args below meth c D aC A ad0 n0 s0 M Q pc' ls' st' H') : mm_Wp p l e R s m args below meth c D aC A ad0 n0 s0 M Q pc ls st H := by
  obtain ⟨y, x, st1, rfl, ⟨h0, h⟩ | ⟨h0, h⟩⟩ := mm_j2_inv h
  · obtain ⟨tgt, ht, h⟩ := mm_jmp_inv h
    obtain ⟨rfl, rfl, rfl, rfl⟩ := mm_inj h
    exact fun ad Hp locs rl hH hL hs => lv_icmp_ge X.1 X.2.1 hd ht (fun _ => k ad Hp locs rl hH hL hs.2.2) (fun q => absurd h0 q)
  · obtain ⟨rfl, rfl, rfl, rfl⟩ := mm_inj h
    exact fun ad Hp locs rl hH hL hs => mm_icmp_ge X.1 X.2.1 hd h0 (k ad Hp locs rl hH hL hs.2.2)
theorem mm_p_if_gt {off : Int} (X : mm_cx D aC A M p R s m args meth c dd) (hd : decode M.2.2.1 pc = .ok (.ifCond .gt off, 3)) (h : mm_st M pc ls st H (.ifCond .gt off) = some (.inl (pc', ls', st', H'))) (k : mm_Wp p l e R s m args below meth c D aC A ad0 n0 s0 M Q pc' ls' st' H') : mm_Wp p l e R s m args below meth c D aC A ad0 n0 s0 M Q pc ls st H := by
  obtain ⟨x, st1, rfl, ⟨h0, h⟩ | ⟨h0, h⟩⟩ := mm_j1_inv h
  · obtain ⟨tgt, ht, h⟩ := mm_jmp_inv h
    obtain ⟨rfl, rfl, rfl, rfl⟩ := mm_inj h
    exact fun ad Hp locs rl hH hL hs => lv_if_gt X.1 X.2.1 hd ht (fun _ => k ad Hp locs rl hH hL hs.2) (fun q => absurd h0 q)
  · obtain ⟨rfl, rfl, rfl, rfl⟩ := mm_inj h
    exact fun ad Hp locs rl hH hL hs => mm_if_gt X.1 X.2.1 hd h0 (k ad Hp locs rl hH hL hs.2)
theorem mm_p_icmp_gt {off : Int} (X : mm_cx D aC A M p R s m args meth c dd) (hd : decode M.2.2.1 pc = .ok (.if_icmp .gt off, 3)) (h : mm_st M pc ls st H (.if_icmp .gt off) = some (.inl (pc', ls', st', H'))) (k : mm_Wp p l e R s m args below meth c D aC A ad0 n0 s0 M Q pc' ls' st' H') : mm_Wp p l e R s m args below meth c D aC A ad0 n0 s0 M Q pc ls st H := by
  obtain ⟨y, x, st1, rfl, ⟨h0, h⟩ | ⟨h0, h⟩⟩ := mm_j2_inv h
  · obtain ⟨tgt, ht, h⟩ := mm_jmp_inv h
    obtain ⟨rfl, rfl, rfl, rfl⟩ := mm_inj h
    exact fun ad Hp locs rl hH hL hs => lv_icmp_gt X.1 X.2.1 hd ht (fun _ => k ad Hp locs rl hH hL hs.2.2) (fun q => absurd h0 q)
  · obtain ⟨rfl, rfl, rfl, rfl⟩ := mm_inj h
    exact fun ad Hp locs rl hH hL hs => mm_icmp_gt X.1 X.2.1 hd h0 (k ad Hp locs rl hH hL hs.2.2)
theorem mm_p_if_le {off : Int} (X : mm_cx D aC A M p R s m args meth c dd) (hd : decode M.2.2.1 pc = .ok (.ifCond .le off, 3)) (h : mm_st M pc ls st H (.ifCond .le off) = some (.inl (pc', ls', st', H'))) (k : mm_Wp p l e R s m args below meth c D aC A ad0 n0 s0 M Q pc' ls' st' H') : mm_Wp p l e R s m args below meth c D aC A ad0 n0 s0 M Q pc ls st H := by
  obtain ⟨x, st1, rfl, ⟨h0, h⟩ | ⟨h0, h⟩⟩ := mm_j1_inv h
  · obtain ⟨tgt, ht, h⟩ := mm_jmp_inv h
    obtain ⟨rfl, rfl, rfl, rfl⟩ := mm_inj h
    exact fun ad Hp locs rl hH hL hs => lv_if_le X.1 X.2.1 hd ht (fun _ => k ad Hp locs rl hH hL hs.2) (fun q => absurd h0 q)
  · obtain ⟨rfl, rfl, rfl, rfl⟩ := mm_inj h
    exact fun ad Hp locs rl hH hL hs => mm_if_le X.1 X.2.1 hd h0 (k ad Hp locs rl hH hL hs.2)
theorem mm_p_icmp_le {off : Int} (X : mm_cx D aC A M p R s m args meth c dd) (hd : decode M.2.2.1 pc = .ok (.if_icmp .le off, 3)) (h : mm_st M pc ls st H (.if_icmp .le off) = some (.inl (pc', ls', st', H'))) (k : mm_Wp p l e R s m args below meth c D aC A ad0 n0 s0 M Q pc' ls' st' H') : mm_Wp p l e R s m args below meth c D aC A ad0 n0 s0 M Q pc ls st H := by
  obtain ⟨y, x, st1, rfl, ⟨h0, h⟩ | ⟨h0, h⟩⟩ := mm_j2_inv h
  · obtain ⟨tgt, ht, h⟩ := mm_jmp_inv h
    obtain ⟨rfl, rfl, rfl, rfl⟩ := mm_inj h
    exact fun ad Hp locs rl hH hL hs => lv_icmp_le X.1 X.2.1 hd ht (fun _ => k ad Hp locs rl hH hL hs.2.2) (fun q => absurd h0 q)
  · obtain ⟨rfl, rfl, rfl, rfl⟩ := mm_inj h
    exact fun ad Hp locs rl hH hL hs => mm_icmp_le X.1 X.2.1 hd h0 (k ad Hp locs rl hH hL hs.2.2)
end MP
