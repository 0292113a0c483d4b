/-! the texts: what String's methods answer -/
def mm_sv (adK adV : Nat → Nat) (A : Nat → Prop) (U : State) (Hp : Heap) : Prop := vk_S 3 [3, 5, 4] mm_by adK adV A U Hp ∧ vk_R RX8 51 "hit" (adK 0) U ∧ vk_R RX8 57 "empty" (adK 1) U ∧ vk_R RX8 59 "mark" (adK 2) U ∧ va_Z "java/lang/String" "COMPACT_STRINGS" "Z" (.int 1) A U Hp ∧ va_Zq "jdk/internal/util/Preconditions" "SIOOBE_FORMATTER" "Ljava/util/function/BiFunction;" A U Hp
theorem mm_sv_of {A : Nat → Prop} {U : State} {Hp : Heap} (h : mm_sw A U Hp) : ∃ adK adV, mm_sv adK adV A U Hp := h
theorem mm_sv_to {adK adV : Nat → Nat} {A B : Nat → Prop} {s U : State} (h : mm_sv adK adV A s s.heap) (hq : ∀ a : Nat, a < s.heap.size → ¬ A a → U.heap[a]? = s.heap[a]?) (hW : s.WarmedH U.vm) (hAB : ∀ q, B q → A q) : mm_sv adK adV B U U.heap := by
  obtain ⟨h1, h2, h3, h4, h5, h6⟩ := h
  exact ⟨vk_S.moved hW.alike (vk_S.narrow (h1.kept hq) hAB), vk_R.warm hW h2, vk_R.warm hW h3, vk_R.warm hW h4, va_Z.moved hW.alike (va_Z.narrow (h5.kept hq) hAB), va_Zq.moved hW.alike (va_Zq.narrow (h6.kept hq) hAB)⟩
theorem mm_sv_same {adK adV : Nat → Nat} {A : Nat → Prop} {s U : State} (hv : U.vm = s.vm) (hh : U.heap = s.heap) (h : mm_sv adK adV A s s.heap) : mm_sv adK adV A U U.heap := by
  obtain ⟨h1, h2, h3, h4, h5, h6⟩ := h
  have al : s.vm.Alike U.vm := by rw [hv]; exact Vm.Alike.refl s.vm
  rw [hh]
  exact ⟨vk_S.moved al h1, vk_R.same hv h2, vk_R.same hv h3, vk_R.same hv h4, va_Z.moved al h5, va_Zq.moved al h6⟩
def pmP (adK adV : Nat → Nat) (As : List Value) (sz : Nat) : Array Value → State → Prop := va_Pc As (fun U => U.heap.size = sz ∧ mm_sv adK adV (fun q => sz ≤ q) U U.heap)
def pmQ (sz : Nat) (v : Option Value) : Array Value → State → Outcome → State → Prop := fun _ st o t => o = .returned v ∧ va_F (fun q => sz ≤ q) st t
def pmM (l : Launch) (y : MethodName) (cc : ByteArray) (mL : Nat) (ret : Option FieldType) (fr lo : Nat) (adK adV : Nat → Nat) (As : List Value) (v : Option Value) : Prop := ∀ sz, Met l y (.code y cc mL ret :: mm_gd) { frames := fr, cells := 0, slots := 0, locals := lo } (pmP adK adV As sz) (pmQ sz v) 0 0 (fun q => sz ≤ q)
theorem pm_blind {adK adV : Nat → Nat} {As : List Value} {sz : Nat} : FrameBlind (pmP adK adV As sz) := by
  intro a U g mk h
  obtain ⟨h1, h2, h3⟩ := h
  exact ⟨h1, h2, mm_sv_same (s := U) (U := U.calling g mk a) rfl rfl h3⟩
section PM
variable {p : Program} {l : Launch} {e : Env} {R : Room} {s : State} {m : MethodId} {args : Array Value} {below : List Frame} {meth : Method} {c : Code} {A : Nat → Prop} {Q : State → Prop} {cc : ByteArray} {nL pc cells slots : Nat} {Hp : Heap} {locs : List Loc} {ls : Array Slot}
theorem pm_words {y : MethodName} {cd : ByteArray} {mL : Nat} {ret : Option FieldType} (hts : ∀ w ∈ mm_gd, w.before args s = true) (w1 : Cond.code y cd mL ret ∈ mm_gd) : ∀ w ∈ (Cond.code y cd mL ret :: mm_gd), ∀ (a' : Array Value) (U : State), s.WarmedH U.vm → w.before a' U = true := by
  intro w hw a' U hW
  have hg : w ∈ mm_gd := by
    rcases List.mem_cons.mp hw with rfl | h
    · exact w1
    · exact h
  exact word_at hW (mm_good hg) (hts w hg)
theorem pm_after {st0 rest : List Value} {v : Option Value} {a : Array Value} (hr : va_Run p l e R s m args below meth c Hp locs cells slots 0 0 (F0 m pc ls st0) rest (pmQ Hp.size v a) (fun q => Hp.size ≤ q)) (hS : va_S A s.heap Hp locs) (hA : ∀ q, s.heap.size ≤ q → A q) (kk : ∀ (H2 : Heap) (locs2 : List Loc), va_S A s.heap H2 locs2 → Hp.size ≤ H2.size → (∀ q : Nat, q < Hp.size → H2[q]? = Hp[q]?) → W p l e R s m args below meth c H2 locs2 cells slots Q (F0 m (pc + 3) ls (v.toList ++ rest))) : W p l e R s m args below meth c Hp locs cells slots Q (F0 m pc ls st0) := by
  intro T hT Xs
  obtain ⟨v', st₀, t, T', L, h0, X', hL, e1, e2, ⟨q2, q7⟩, stp⟩ := hr T hT Xs
  cases q2
  have q7' : Hp.size ≤ t.heap.size ∧ ∀ q : Nat, q < Hp.size → ¬ Hp.size ≤ q → t.heap[q]? = Hp[q]? := by
    have := q7
    unfold va_F at this
    rw [h0] at this
    exact this
  have hA' : ∀ q, Hp.size ≤ q → A q := fun q h => hA q (Nat.le_trans hS.1 h)
  obtain ⟨t2, a1, b1⟩ := kk T'.heap (locs ++ L) ⟨Nat.le_trans hS.1 (by rw [e1]; exact q7'.1), fun q g1 g2 => by rw [e1, q7'.2 q (Nat.lt_of_lt_of_le g1 hS.1) (Nat.not_le.mpr (Nat.lt_of_lt_of_le g1 hS.1))]; exact hS.2.1 q g1 g2, fun q hq => by
      rcases List.mem_append.mp hq with z | z
      · exact hS.2.2 q z
      · exact hA' _ (hL q z)⟩ (by rw [e1]; exact q7'.1) (fun q h => by rw [e1]; exact q7'.2 q h (Nat.not_le.mpr h)) T' rfl X'
  exact ⟨t2, stp t2 a1, b1⟩
theorem pm_pre {adK adV : Nat → Nat} {As : List Value} (hA : ∀ q, s.heap.size ≤ q → A q) (hE : mm_sv adK adV A s s.heap) (hS : va_S A s.heap Hp locs) : ∀ U : State, U.heap = Hp → s.WarmedH U.vm → pmP adK adV As Hp.size As.toArray U := fun U hU hW => ⟨rfl, by rw [hU], mm_sv_to hE (by rw [hU]; exact hS.2.1) hW (fun q h => hA q (Nat.le_trans hS.1 h))⟩
theorem pm_cv {own C : String} {idx n fr lo mL b : Nat} {y : MethodName} {cd : ByteArray} {ret : Option FieldType} {As rest : List Value} {v : Option Value} {adK adV : Nat → Nat} (hx : p.tables.exec = Jvm.exec) (hb : c.code = cc) (hml : c.maxLocals = nL) (hls : ls.size = nL) (hown : s.vm.findClass own = some m.cls) (hts : ∀ w ∈ mm_gd, w.before args s = true) (hA : ∀ q, s.heap.size ≤ q → A q) (hE : mm_sv adK adV A s s.heap) (hS : va_S A s.heap Hp locs) (hM : pmM l y cd mL ret fr lo adK adV (.ref b :: As) v) (w1 : Cond.code y cd mL ret ∈ mm_gd) (w2 : Cond.initialized y.cls ∈ mm_gd) (w3 : Cond.instanceMethod y ∈ mm_gd) (w4 : Cond.selects C y y ∈ mm_gd) (wl : Cond.methodLink own idx y ∈ mm_gd) (w8 : y.cls ≠ "java/lang/invoke/MethodHandle" ∧ y.cls ≠ "java/lang/invoke/VarHandle") (w10 : (parseMethodDescriptor y.desc).map (fun d => d.parameters.length) = some n) (hn : As.length = n) (hrc : ∃ cell : Cell, Hp[b]? = some cell ∧ cell.vm.isStatics = false ∧ s.vm.findClass C = some cell.cls) (hfr : fr + 1 ≤ R.frames) (hlo : 8 + (mL + 11) + lo ≤ R.locals) (hc : (rest.map fun v => v.category).sum ≤ 8) (hdg : decode cc pc = .ok (.invokevirtual idx, 3)) (hcl : cells ≤ R.cells ∧ slots ≤ R.slots) (kk : ∀ (H2 : Heap) (locs2 : List Loc), va_S A s.heap H2 locs2 → Hp.size ≤ H2.size → (∀ q : Nat, q < Hp.size → H2[q]? = Hp[q]?) → W p l e R s m args below meth c H2 locs2 cells slots Q (F0 m (pc + 3) ls (v.toList ++ rest))) : W p l e R s m args below meth c Hp locs cells slots Q (F0 m pc ls (As.reverse ++ .ref b :: rest)) := by
  refine pm_after (va_runV (C := C) (bytes := cd) (maxL := mL) (ret := ret) (n := n) (As := As) (rest := rest) ⟨hx, hb, hml, hown, hts⟩ (hM Hp.size) ⟨⟨rfl, rfl, hfr, hlo, pm_words hts w1, List.mem_cons_self, hts _ w1, hts _ w2, w8, mm_npar w10, hts _ wl⟩, hts _ w3, hts _ w4⟩ ⟨pm_blind, hrc, pm_pre hA hE hS⟩ rfl hn hls rfl (lv_room hc) hdg ⟨hcl.1, hcl.2⟩) hS hA kk
theorem pm_cs {own : String} {idx n fr lo mL : Nat} {y : MethodName} {cd : ByteArray} {ret : Option FieldType} {As rest : List Value} {v : Option Value} {adK adV : Nat → Nat} (hx : p.tables.exec = Jvm.exec) (hb : c.code = cc) (hml : c.maxLocals = nL) (hls : ls.size = nL) (hown : s.vm.findClass own = some m.cls) (hts : ∀ w ∈ mm_gd, w.before args s = true) (hA : ∀ q, s.heap.size ≤ q → A q) (hE : mm_sv adK adV A s s.heap) (hS : va_S A s.heap Hp locs) (hM : pmM l y cd mL ret fr lo adK adV As v) (w1 : Cond.code y cd mL ret ∈ mm_gd) (w2 : Cond.initialized y.cls ∈ mm_gd) (w3 : Cond.static y ∈ mm_gd) (wl : Cond.methodLink own idx y ∈ mm_gd) (w8 : y.cls ≠ "java/lang/invoke/MethodHandle" ∧ y.cls ≠ "java/lang/invoke/VarHandle") (w10 : (parseMethodDescriptor y.desc).map (fun d => d.parameters.length) = some n) (hn : As.length = n) (hfr : fr + 1 ≤ R.frames) (hlo : 8 + (mL + 11) + lo ≤ R.locals) (hc : (rest.map fun v => v.category).sum ≤ 8) (hdg : decode cc pc = .ok (.invokestatic idx, 3)) (hcl : cells ≤ R.cells ∧ slots ≤ R.slots) (kk : ∀ (H2 : Heap) (locs2 : List Loc), va_S A s.heap H2 locs2 → Hp.size ≤ H2.size → (∀ q : Nat, q < Hp.size → H2[q]? = Hp[q]?) → W p l e R s m args below meth c H2 locs2 cells slots Q (F0 m (pc + 3) ls (v.toList ++ rest))) : W p l e R s m args below meth c Hp locs cells slots Q (F0 m pc ls (As.reverse ++ rest)) := by
  refine pm_after (va_runS (bytes := cd) (maxL := mL) (ret := ret) (n := n) (As := As) (rest := rest) ⟨hx, hb, hml, hown, hts⟩ (hM Hp.size) ⟨⟨rfl, rfl, hfr, hlo, pm_words hts w1, List.mem_cons_self, hts _ w1, hts _ w2, w8, mm_npar w10, hts _ wl⟩, hts _ w3⟩ ⟨pm_blind, pm_pre hA hE hS⟩ rfl hn hls rfl (lv_room hc) hdg ⟨hcl.1, hcl.2⟩) hS hA kk
end PM
