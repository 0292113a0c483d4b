/-! WHY THE SMALL MACHINE SPEAKS OF THE TRUE ONE: the cells' picture, by a map 'ad' of numbers to addresses -/
def mm_tv (ad : Nat → Nat) : Value → Value
  | .ref r => .ref (ad r)
  | .int x => .int x
  | .long x => .long x
  | .null => .null
  | .float x => .float x
  | .double x => .double x
  | .retAddr x => .retAddr x
def mm_rf (ad : Nat → Nat) : Value → Option Nat
  | .ref r => some (ad r)
  | _ => none
def mm_tys (aC : Nat → ClassId) : List (ClassId × FieldType) := [(aC 0, .int), (aC 1, .long), (aC 2, .boolean), (aC 3, .object RX7), (aC 4, .array .int), (aC 5, .array .long)]
def mm_ac (ad : Nat → Nat) (H : mm_H) (r t n : Nat) : vp_A := (n, if t = 1 then .inr (.inl (H.2.2.2 r)) else if 3 ≤ t then .inr (.inr (.inr (.inr (fun j => mm_rf ad (H.2.1 r j))))) else .inl (H.2.2.1 r))
def mm_fs (ad : Nat → Nat) (H : mm_H) (r c : Nat) : List Value := (List.range (mm_nf c)).map (fun k => mm_tv ad (H.2.1 r k))
def mm_ce (aC : Nat → ClassId) (ad : Nat → Nat) (H : mm_H) (r : Nat) : va_E := match H.1.2.2 r with
  | .inl c => .inr (c, mm_fs ad H r c)
  | .inr (t, n) => .inl (aC t, mm_ac ad H r t n)
def mm_ws (aC : Nat → ClassId) (ad : Nat → Nat) (H : mm_H) : va_W := (List.range (H.1.1 - 2)).map (fun i => (ad (i + 2), mm_ce aC ad H (i + 2)))
def mm_vo (n : Nat) : Value → Prop
  | .ref r => 1 ≤ r ∧ r < n
  | _ => True
def mm_so (n : Nat) : List Value → Prop
  | [] => True
  | v :: st => mm_vo n v ∧ mm_so n st
def mm_un : Value → Bool
  | .float _ => true
  | .double _ => true
  | .retAddr _ => true
  | _ => false
def mm_co (H : mm_H) (r : Nat) : Prop := match H.1.2.2 r with
  | .inl c => c < 12 ∧ ∀ k, mm_vo H.1.1 (H.2.1 r k)
  | .inr (t, _) => t < 6 ∧ (3 ≤ t → ∀ j, mm_vo H.1.1 (H.2.1 r j))
def mm_ho (H : mm_H) : Prop := 2 ≤ H.1.1 ∧ ∀ r, 2 ≤ r → r < H.1.1 → mm_co H r
theorem mm_tv_cat (ad : Nat → Nat) (v : Value) : (mm_tv ad v).category = v.category := by cases v <;> rfl
theorem mm_tv_ext {ad ad' : Nat → Nat} {n : Nat} {v : Value} (h : ∀ r, r < n → ad' r = ad r) (hv : mm_vo n v) : mm_tv ad' v = mm_tv ad v := by
  cases v with
  | ref r => exact congrArg Value.ref (h r hv.2)
  | _ => rfl
theorem mm_rf_ext {ad ad' : Nat → Nat} {n : Nat} {v : Value} (h : ∀ r, r < n → ad' r = ad r) (hv : mm_vo n v) : mm_rf ad' v = mm_rf ad v := by
  cases v with
  | ref r => exact congrArg some (h r hv.2)
  | _ => rfl
theorem mm_vo_mono {n m : Nat} {v : Value} (h : n ≤ m) (hv : mm_vo n v) : mm_vo m v := by
  cases v with
  | ref r => exact ⟨hv.1, Nat.lt_of_lt_of_le hv.2 h⟩
  | _ => trivial
theorem mm_so_mono {n m : Nat} (h : n ≤ m) : ∀ {st : List Value}, mm_so n st → mm_so m st
  | [], _ => trivial
  | _ :: _, hs => ⟨mm_vo_mono h hs.1, mm_so_mono h hs.2⟩
theorem mm_so_map {ad ad' : Nat → Nat} {n : Nat} (h : ∀ r, r < n → ad' r = ad r) : ∀ {st : List Value}, mm_so n st → st.map (mm_tv ad') = st.map (mm_tv ad)
  | [], _ => rfl
  | _ :: _, hs => by rw [List.map_cons, List.map_cons, mm_tv_ext h hs.1, mm_so_map h hs.2]
theorem mm_so_app {n : Nat} : ∀ {a b : List Value}, mm_so n (a ++ b) ↔ mm_so n a ∧ mm_so n b
  | [], b => ⟨fun h => ⟨trivial, h⟩, fun h => h.2⟩
  | v :: a, b => ⟨fun h => ⟨⟨h.1, (mm_so_app.mp h.2).1⟩, (mm_so_app.mp h.2).2⟩, fun h => ⟨h.1.1, mm_so_app.mpr ⟨h.1.2, h.2⟩⟩⟩
theorem mm_so_rev {n : Nat} : ∀ {a : List Value}, mm_so n a → mm_so n a.reverse
  | [], _ => trivial
  | v :: a, h => by rw [List.reverse_cons]; exact mm_so_app.mpr ⟨mm_so_rev h.2, h.1, trivial⟩
theorem mm_cat_map (ad : Nat → Nat) (st : List Value) : ((st.map (mm_tv ad)).map fun v => v.category).sum = mm_cat st := by
  unfold mm_cat
  rw [List.map_map]
  congr 1
  apply List.map_congr_left
  intro v _
  exact mm_tv_cat ad v
theorem mm_ws_len (aC : Nat → ClassId) (ad : Nat → Nat) (H : mm_H) : (mm_ws aC ad H).length = H.1.1 - 2 := by simp [mm_ws]
theorem mm_ws_get (aC : Nat → ClassId) (ad : Nat → Nat) (H : mm_H) {r : Nat} (h2 : 2 ≤ r) (h : r < H.1.1) : (mm_ws aC ad H)[r - 2]? = some (ad r, mm_ce aC ad H r) := by
  unfold mm_ws
  rw [List.getElem?_map, List.getElem?_range (by omega)]
  show some (ad (r - 2 + 2), mm_ce aC ad H (r - 2 + 2)) = _
  rw [Nat.sub_add_cancel h2]
theorem mm_ws_at {aC : Nat → ClassId} {ad : Nat → Nat} {H : mm_H} {k : Nat} {q : Nat × va_E} (h : (mm_ws aC ad H)[k]? = some q) : k < H.1.1 - 2 ∧ q = (ad (k + 2), mm_ce aC ad H (k + 2)) := by
  have hk : k < (mm_ws aC ad H).length := (List.getElem?_eq_some_iff.mp h).1
  rw [mm_ws_len] at hk
  refine ⟨hk, ?_⟩
  have h2 := mm_ws_get aC ad H (r := k + 2) (by omega) (by omega)
  rw [Nat.add_sub_cancel] at h2
  rw [h] at h2
  exact Option.some.inj h2
/-- one cell changed -/
theorem mm_ws_set {aC : Nat → ClassId} {ad : Nat → Nat} {H H' : mm_H} {r : Nat} {e : va_E} (h2 : 2 ≤ r) (hn : H'.1.1 = H.1.1) (he : mm_ce aC ad H' r = e) (ho : ∀ q, 2 ≤ q → q ≠ r → mm_ce aC ad H' q = mm_ce aC ad H q) : (mm_ws aC ad H).set (r - 2) (ad r, e) = mm_ws aC ad H' := by
  apply List.ext_getElem?
  intro i
  by_cases hi : i < H.1.1 - 2
  · have hl : i < (mm_ws aC ad H).length := by rw [mm_ws_len]; exact hi
    have g2 := mm_ws_get aC ad H' (r := i + 2) (by omega) (by omega)
    have g1 := mm_ws_get aC ad H (r := i + 2) (by omega) (by omega)
    rw [Nat.add_sub_cancel] at g1 g2
    rw [g2, List.getElem?_set]
    by_cases hr : r - 2 = i
    · have e2 : i + 2 = r := by omega
      rw [if_pos hr, if_pos (by omega), e2, he]
    · rw [if_neg hr, g1, ho (i + 2) (by omega) (by omega)]
  · rw [List.getElem?_eq_none (by rw [List.length_set, mm_ws_len]; omega), List.getElem?_eq_none (by rw [mm_ws_len, hn]; omega)]
theorem mm_fs_ext {ad ad' : Nat → Nat} {H : mm_H} {r c : Nat} (h : ∀ q, q < H.1.1 → ad' q = ad q) (hv : ∀ k, mm_vo H.1.1 (H.2.1 r k)) : mm_fs ad' H r c = mm_fs ad H r c := by
  unfold mm_fs
  apply List.map_congr_left
  intro k _
  exact mm_tv_ext h (hv k)
theorem mm_ce_ext {aC : Nat → ClassId} {ad ad' : Nat → Nat} {H : mm_H} {r : Nat} (h : ∀ q, q < H.1.1 → ad' q = ad q) (hc : mm_co H r) : mm_ce aC ad' H r = mm_ce aC ad H r := by
  unfold mm_ce
  unfold mm_co at hc
  cases hk : H.1.2.2 r with
  | inl c =>
    rw [hk] at hc
    show Sum.inr (c, mm_fs ad' H r c) = Sum.inr (c, mm_fs ad H r c)
    rw [mm_fs_ext h hc.2]
  | inr x =>
    obtain ⟨t, n⟩ := x
    rw [hk] at hc
    show Sum.inl (aC t, mm_ac ad' H r t n) = Sum.inl (aC t, mm_ac ad H r t n)
    unfold mm_ac
    by_cases h1 : t = 1
    · rw [if_pos h1, if_pos h1]
    · rw [if_neg h1, if_neg h1]
      by_cases h3 : 3 ≤ t
      · rw [if_pos h3, if_pos h3]
        have e : (fun j => mm_rf ad' (H.2.1 r j)) = (fun j => mm_rf ad (H.2.1 r j)) := funext fun j => mm_rf_ext h (hc.2 h3 j)
        rw [e]
      · rw [if_neg h3, if_neg h3]
theorem mm_ce_pF {aC : Nat → ClassId} {ad : Nat → Nat} {H : mm_H} {r k q : Nat} {v : Value} (h : q ≠ r) : mm_ce aC ad (mm_pF H r k v) q = mm_ce aC ad H q := by
  have e : ∀ j, mm_up2 H.2.1 r k v q j = H.2.1 q j := fun j => by unfold mm_up2; rw [if_neg (fun x => h x.1)]
  unfold mm_ce
  show (match H.1.2.2 q with | .inl c => _ | .inr (t, n) => _) = _
  cases H.1.2.2 q with
  | inl c =>
    show Sum.inr (c, mm_fs ad (mm_pF H r k v) q c) = Sum.inr (c, mm_fs ad H q c)
    unfold mm_fs
    have e2 : (fun k_1 => mm_tv ad ((mm_pF H r k v).2.1 q k_1)) = (fun k_1 => mm_tv ad (H.2.1 q k_1)) := funext fun j => congrArg (mm_tv ad) (e j)
    rw [e2]
  | inr x =>
    obtain ⟨t, n⟩ := x
    show Sum.inl (aC t, mm_ac ad (mm_pF H r k v) q t n) = Sum.inl (aC t, mm_ac ad H q t n)
    unfold mm_ac
    have e2 : (fun j => mm_rf ad ((mm_pF H r k v).2.1 q j)) = (fun j => mm_rf ad (H.2.1 q j)) := funext fun j => congrArg (mm_rf ad) (e j)
    rw [e2]
    rfl
theorem mm_ce_I {aC : Nat → ClassId} {ad : Nat → Nat} {H : mm_H} {I' : Nat → Nat → Int32} {q : Nat} (h : I' q = H.2.2.1 q) : mm_ce aC ad (H.1, H.2.1, I', H.2.2.2) q = mm_ce aC ad H q := by
  unfold mm_ce mm_ac mm_fs
  show (match H.1.2.2 q with | .inl c => _ | .inr (t, n) => _) = _
  cases H.1.2.2 q with
  | inl c => rfl
  | inr x =>
    obtain ⟨t, n⟩ := x
    simp only [h]
theorem mm_ce_L {aC : Nat → ClassId} {ad : Nat → Nat} {H : mm_H} {L' : Nat → Nat → Int64} {q : Nat} (h : L' q = H.2.2.2 q) : mm_ce aC ad (H.1, H.2.1, H.2.2.1, L') q = mm_ce aC ad H q := by
  unfold mm_ce mm_ac mm_fs
  show (match H.1.2.2 q with | .inl c => _ | .inr (t, n) => _) = _
  cases H.1.2.2 q with
  | inl c => rfl
  | inr x =>
    obtain ⟨t, n⟩ := x
    simp only [h]
theorem mm_up2_ne {α : Type} {f : Nat → Nat → α} {a b q : Nat} {v : α} (h : q ≠ a) : mm_up2 f a b v q = f q := funext fun j => by unfold mm_up2; rw [if_neg (fun x => h x.1)]
theorem mm_up2_row {f : Nat → Nat → Int32} {a b : Nat} {v : Int32} : mm_up2 f a b v a = upd (f a) b v := funext fun j => by
  unfold mm_up2 upd
  by_cases hj : j = b
  · rw [if_pos ⟨rfl, hj⟩, if_pos hj]
  · rw [if_neg (fun x => hj x.2), if_neg hj]
theorem mm_up2_rowL {f : Nat → Nat → Int64} {a b : Nat} {v : Int64} : mm_up2 f a b v a = vp_updL (f a) b v := funext fun j => by
  unfold mm_up2 vp_updL
  by_cases hj : j = b
  · rw [if_pos ⟨rfl, hj⟩, if_pos hj]
  · rw [if_neg (fun x => hj x.2), if_neg hj]
theorem mm_fs_len (ad : Nat → Nat) (H : mm_H) (r c : Nat) : (mm_fs ad H r c).length = mm_nf c := by simp [mm_fs]
theorem mm_fs_get (ad : Nat → Nat) (H : mm_H) (r c : Nat) {k : Nat} (h : k < mm_nf c) : (mm_fs ad H r c)[k]? = some (mm_tv ad (H.2.1 r k)) := by
  unfold mm_fs
  rw [List.getElem?_map, List.getElem?_range h]
  rfl
theorem mm_fs_set (ad : Nat → Nat) (H : mm_H) (r c : Nat) {k : Nat} (v : Value) : (mm_fs ad H r c).set k (mm_tv ad v) = mm_fs ad (mm_pF H r k v) r c := by
  apply List.ext_getElem?
  intro i
  by_cases hi : i < mm_nf c
  · rw [mm_fs_get _ _ _ _ hi, List.getElem?_set, mm_fs_get _ _ _ _ hi, mm_fs_len]
    show _ = some (mm_tv ad (mm_up2 H.2.1 r k v r i))
    unfold mm_up2
    by_cases hk : k = i
    · rw [if_pos hk, if_pos (by omega), if_pos ⟨rfl, hk.symm⟩]
    · rw [if_neg hk, if_neg (fun x => hk x.2.symm)]
  · rw [List.getElem?_eq_none (by rw [List.length_set, mm_fs_len]; omega), List.getElem?_eq_none (by rw [mm_fs_len]; omega)]
theorem mm_ix_vp {i : Int32} {n : Nat} (h : mm_ix i n = true) : vp_in i n := by
  unfold mm_ix at h
  simp only [Bool.and_eq_true, Bool.not_eq_true', decide_eq_false_iff_not, decide_eq_true_eq] at h
  rintro (q | q)
  · exact h.1 q
  · omega
/-- locals -/
def mm_relL (M : mm_M) (ad : Nat → Nat) (n : Nat) (rl : Array Slot) (ls : List Value) : Prop :=
  ls.length = M.2.2.2.1 ∧ (rl.size = M.2.2.2.1 ∧ lv_wf rl) ∧ (∀ (i : Nat) (v : Value), ls[i]? = some v → mm_un v = false → rl[i]? = some (.val (mm_tv ad v))) ∧ (∀ (i : Nat) (x : Int64), ls[i]? = some (.long x) → M.2.2.2.2.2.2.2.contains i = true) ∧ ∀ (i : Nat) (v : Value), ls[i]? = some v → mm_vo n v
def mm_lv (ad : Nat → Nat) (ls : List Value) : List (Nat × Value) := (List.range ls.length).filterMap (fun i => match ls[i]? with
  | some v => if mm_un v = true then none else some (i, mm_tv ad v)
  | none => none)
theorem mm_lv_mem {ad : Nat → Nat} {ls : List Value} {q : Nat × Value} : q ∈ mm_lv ad ls ↔ ∃ v, ls[q.1]? = some v ∧ mm_un v = false ∧ q.2 = mm_tv ad v := by
  unfold mm_lv
  rw [List.mem_filterMap]
  constructor
  · rintro ⟨i, -, h⟩
    cases hv : ls[i]? with
    | none => rw [hv] at h; cases h
    | some v =>
      rw [hv] at h
      by_cases hu : mm_un v = true
      · simp only [hu, if_true] at h; cases h
      · simp only [hu, if_false] at h
        cases h
        exact ⟨v, hv, by simpa using hu, rfl⟩
  · rintro ⟨v, hv, hu, he⟩
    refine ⟨q.1, List.mem_range.mpr (List.getElem?_eq_some_iff.mp hv).1, ?_⟩
    rw [hv]
    simp only [hu]
    obtain ⟨a, b⟩ := q
    simp only at he
    rw [he]
    rfl
theorem mm_lv_has {M : mm_M} {ad : Nat → Nat} {n : Nat} {rl : Array Slot} {ls : List Value} (h : mm_relL M ad n rl ls) : lv_has rl M.2.2.2.1 (mm_lv ad ls) := by
  refine ⟨h.2.1.1, h.2.1.2, fun q hq => ?_⟩
  obtain ⟨v, h1, h2, h3⟩ := mm_lv_mem.mp hq
  rw [h3]
  exact h.2.2.1 q.1 v h1 h2
theorem mm_lg_of {v : Value} (ad : Nat → Nat) (h : (mm_tv ad v).category = 2) (hu : mm_un v = false) : ∃ x, v = .long x := by
  cases v with
  | long x => exact ⟨x, rfl⟩
  | int x => cases h
  | null => cases h
  | ref r => cases h
  | float x => cases hu
  | double x => cases hu
  | retAddr x => cases hu
theorem mm_relL_st1 {M : mm_M} {ad : Nat → Nat} {n : Nat} {rl rl' : Array Slot} {ls : List Value} {i : Nat} {v : Value} (h : mm_relL M ad n rl ls) (ho : mm_ok1 M i ls.length = true) (hv : mm_vo n v) (hl : ∀ x, ¬ v = .long x) (h' : lv_has rl' M.2.2.2.1 ((i, mm_tv ad v) :: (mm_lv ad ls).filter (fun q => !(q.1 == i) && !(q.1 + 1 == i && q.2.category == 2)))) : mm_relL M ad n rl' (ls.set i v) := by
  simp only [mm_ok1, Bool.and_eq_true, decide_eq_true_eq, List.all_eq_true] at ho
  obtain ⟨hi, ho⟩ := ho
  refine ⟨by rw [List.length_set]; exact h.1, ⟨h'.1, h'.2.1⟩, ?_, ?_, ?_⟩
  · intro j w hj hu
    rw [List.getElem?_set] at hj
    by_cases hij : i = j
    · subst hij
      rw [if_pos rfl, if_pos hi] at hj
      cases hj
      exact h'.2.2 (i, mm_tv ad v) List.mem_cons_self
    · rw [if_neg hij] at hj
      refine h'.2.2 (j, mm_tv ad w) (List.mem_cons_of_mem _ (List.mem_filter.mpr ⟨mm_lv_mem.mpr ⟨w, hj, hu, rfl⟩, ?_⟩))
      simp only [Bool.and_eq_true, Bool.not_eq_true', beq_eq_false_iff_ne, ne_eq, Bool.and_eq_false_iff]
      refine ⟨fun e => hij e.symm, ?_⟩
      by_cases hc : (mm_tv ad w).category = 2
      · obtain ⟨x, rfl⟩ := mm_lg_of ad hc hu
        have hm := h.2.2.2.1 j x hj
        have := ho j (by simpa using hm)
        left
        simpa using this
      · exact Or.inr hc
  · intro j x hj
    rw [List.getElem?_set] at hj
    by_cases hij : i = j
    · subst hij
      rw [if_pos rfl, if_pos hi] at hj
      exact absurd (Option.some.inj hj) (hl x)
    · rw [if_neg hij] at hj
      exact h.2.2.2.1 j x hj
  · intro j w hj
    rw [List.getElem?_set] at hj
    by_cases hij : i = j
    · subst hij
      rw [if_pos rfl, if_pos hi] at hj
      cases hj
      exact hv
    · rw [if_neg hij] at hj
      exact h.2.2.2.2 j w hj
theorem mm_relL_st2 {M : mm_M} {ad : Nat → Nat} {n : Nat} {rl rl' : Array Slot} {ls : List Value} {i : Nat} {x : Int64} (h : mm_relL M ad n rl ls) (ho : mm_ok2 M i ls.length = true) (h' : lv_has rl' M.2.2.2.1 ((i, Value.long x) :: (mm_lv ad ls).filter (fun q => !(q.1 == i) && (!(q.1 == i + 1) && !(q.1 + 1 == i && q.2.category == 2))))) : mm_relL M ad n rl' ((ls.set i (.long x)).set (i + 1) uu) := by
  simp only [mm_ok2, Bool.and_eq_true, decide_eq_true_eq, List.all_eq_true] at ho
  obtain ⟨⟨hi, ho⟩, hc⟩ := ho
  have hg : ∀ (j : Nat) (w : Value), ((ls.set i (.long x)).set (i + 1) uu)[j]? = some w → (j = i ∧ w = .long x) ∨ (j = i + 1 ∧ w = uu) ∨ (j ≠ i ∧ j ≠ i + 1 ∧ ls[j]? = some w) := by
    intro j w hj
    rw [List.getElem?_set, List.length_set] at hj
    by_cases h1 : i + 1 = j
    · rw [if_pos h1, if_pos (by omega)] at hj
      exact Or.inr (Or.inl ⟨h1.symm, (Option.some.inj hj).symm⟩)
    · rw [if_neg h1, List.getElem?_set] at hj
      by_cases h2 : i = j
      · rw [if_pos h2, if_pos (by omega)] at hj
        exact Or.inl ⟨h2.symm, (Option.some.inj hj).symm⟩
      · rw [if_neg h2] at hj
        exact Or.inr (Or.inr ⟨fun e => h2 e.symm, fun e => h1 e.symm, hj⟩)
  refine ⟨by rw [List.length_set, List.length_set]; exact h.1, ⟨h'.1, h'.2.1⟩, ?_, ?_, ?_⟩
  · intro j w hj hu
    rcases hg j w hj with ⟨rfl, rfl⟩ | ⟨rfl, rfl⟩ | ⟨h1, h2, h3⟩
    · exact h'.2.2 (j, Value.long x) List.mem_cons_self
    · cases hu
    · refine h'.2.2 (j, mm_tv ad w) (List.mem_cons_of_mem _ (List.mem_filter.mpr ⟨mm_lv_mem.mpr ⟨w, h3, hu, rfl⟩, ?_⟩))
      simp only [Bool.and_eq_true, Bool.not_eq_true', beq_eq_false_iff_ne, ne_eq, Bool.and_eq_false_iff]
      refine ⟨h1, h2, ?_⟩
      by_cases hc2 : (mm_tv ad w).category = 2
      · obtain ⟨y, rfl⟩ := mm_lg_of ad hc2 hu
        have hm := h.2.2.2.1 j y h3
        have := ho j (by simpa using hm)
        left
        simpa using this
      · exact Or.inr hc2
  · intro j y hj
    rcases hg j _ hj with ⟨rfl, h2⟩ | ⟨rfl, h2⟩ | ⟨h1, h2, h3⟩
    · exact hc
    · cases h2
    · exact h.2.2.2.1 j y h3
  · intro j w hj
    rcases hg j w hj with ⟨rfl, rfl⟩ | ⟨rfl, rfl⟩ | ⟨h1, h2, h3⟩
    · trivial
    · trivial
    · exact h.2.2.2.2 j w h3
theorem mm_relL_ext {M : mm_M} {ad ad' : Nat → Nat} {n n' : Nat} {rl : Array Slot} {ls : List Value} (h : mm_relL M ad n rl ls) (hn : n ≤ n') (ha : ∀ r, r < n → ad' r = ad r) : mm_relL M ad' n' rl ls :=
  ⟨h.1, h.2.1, fun i v hv hu => by rw [mm_tv_ext ha (h.2.2.2.2 i v hv)]; exact h.2.2.1 i v hv hu, h.2.2.2.1, fun i v hv => mm_vo_mono hn (h.2.2.2.2 i v hv)⟩
