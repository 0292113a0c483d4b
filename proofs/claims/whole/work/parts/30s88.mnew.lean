/-! a row of rows -/
theorem mm_rows {N : Nat} {r : Nat → Nat} {f : Nat → va_E} {v : va_E} : va_pl ([] ++ (List.range N).map r) (vr_up f ((List.range N).map r) v) = (List.range N).map (fun i => (r i, v)) := by
  unfold va_pl
  rw [List.nil_append, List.map_map]
  apply List.map_congr_left
  intro i hi
  show (r i, vr_up f _ v (r i)) = _
  rw [vr_up_in (List.mem_map.mpr ⟨i, hi, rfl⟩)]
def mm_adM (ad : Nat → Nat) (n N q : Nat) (r : Nat → Nat) : Nat → Nat := fun x => if x = n then q else if n < x ∧ x ≤ n + N then r (x - n - 1) else ad x
theorem mm_adM_lt {ad : Nat → Nat} {n N q x : Nat} {r : Nat → Nat} (h : x < n) : mm_adM ad n N q r x = ad x := by
  unfold mm_adM
  rw [if_neg (by omega), if_neg (by omega)]
theorem mm_adM_at {ad : Nat → Nat} {n N q : Nat} {r : Nat → Nat} : mm_adM ad n N q r n = q := by
  unfold mm_adM
  rw [if_pos rfl]
theorem mm_adM_in {ad : Nat → Nat} {n N q i : Nat} {r : Nat → Nat} (h : i < N) : mm_adM ad n N q r (n + 1 + i) = r i := by
  unfold mm_adM
  rw [if_neg (by omega), if_pos (by omega)]
  congr 1
  omega
def mm_z0 (t K : Nat) : vp_A := (K, if t = 1 then .inr (.inl (fun _ => 0)) else .inl (fun _ => 0))
section MP
variable {p : Program} {l : Launch} {e : Env} {R : Room} {s : State} {m : MethodId} {args : Array Value} {below : List Frame} {meth : Method} {c : Code} {D : va_G} {aC : Nat → ClassId} {A : Nat → Prop} {ad0 : Nat → Nat} {n0 s0 dd : Nat} {M : mm_M} {Q : State → Prop}
variable {pc pc' : Nat} {ls st ls' st' : List Value} {H H' : mm_H}
theorem mm_ws_M {aC : Nat → ClassId} {ad : Nat → Nat} {t N K q : Nat} {r : Nat → Nat} (h2 : 2 ≤ H.1.1) (hco : ∀ x, 2 ≤ x → x < H.1.1 → mm_co H x) (ht : t = 0 ∨ t = 1) : mm_ws aC (mm_adM ad H.1.1 N q r) (mm_nM H t N K) = (mm_ws aC ad H ++ [(q, .inl (aC (t + 4), N, .inr (.inr (.inr (.inr (fun i => if i < N then some (r i) else none))))))]) ++ (List.range N).map (fun i => (r i, .inl (aC t, mm_z0 t K))) := by
  have hold : ∀ x, x < H.1.1 → (mm_nM H t N K).1.2.2 x = H.1.2.2 x ∧ (mm_nM H t N K).2.1 x = H.2.1 x ∧ (mm_nM H t N K).2.2.1 x = H.2.2.1 x ∧ (mm_nM H t N K).2.2.2 x = H.2.2.2 x := by
    intro x hx
    unfold mm_nM
    refine ⟨?_, ?_, ?_, ?_⟩
    · show (if x = H.1.1 then _ else if _ then _ else _) = _
      rw [if_neg (by omega), if_neg (by omega)]
    · show (if x = H.1.1 then _ else _) = _
      rw [if_neg (by omega)]
    · show (if _ then _ else _) = _
      rw [if_neg (by omega)]
    · show (if _ then _ else _) = _
      rw [if_neg (by omega)]
  rw [mm_ws_ext (k := N + 1) (H := H) (H' := mm_nM H t N K) (ad := ad) (ad' := mm_adM ad H.1.1 N q r) h2 (by show H.1.1 + 1 + N = _; omega) (fun x q1 q2 => ⟨mm_adM_lt q2, (mm_ce_row (H := H) (H' := mm_nM H t N K) (hold x q2).1 (hold x q2).2.1 (hold x q2).2.2.1 (hold x q2).2.2.2).trans (mm_ce_ext (fun z hz => mm_adM_lt hz) (hco x q1 q2))⟩)]
  rw [List.append_assoc]
  congr 1
  rw [List.range_succ_eq_map, List.map_cons, List.map_map, List.singleton_append]
  congr 1
  · rw [Nat.add_zero, mm_adM_at]
    have hk : (mm_nM H t N K).1.2.2 H.1.1 = .inr (t + 4, N) := by
      show (if H.1.1 = H.1.1 then _ else _) = _
      rw [if_pos rfl]
    rw [mm_ce_a hk]
    unfold mm_ac
    rw [if_neg (by omega), if_pos (by omega)]
    congr 8
    funext j
    have e : (mm_nM H t N K).2.1 H.1.1 j = if j < N then .ref (H.1.1 + 1 + j) else .null := by
      show (if H.1.1 = H.1.1 then (fun j => if j < N then Value.ref (H.1.1 + 1 + j) else Value.null) else H.2.1 H.1.1) j = _
      rw [if_pos rfl]
    rw [e]
    by_cases hj : j < N
    · rw [if_pos hj, if_pos hj]
      show some (mm_adM ad H.1.1 N q r (H.1.1 + 1 + j)) = _
      rw [mm_adM_in hj]
    · rw [if_neg hj, if_neg hj]
      rfl
  · apply List.map_congr_left
    intro i hi
    have hi := List.mem_range.mp hi
    show (mm_adM ad H.1.1 N q r (H.1.1 + (i + 1)), mm_ce aC _ (mm_nM H t N K) (H.1.1 + (i + 1))) = _
    rw [show H.1.1 + (i + 1) = H.1.1 + 1 + i by omega, mm_adM_in hi]
    have hk : (mm_nM H t N K).1.2.2 (H.1.1 + 1 + i) = .inr (t, K) := by
      show (if H.1.1 + 1 + i = H.1.1 then _ else if _ then _ else _) = _
      rw [if_neg (by omega), if_pos (by omega)]
    rw [mm_ce_a hk]
    have e1 : (mm_nM H t N K).2.2.1 (H.1.1 + 1 + i) = fun _ => 0 := by
      show (if _ then _ else _) = _
      rw [if_pos (by omega)]
    have e2 : (mm_nM H t N K).2.2.2 (H.1.1 + 1 + i) = fun _ => 0 := by
      show (if _ then _ else _) = _
      rw [if_pos (by omega)]
    unfold mm_ac mm_z0
    rw [e1, e2]
    rcases ht with rfl | rfl <;> rfl
theorem mm_newM {t N K : Nat} {Hp : Heap} {locs : List Loc} {rl : Array Slot} {ad : Nat → Nat} (hH : mm_relH D aC A ad0 n0 s0 s ad Hp locs H) (hL : mm_relL M ad H.1.1 rl ls) (hs : mm_so H.1.1 st) (ht : t = 0 ∨ t = 1) (k : mm_Wp p l e R s m args below meth c D aC A ad0 n0 s0 M Q (pc + 4) ls (.ref H.1.1 :: st) (mm_nM H t N K)) {q : Nat} {r : Nat → Nat} {cA : ClassId} {H1 : Heap} {f : Nat → va_E} (hc : cA = aC (t + 4))
    (hP1 : va_P D mm_cl ((mm_ws aC ad H ++ [(q, .inl (cA, N, .inr (.inr (.inr (.inr (fun i => if i < N then some (r i) else none))))))]) ++ va_pl ([] ++ (List.range N).map r) (vr_up f ((List.range N).map r) (.inl (aC t, mm_z0 t K)))) H1) (hD1 : va_D A ((mm_ws aC ad H ++ [(q, .inl (cA, N, .inr (.inr (.inr (.inr (fun i => if i < N then some (r i) else none))))))]) ++ va_pl ([] ++ (List.range N).map r) (vr_up f ((List.range N).map r) (.inl (aC t, mm_z0 t K))))) (hS1 : va_S A s.heap H1 locs) : W p l e R s m args below meth c H1 locs (H.1.1 - n0 + 1 + N) (H.1.2.1 - s0 + N + N * K) Q (F0 m (pc + 4) rl (.ref q :: st.map (mm_tv ad))) := by
  have g0 := hH.2.1
  have g6 := hH.2.2.2.2.2.1
  rw [mm_rows, hc, ← mm_ws_M g6.1 g6.2 ht] at hP1 hD1
  have hext : ∀ x, x < H.1.1 → mm_adM ad H.1.1 N q r x = ad x := fun x hx => mm_adM_lt hx
  have hle : H.1.1 ≤ (mm_nM H t N K).1.1 := by show H.1.1 ≤ H.1.1 + 1 + N; omega
  have kk := k (mm_adM ad H.1.1 N q r) H1 locs rl (mm_relH_grow (H' := mm_nM H t N K) hH hext hle (by show H.1.2.1 ≤ H.1.2.1 + N + N * K; omega) (fun x hx => ⟨by show (if x = H.1.1 then _ else if _ then _ else _) = _; rw [if_neg (by omega), if_neg (by omega)], by show (if x = H.1.1 then _ else _) = _; rw [if_neg (by omega)], by show (if _ then _ else _) = _; rw [if_neg (by omega)]⟩) (fun x q1 q2 => by
      have q2 : x < H.1.1 + 1 + N := q2
      unfold mm_co
      by_cases hx : x = H.1.1
      · subst hx
        have hk : (mm_nM H t N K).1.2.2 H.1.1 = .inr (t + 4, N) := by
          show (if H.1.1 = H.1.1 then _ else _) = _
          rw [if_pos rfl]
        rw [hk]
        refine ⟨by omega, fun _ j => ?_⟩
        have e : (mm_nM H t N K).2.1 H.1.1 j = if j < N then .ref (H.1.1 + 1 + j) else .null := by
          show (if H.1.1 = H.1.1 then (fun j => if j < N then Value.ref (H.1.1 + 1 + j) else Value.null) else H.2.1 H.1.1) j = _
          rw [if_pos rfl]
        rw [e]
        by_cases hj : j < N
        · rw [if_pos hj]
          exact ⟨by show 1 ≤ H.1.1 + 1 + j; omega, by show H.1.1 + 1 + j < H.1.1 + 1 + N; omega⟩
        · rw [if_neg hj]; trivial
      · have hk : (mm_nM H t N K).1.2.2 x = .inr (t, K) := by
          show (if x = H.1.1 then _ else if _ then _ else _) = _
          rw [if_neg hx, if_pos (by omega)]
        rw [hk]
        exact ⟨by omega, fun h3 => absurd h3 (by omega)⟩) hP1 hD1 hS1) (mm_relL_ext hL hle hext) ⟨⟨Nat.le_trans (by decide : 1 ≤ 2) g6.1, by show H.1.1 < H.1.1 + 1 + N; omega⟩, mm_so_mono hle hs⟩
  have e1 : (mm_nM H t N K).1.1 - n0 = H.1.1 - n0 + 1 + N := by show H.1.1 + 1 + N - n0 = _; omega
  have e2 : (mm_nM H t N K).1.2.1 - s0 = H.1.2.1 - s0 + N + N * K := by show H.1.2.1 + N + N * K - s0 = _; omega
  have e3 : (Value.ref H.1.1 :: st).map (mm_tv (mm_adM ad H.1.1 N q r)) = .ref q :: st.map (mm_tv ad) := by
    rw [List.map_cons, mm_so_map hext hs]
    show Value.ref (mm_adM ad H.1.1 N q r H.1.1) :: _ = _
    rw [mm_adM_at]
  rw [e1, e2, e3] at kk
  exact kk
theorem mm_p_mnew {i d : Nat} (X : mm_cx D aC A M p R s m args meth c dd) (hd : decode M.2.2.1 pc = .ok (.multianewarray i d, 4)) (h : mm_st M pc ls st H (.multianewarray i d) = some (.inl (pc', ls', st', H'))) (k : mm_Wp p l e R s m args below meth c D aC A ad0 n0 s0 M Q pc' ls' st' H') (hRc : H'.1.1 - n0 ≤ R.cells ∧ H'.1.2.1 - s0 ≤ R.slots) : mm_Wp p l e R s m args below meth c D aC A ad0 n0 s0 M Q pc ls st H := by
  obtain ⟨k1, n, st1, rfl, ⟨⟨hn0, hn⟩, ⟨hk0, hk⟩⟩, rfl, hc⟩ := mm_mnew_inv h
  obtain ⟨hx, hb, hml, hrt, hown, hts, hlk, hin, hK, hNs, hA, hAO, hR⟩ := X
  rcases hc with ⟨h1, h2, h⟩ | ⟨h1, h2, h⟩
  · obtain ⟨rfl, rfl, rfl, rfl⟩ := mm_inj2 h
    subst h2
    rw [h1] at hown
    intro ad Hp locs rl hH hL hs
    have g0 := hH.2.1
    have g1 : H.1.1 + 1 + n.toNatClampNeg - n0 ≤ R.cells := hRc.1
    have g2 : H.1.2.1 + n.toNatClampNeg + n.toNatClampNeg * k1.toNatClampNeg - s0 ≤ R.slots := hRc.2
    refine va_mna (X := mm_ws aC ad H) (L := []) (f := fun _ => .inr (0, [])) (ty := .int) (cy := aC 0) (z := mm_z0 0 k1.toNatClampNeg) hx hb hown (hts _ mm_w_ii) hAO.2.1 (hts _ mm_w_ai) (hK.2 0 _ rfl).2 hK (by show va_P D mm_cl (mm_ws aC ad H ++ []) Hp; rw [List.append_nil]; exact hH.2.2.1) (by show va_D A (mm_ws aC ad H ++ []); rw [List.append_nil]; exact hH.2.2.2.1) hH.2.2.2.2.1 hA (mm_ge0 hn0) (mm_ge0 hk0) rfl rfl (by omega) (by show k1.toNatClampNeg * 4 ≤ _; omega) (by omega) rfl rfl (by omega) (by omega) (fun cc => ?_) hd (fun q r cA H1 _ _ hK1 hP1 hD1 hS1 => mm_newM hH hL hs.2.2 (Or.inl rfl) k (Option.some.inj ((hK1.2 6 _ rfl).2.symm.trans (hK.2 4 _ rfl).2)) hP1 hD1 hS1)
    show ({ cls := cc, slots := Array.replicate k1.toNatClampNeg (.int 0), vm := .none } : Cell) = arrV cc k1.toNatClampNeg (fun _ => .int 0)
    rw [arrV_new]
  · obtain ⟨rfl, rfl, rfl, rfl⟩ := mm_inj2 h
    subst h2
    rw [h1] at hown
    intro ad Hp locs rl hH hL hs
    have g0 := hH.2.1
    have g1 : H.1.1 + 1 + n.toNatClampNeg - n0 ≤ R.cells := hRc.1
    have g2 : H.1.2.1 + n.toNatClampNeg + n.toNatClampNeg * k1.toNatClampNeg - s0 ≤ R.slots := hRc.2
    refine va_mna (X := mm_ws aC ad H) (L := []) (f := fun _ => .inr (0, [])) (ty := .long) (cy := aC 1) (z := mm_z0 1 k1.toNatClampNeg) hx hb hown (hts _ mm_w_ll) hAO.2.2 (hts _ mm_w_al) (hK.2 1 _ rfl).2 hK (by show va_P D mm_cl (mm_ws aC ad H ++ []) Hp; rw [List.append_nil]; exact hH.2.2.1) (by show va_D A (mm_ws aC ad H ++ []); rw [List.append_nil]; exact hH.2.2.2.1) hH.2.2.2.2.1 hA (mm_ge0 hn0) (mm_ge0 hk0) rfl rfl (by omega) (by show k1.toNatClampNeg * 8 ≤ _; omega) (by omega) rfl rfl (by omega) (by omega) (fun cc => ?_) hd (fun q r cA H1 _ _ hK1 hP1 hD1 hS1 => mm_newM hH hL hs.2.2 (Or.inr rfl) k (Option.some.inj ((hK1.2 6 _ rfl).2.symm.trans (hK.2 5 _ rfl).2)) hP1 hD1 hS1)
    show ({ cls := cc, slots := Array.replicate k1.toNatClampNeg (.long 0), vm := .none } : Cell) = arrV cc k1.toNatClampNeg (fun _ => .long 0)
    rw [arrV_new]
end MP
