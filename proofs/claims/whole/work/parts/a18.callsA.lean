/-! calls of both: the sweeps -/
theorem trF_k {F F' : Nat → Nat → Value} (I : Nat → Nat → Int32) {L L' : Nat → Nat → Int64} (h : trF F F' L L') : kR (fun r => r < 3 ∨ 56 < r) F F' I I L L' := fun r hr => ⟨funext (fun j => h.1 r j (by omega)), rfl, h.2 r (by omega)⟩
theorem hFr_k {F F' : Nat → Nat → Value} (I : Nat → Nat → Int32) {L L' : Nat → Nat → Int64} (h : hFr F F' L L') : kR (fun r => r < 3 ∨ 56 < r) F F' I I L L' := fun r hr => ⟨(h r hr).1, rfl, (h r hr).2⟩
theorem ex_sweep (n : Nat) (hs : Nat → List (Int × Int × Nat)) (st : Nat → Option (Nat × Nat)) (a : Nat) : exA (udf st n none) (sH (udf hs n []) (udf st n none)) a (n + 1) = exA st (sH hs st) a n ∧ exU (udf st n none) (sB (udf hs n []) (udf st n none)) a (n + 1) = exU st (sB hs st) a n := by
  have key : ∀ k, k ≤ n → exA (udf st n none) (sH (udf hs n []) (udf st n none)) a k = exA st (sH hs st) a k ∧ exU (udf st n none) (sB (udf hs n []) (udf st n none)) a k = exU st (sB hs st) a k := by
    intro k
    induction k with
    | zero => intro _; exact ⟨rfl, rfl⟩
    | succ k ih =>
      intro hk
      have i := ih (by omega)
      have e1 : udf st n none k = st k := udf_n _ _ (by omega)
      have e2 : udf hs n [] k = hs k := udf_n _ _ (by omega)
      constructor
      · rw [exA, exA, i.1, sH, sH, e1, e2]
      · rw [exU, exU, i.2, sB, sB, e1, e2]
  constructor
  · rw [exA, (key n (Nat.le_refl _)).1, udf_s, decide_eq_false (fun q => q.1 rfl), Bool.or_false]
  · rw [exU, (key n (Nat.le_refl _)).2, udf_s, decide_eq_false (fun q => q.1 rfl), Bool.or_false]
theorem cHl_sweep (n : Nat) (hs : Nat → List (Int × Int × Nat)) (st : Nat → Option (Nat × Nat)) {F : Nat → Nat → Value} {I : Nat → Nat → Int32} {L : Nat → Nat → Int64} (h : cHl n hs st F I L) (h8 : n < 8) : cHl (n + 1) (udf hs n []) (udf st n none) (mm_up2 F 3 3 (.int (nI (n + 1)))) I L := by
  obtain ⟨h0, hS, hP, hB, hN⟩ := h
  have kk : kd (n + 1) (udf hs n []) (udf st n none) = kd n hs st := by
    funext a
    rw [kd_b, kd_b, (ex_sweep n hs st a).1, (ex_sweep n hs st a).2]
  refine ⟨cH0_fr h0 (fun x j q => ?_), cHs_sweep n hs st hS h8, fun o c t ho q => ?_, ?_, ?_⟩
  · unfold mm_up2
    rw [if_neg (by rcases q with q | q | ⟨o, q1, q2, q3⟩ | ⟨o, q1, q2, q3⟩ | q | q <;> omega)]
  · by_cases e : o = n
    · subst e; rw [udf_s] at q; exact absurd q (by simp)
    · rw [udf_n _ _ e] at q ⊢
      exact pLd_fr (hP o c t (by omega) q) (up_row _ _ _ (by omega)) rfl
  · obtain ⟨vh, vb, g5, g6, gh, gb⟩ := hB
    exact ⟨vh, vb, by rw [up_k _ _ _ _ (by omega)]; exact g5, by rw [up_k _ _ _ _ (by omega)]; exact g6, fun a ha => by rw [(ex_sweep n hs st a).1]; exact gh a ha, fun a ha => by rw [(ex_sweep n hs st a).2]; exact gb a ha⟩
  · rw [kk]
    obtain ⟨⟨v, n1, n2⟩, n3, n4, n5⟩ := hN
    exact ⟨⟨v, by rw [up_r _ _ _ _ (by omega)]; exact n1, n2⟩, by rw [up_r _ _ _ _ (by omega)]; exact n3, by rw [up_r _ _ _ _ (by omega)]; exact n4, n5⟩
theorem op_sweep (d : Nat) (z : mm_Z) (F : Nat → Nat → Value) (I : Nat → Nat → Int32) (L : Nat → Nat → Int64) (hz : zOK z) (g : gI F I L) : gS Value.int (d + 30) z F I L mX10_sweep [.ref 2] mX11_sweep [.ref 120] := by
  obtain ⟨n, hs, st, lm, k, tx, c, th, ca, m, ja, jb, jv, jw, rc, ro, rb, ln, lo, hi, tr, o, gc, gr⟩ := id g; obtain ⟨w, ⟨l0, l1, l2⟩, o3, o4, o5, o6, o7, o8⟩ := id o; obtain ⟨c1, c2, c3, c4, c5, c6, c7, c8, c9⟩ := id gc; obtain ⟨r1, r2, r3, r4, r5, r6, r7, r8, r9⟩ := id gr
  have w8 := w.1
  by_cases h8 : n = 8
  · have r0 := r2.1
    rw [h8] at r0
    exact gS_same g (cX_sweep_full (d + 29) z F I L n hs st hz c1 c2.2.1 h8) (rM_sweep_full (d + 30) z F I L hz r0)
  · have h8' : n < 8 := by omega
    have fc : kR (fun r => r < 3 ∨ 56 < r) F (mm_up2 F 3 3 (.int (nI (n + 1)))) I I L L := fun r hr => ⟨up_row _ _ _ (by omega), rfl, rfl⟩
    have fo : kO F (mm_up2 F 3 3 (.int (nI (n + 1)))) I I L L := kR_w fc (fun r q => by omega)
    obtain ⟨q1, q2, q3, q4, q5, q6, q7, q8, q9⟩ := gR_kO gr fo
    have gc' := gC_hall gc w (cHl_sweep n hs st c2 h8') fc
    have e2 := rM_sweep (d + 30) z (mm_up2 F 3 3 (.int (nI (n + 1)))) I L n hz q1 q2.1 h8'
    refine gS_gen ⟨wOK_sweep n hs st w h8', o.2⟩ (cX_sweep (d + 29) z F I L n hs st hz c1 c2.2.1 h8') gc' fo e2 (gR_hall (gR_kO gr fo) (rmS_sweep n hs st q2) (fun j _ hj => up_k _ _ _ _ (by omega)) (fun r _ _ hr => by rw [up_row _ _ _ (by omega), up_row _ _ _ (by omega)])) (fun r hr => ⟨up_row _ _ _ (by omega), by rw [up_row _ _ _ (by omega), up_row _ _ _ (by omega)], rfl⟩)
theorem op_part (d : Nat) (z : mm_Z) (F : Nat → Nat → Value) (I : Nat → Nat → Int32) (L : Nat → Nat → Int64) (hz : zOK z) (g : gI F I L) (s : Int32) : gS Value.int (d + 30) z F I L mX10_part [.ref 2, .int s, uu] mX11_part [.ref 120, .int s, uu] := by
  obtain ⟨n, hs, st, lm, k, tx, c, th, ca, m, ja, jb, jv, jw, rc, ro, rb, ln, lo, hi, tr, o, gc, gr⟩ := id g; obtain ⟨w, ⟨l0, l1, l2⟩, o3, o4, o5, o6, o7, o8⟩ := id o; obtain ⟨c1, c2, c3, c4, c5, c6, c7, c8, c9⟩ := id gc; obtain ⟨r1, r2, r3, r4, r5, r6, r7, r8, r9⟩ := id gr
  by_cases h1 : 0 ≤ s.toInt ∧ s.toInt < n
  · obtain ⟨j, hj, rfl⟩ := i32_nat h1
    cases e : st j with
    | none => exact gS_same g (cX_part_not (d + 28) z F I L n hs st hz c1 w c2 j hj e) (rM_part_not (d + 28) z F I L n hs st hz r1 w r2 j hj e)
    | some p =>
      obtain ⟨cc, t⟩ := p
      obtain ⟨F1, L1, e1, e2, e3⟩ := cX_part (d + 24) z F I L n hs st hz c1 w c2 j cc t hj e
      have fc := hFr_k I e3
      have fo : kO F F1 I I L L1 := kR_w fc (fun r q => by omega)
      obtain ⟨q1, q2, q3, q4, q5, q6, q7, q8, q9⟩ := gR_kO gr fo
      exact gS_gen ⟨wOK_part n hs st w j, o.2⟩ e1 (gC_hall gc w e2 fc) fo (rM_part (d + 28) z F1 I L1 n hs st hz q1 w q2 j cc t hj e) (gR_hall (gR_kO gr fo) (rmS_part n hs st q2 j) (fun j _ hj => rfl) (fun r _ _ hr => up_row _ _ _ (by omega))) (fun r hr => ⟨rfl, up_row _ _ _ (by omega), rfl⟩)
  · exact gS_same g (cX_part_unk (d + 28) z F I L n hs st hz c1 w c2 s h1) (rM_part_unk (d + 28) z F I L n s hz w.1 r2.1 h1)
theorem op_stand (d : Nat) (z : mm_Z) (F : Nat → Nat → Value) (I : Nat → Nat → Int32) (L : Nat → Nat → Int64) (hz : zOK z) (g : gI F I L) (s x t : Int32) : gS Value.int (d + 30) z F I L mX10_stand [.ref 2, .int s, .int x, .int t, uu] mX11_stand [.ref 120, .int s, .int x, .int t] := by
  obtain ⟨n, hs, st, lm, k, tx, c, th, ca, m, ja, jb, jv, jw, rc, ro, rb, ln, lo, hi, tr, o, gc, gr⟩ := id g; obtain ⟨w, ⟨l0, l1, l2⟩, o3, o4, o5, o6, o7, o8⟩ := id o; obtain ⟨c1, c2, c3, c4, c5, c6, c7, c8, c9⟩ := id gc; obtain ⟨r1, r2, r3, r4, r5, r6, r7, r8, r9⟩ := id gr
  by_cases h1 : (0 ≤ s.toInt ∧ s.toInt < n) ∧ (0 ≤ x.toInt ∧ x.toInt < 64)
  · obtain ⟨j, hj, rfl⟩ := i32_nat h1.1
    obtain ⟨a, ha, rfl⟩ := i32_nat (N := 64) h1.2
    have ca1 := cX_stand_a (d + 28) z F I L n hs st hz c1 w c2 j a t hj ha
    have ra := rM_stand_a (d + 27) z F I L n j a t hz w.1 r2.1 hj ha
    by_cases h2 : 0 ≤ t.toInt ∧ t.toInt ≤ 3
    · obtain ⟨b, hb, rfl⟩ := i32_nat (x := t) (N := 4) (by omega)
      by_cases e : st j = none
      · have cb := cX_stand_b (d + 28) z F I L n hs st hz c1 w c2 j a b hj hb e (.int (nI j))
        cases lk : lOk (hs j) a b (hs j).length with
        | false =>
          obtain ⟨F1, L1, e1, e2, e3⟩ := cH_place_bad (d + 24) z F I L n hs st hz w c2 j a b hj ha hb e lk
          have fc := hFr_k I e3
          have fo : kO F F1 I I L L1 := kR_w fc (fun r q => by omega)
          obtain ⟨q1, q2, q3, q4, q5, q6, q7, q8, q9⟩ := gR_kO gr fo
          obtain ⟨I2, f1, f2⟩ := rM_stand_bad (d + 27) z F1 I L1 n hs st hz q1 w q2 j a b hj ha hb e lk
          have ra' := rM_stand_a (d + 27) z F1 I L1 n j a (nI b) hz w.1 q2.1 hj ha
          rw [e1, mm_bd_i, eX10_stand_59] at cb
          exact gS_sc o (ca1.trans cb) (gC_hall gc w e2 fc) fo gr (ra'.trans f1) (scr_lay f2)
        | true =>
          obtain ⟨F1, L1, e1, e2, e3⟩ := cH_place (d + 24) z F I L n hs st hz w c2 j a b hj ha hb e lk
          have fc := hFr_k I e3
          have fo : kO F F1 I I L L1 := kR_w fc (fun r q => by omega)
          obtain ⟨q1, q2, q3, q4, q5, q6, q7, q8, q9⟩ := gR_kO gr fo
          obtain ⟨I2, I1, f1, f2, f3, f4⟩ := rM_stand (d + 27) z F1 I L1 n hs st hz q1 w q2 j a b hj ha hb e lk
          have ra' := rM_stand_a (d + 27) z F1 I L1 n j a (nI b) hz w.1 q2.1 hj ha
          rw [e1, mm_bd_i, eX10_stand_59] at cb
          have f5 : ∀ r, ¬ r = 125 → ¬ r = 126 → ¬ r = 128 → ¬ r = 129 → I2 r = I r := fun r p1 p2 p3 p4 => by rw [f2, up_row _ _ _ p2, up_row _ _ _ p1]; exact f3 r p3 p4
          exact gS_gen ⟨wOK_stand n hs st w j a b ha hb lk, o.2⟩ (ca1.trans cb) (gC_hall gc w e2 fc) fo (ra'.trans f1) (gR_hall (gR_kO gr fo) f4 (fun j _ hj => rfl) (fun r _ p1 p2 => by unfold scI at p1; exact f5 r (by omega) (by omega) (by omega) (by omega))) (fun r hr => ⟨rfl, f5 r (by omega) (by omega) (by omega) (by omega), rfl⟩)
      · exact gS_same g (ca1.trans (cX_stand_not (d + 28) z F I L n hs st hz w c2 j b hj hb e _ _)) (ra.trans (rM_stand_not (d + 27) z F I L n hs st hz r1 w r2 j b _ hj hb e))
    · exact gS_same g (ca1.trans (cX_stand_out (d + 28) z F I L t _ _ _ h2)) (ra.trans (rM_stand_out (d + 27) z F I L _ _ t h2))
  · exact gS_same g (cX_stand_unk (d + 28) z F I L n hs st hz c1 w c2 s x t h1) (rM_stand_unk (d + 27) z F I L n s x t hz w.1 r2.1 h1)
theorem op_set (d : Nat) (z : mm_Z) (F : Nat → Nat → Value) (I : Nat → Nat → Int32) (L : Nat → Nat → Int64) (hz : zOK z) (g : gI F I L) (x v : Int32) : gS Value.int (d + 30) z F I L mX10_set [.ref 2, .int x, .int v, uu] mX11_set [.ref 120, .int x, .int v, uu] := by
  obtain ⟨n, hs, st, lm, k, tx, c, th, ca, m, ja, jb, jv, jw, rc, ro, rb, ln, lo, hi, tr, o, gc, gr⟩ := id g; obtain ⟨w, ⟨l0, l1, l2⟩, o3, o4, o5, o6, o7, o8⟩ := id o; obtain ⟨c1, c2, c3, c4, c5, c6, c7, c8, c9⟩ := id gc; obtain ⟨r1, r2, r3, r4, r5, r6, r7, r8, r9⟩ := id gr
  by_cases h1 : okSet x v
  · obtain ⟨p1, p2⟩ := id h1
    obtain ⟨a, ha, rfl⟩ := i32_nat (x := x) (N := 3) (by omega)
    have vb : v.toInt ≤ 16 := by have := p2.2; split at this <;> omega
    obtain ⟨b, hb, rfl⟩ := i32_nat (x := v) (N := 17) (by omega)
    have hv : b ≤ if a = 2 then 10 else 16 := by
      have := p2.2
      rw [nI_toInt (by omega)] at this
      by_cases e : a = 2
      · rw [if_pos e]; rw [if_pos (by rw [e])] at this; omega
      · rw [if_neg e]; omega
    obtain ⟨e1, e2⟩ := cX_set (d + 29) z F I L lm hz c1 c3 a b ha hv
    have fo : kR (fun r => r < 57 ∨ 57 < r) F F I (mm_up2 I 57 a (nI b)) L L := fun r hr => ⟨rfl, up_row _ _ _ (by omega), rfl⟩
    have fo' : kO F F I (mm_up2 I 57 a (nI b)) L L := kR_w fo (fun r q => by omega)
    obtain ⟨q1, q2, q3, q4, q5, q6, q7, q8, q9⟩ := gR_kO gr fo'
    obtain ⟨F2, f1, f2, f3, f4⟩ := rM_set (d + 29) z F (mm_up2 I 57 a (nI b)) L lm hz q1 q3 a b ha hv
    have lo' : udf lm a b 0 ≤ 16 ∧ udf lm a b 1 ≤ 16 ∧ udf lm a b 2 ≤ 10 := by
      unfold udf
      refine ⟨?_, ?_, ?_⟩
      · split <;> omega
      · split <;> omega
      · split
        · rename_i q; rw [if_pos q.symm] at hv; exact hv
        · exact l2
    exact gS_gen ⟨w, lo', o.2.2⟩ e1 (gC_lim gc w e2 fo) fo' f1 (gR_lim (gR_kO gr fo') f2 (fun j _ hj => f4 120 j (by omega)) (fun r _ _ _ => rfl)) (fun r hr => ⟨funext (fun j => f4 r j (by omega)), rfl, rfl⟩)
  · exact gS_same g (cX_set_out (d + 29) z F I L x v h1) (rM_set_out (d + 29) z F I L x v h1)
theorem op_hit (d : Nat) (z : mm_Z) (F : Nat → Nat → Value) (I : Nat → Nat → Int32) (L : Nat → Nat → Int64) (hz : zOK z) (g : gI F I L) (s x y m' : Int32) : gS Value.int (d + 30) z F I L mX10_hit [.ref 2, .int s, .int x, .int y, .int m', uu, uu] mX11_hit [.ref 120, .int s, .int x, .int y, .int m', uu] := by
  obtain ⟨n, hs, st, lm, k, tx, c, th, ca, m, ja, jb, jv, jw, rc, ro, rb, ln, lo, hi, tr, o, gc, gr⟩ := id g; obtain ⟨w, ⟨l0, l1, l2⟩, o3, o4, o5, o6, o7, o8⟩ := id o; obtain ⟨c1, c2, c3, c4, c5, c6, c7, c8, c9⟩ := id gc; obtain ⟨r1, r2, r3, r4, r5, r6, r7, r8, r9⟩ := id gr
  by_cases h1 : 0 ≤ s.toInt ∧ s.toInt < n
  · obtain ⟨j, hj, rfl⟩ := i32_nat h1
    have ca1 := cX_hit_a (d + 28) z F I L n hs st hz c1 w c2 j hj x y m'
    have ra := rM_hit_a (d + 28) z F I L n j x y m' hz w.1 r2.1 hj
    by_cases h2 : okHit x y m'
    · have cb := cX_hit_b (d + 28) z F I L x y m' (.int (nI j)) (.ref (9 + 6 * j)) h2
      have rb' := rM_hit_b (d + 28) z F I L (.int (nI j)) x y m' h2
      obtain ⟨⟨hx, hy⟩, h00, hm⟩ := h2
      obtain ⟨b, hb, rfl⟩ := i32_nat (x := m') (N := 10) (by omega)
      obtain ⟨X, eX⟩ : ∃ X, X = x.toInt := ⟨_, rfl⟩
      obtain ⟨Y, eY⟩ : ∃ Y, Y = y.toInt := ⟨_, rfl⟩
      have ex : x = iI X := by rw [eX]; exact iI_of x
      have ey : y = iI Y := by rw [eY]; exact iI_of y
      rw [← eX] at hx
      rw [← eY] at hy
      have h00' : ¬ (X = 0 ∧ Y = 0) := fun q => h00 ⟨by rw [ex, q.1, iI_0], by rw [ey, q.2, iI_0]⟩
      subst ex ey
      have ca2 := ca1.trans cb
      have ra2 := ra.trans rb'
      by_cases e : st j = none
      · have rc1 := rM_hit_c (d + 30) z F I L n hs st hz r1 w r2 j hj e (.int (iI X)) (.int (iI Y)) (.int (nI b))
        by_cases hd : ∃ i, i < (hs j).length ∧ (hg (hs j) i).1 = X ∧ (hg (hs j) i).2.1 = Y
        · have rd := rM_hit_dup (d + 30) z F I L n hs st hz r1 w r2 j hj X Y (.int (nI b)) hx hy (hs j).length 0 (by omega) (by obtain ⟨i, i1, i2⟩ := hd; exact ⟨i, by omega, i1, i2⟩)
          rw [nI_0] at rd
          exact gS_same g (ca2.trans (cX_hit_dup (d + 29) z F I L n hs st hz w c2 j hj e X Y hx hy hd _ _ _)) (ra2.trans (rc1.trans rd))
        · have hd' : ∀ i, i < (hs j).length → ¬ ((hg (hs j) i).1 = X ∧ (hg (hs j) i).2.1 = Y) := fun i hi q => hd ⟨i, hi, q⟩
          have ch := cX_hit_c (d + 29) z F I L n hs st hz w c2 j hj e X Y b hx hy hd (.int (nI j)) (.int 0)
          have rd := rM_hit_nodup (d + 30) z F I L n hs st hz r1 w r2 j hj X Y (.int (nI b)) hx hy hd' (hs j).length 0 (by omega)
          rw [nI_0] at rd
          have l16 := (w.2 j hj).1
          by_cases hl : (hs j).length = 16
          · have w8 := w.1
            rw [cS_add_full (d + 29) z F I L j (by omega) (hs j) hz (c2.2.1.2.2.1 j hj).1 hl, mm_bd_i, eX10_hit_104] at ch
            exact gS_same g (ca2.trans ch) (ra2.trans (rc1.trans (rd.trans (rM_hit_full (d + 30) z F I L n hs st hz r1 w r2 j hj hl _ _ _ _))))
          · have hl' : (hs j).length < 16 := by omega
            have w8 := w.1
            obtain ⟨a1, a2⟩ := cS_add (d + 29) z F I L j (by omega) (hs j) hz (c2.2.1.2.2.1 j hj).1 hl' X Y b
            rw [a1, mm_bd_i, eX10_hit_104] at ch
            have fc : kR (fun r => r < 3 ∨ 56 < r) F (mm_up2 F (9 + 6 * j) 4 (.int (nI ((hs j).length + 1)))) I (sAdd j (hs j).length X Y b I) L L := fun r hr => ⟨up_row _ _ _ (by omega), by unfold sAdd; rw [up_row _ _ _ (by omega), up_row _ _ _ (by omega), up_row _ _ _ (by omega)], rfl⟩
            have fo : kO F (mm_up2 F (9 + 6 * j) 4 (.int (nI ((hs j).length + 1)))) I (sAdd j (hs j).length X Y b I) L L := kR_w fc (fun r q => by omega)
            obtain ⟨q1, q2, q3, q4, q5, q6, q7, q8, q9⟩ := gR_kO gr fo
            have gc' := gC_hall gc w (cHl_hit n hs st w c2 j hj e X Y b a2) fc
            have s1 := rM_hit_a (d + 28) z (mm_up2 F (9 + 6 * j) 4 (.int (nI ((hs j).length + 1)))) (sAdd j (hs j).length X Y b I) L n j (iI X) (iI Y) (nI b) hz w.1 q2.1 hj
            have s2 := rM_hit_b (d + 28) z (mm_up2 F (9 + 6 * j) 4 (.int (nI ((hs j).length + 1)))) (sAdd j (hs j).length X Y b I) L (.int (nI j)) (iI X) (iI Y) (nI b) ⟨⟨by rw [iI_toInt (by omega) (by omega)]; exact hx, by rw [iI_toInt (by omega) (by omega)]; exact hy⟩, h00, hm⟩
            have s3 := rM_hit_c (d + 30) z (mm_up2 F (9 + 6 * j) 4 (.int (nI ((hs j).length + 1)))) (sAdd j (hs j).length X Y b I) L n hs st hz q1 w q2 j hj e (.int (iI X)) (.int (iI Y)) (.int (nI b))
            have s4 := rM_hit_nodup (d + 30) z (mm_up2 F (9 + 6 * j) 4 (.int (nI ((hs j).length + 1)))) (sAdd j (hs j).length X Y b I) L n hs st hz q1 w q2 j hj X Y (.int (nI b)) hx hy hd' (hs j).length 0 (by omega)
            rw [nI_0] at s4
            have s5 := rM_hit_add (d + 30) z (mm_up2 F (9 + 6 * j) 4 (.int (nI ((hs j).length + 1)))) (sAdd j (hs j).length X Y b I) L n hs st hz q1 w q2 j hj hl' (iI X) (iI Y) (nI b) (.int (nI (hs j).length))
            have fi : ∀ r, ¬ r = 121 → ¬ r = 122 → ¬ r = 123 → ¬ r = 124 → mm_hitI (sAdd j (hs j).length X Y b I) j (hs j).length (iI X) (iI Y) (nI b) r = sAdd j (hs j).length X Y b I r := fun r p1 p2 p3 p4 => by unfold mm_hitI; simp only [up_row _ _ _ p1, up_row _ _ _ p2, up_row _ _ _ p3, up_row _ _ _ p4]
            exact gS_gen ⟨wOK_hit n hs st w j hj hl' X Y b hx hy h00' (by omega) e hd', o.2⟩ (ca2.trans ch) gc' fo (s1.trans (s2.trans (s3.trans (s4.trans s5)))) (gR_hall (gR_kO gr fo) (rmS_hit n hs st q2 w j hj hl' X Y b) (fun j _ hj => rfl) (fun r _ p1 p2 => fi r (by omega) (by omega) (by omega) (by omega))) (fun r hr => ⟨rfl, fi r (by omega) (by omega) (by omega) (by omega), rfl⟩)
      · exact gS_same g (ca2.trans (cX_hit_st (d + 30) z F I L n hs st hz w c2 j hj e _ _ _ _ _)) (ra2.trans (rM_hit_st (d + 30) z F I L n hs st hz r1 w r2 j hj e _ _ _))
    · exact gS_same g (ca1.trans (cX_hit_out (d + 28) z F I L x y m' _ _ h2)) (ra.trans (rM_hit_out (d + 28) z F I L _ x y m' h2))
  · exact gS_same g (cX_hit_unk (d + 28) z F I L n hs st hz c1 w c2 s x y m' h1) (rM_hit_unk (d + 28) z F I L n s x y m' hz w.1 r2.1 h1)
