/-! calls of both: joins, rows, lengths, count -/
theorem okJ_tell {m : Nat} {ja jb : Nat → Nat} {jv : Nat → Int} {jw : Nat → Nat} (h : okJ m ja jb jv jw) (hm : m < 12) {a b q : Nat} {v : Int} (ha : a < 8) (hb : b < 8) (hab : ¬ a = b) (hv : -99 ≤ v ∧ v ≤ 99) (hq : 1 ≤ q ∧ q ≤ 50) : okJ (m + 1) (udf ja m a) (udf jb m b) (udf jv m v) (udf jw m q) := ⟨by omega, fun j hj => by
  by_cases e : j = m
  · subst e; rw [udf_s, udf_s, udf_s, udf_s]; exact ⟨ha, hb, hab, hv.1, hv.2, hq.1, hq.2⟩
  · rw [udf_n _ _ e, udf_n _ _ e, udf_n _ _ e, udf_n _ _ e]; exact h.2 j (by omega)⟩
theorem op_join (d : Nat) (z : mm_Z) (F : Nat → Nat → Value) (I : Nat → Nat → Int32) (L : Nat → Nat → Int64) (hz : zOK z) (g : gI F I L) (x y v q : Int32) : gS Value.int (d + 30) z F I L mX10_join [.ref 2, .int x, .int y, .int v, .int q] mX11_join [.ref 120, .int x, .int y, .int v, .int q] := by
  obtain ⟨n, hs, st, lm, k, tx, c, th, ca, m, ja, jb, jv, jw, rc, ro, rb, ln, lo, hi, tr, o, gc, gr⟩ := id g; obtain ⟨w, ⟨l0, l1, l2⟩, o3, o4, o5, o6, o7, o8⟩ := id o; obtain ⟨c1, c2, c3, c4, c5, c6, c7, c8, c9⟩ := id gc; obtain ⟨r1, r2, r3, r4, r5, r6, r7, r8, r9⟩ := id gr
  by_cases h1 : okSpot x y
  · by_cases h2 : okJoin x y v q
    · have ca1 := cX_join_a (d + 28) z F I L hz c1 x y v q h1 h2
      have m12 := o6.1
      by_cases hm : m = 12
      · rw [cJ_tell_full (d + 29) z F I L m ja jb jv jw hz c7.1 hm, mm_bd_i, eX10_join_59] at ca1
        exact gS_same g ca1 (rJ_join_full (d + 28) z F I L m ja jb jv jw hz r7 hm x y v q h1 h2)
      · have hm' : m < 12 := by omega
        obtain ⟨p1, p2, p3⟩ := h1
        obtain ⟨p4, p5⟩ := h2
        obtain ⟨a, ha, rfl⟩ := i32_nat (x := x) (N := 8) (by omega)
        obtain ⟨b, hb, rfl⟩ := i32_nat (x := y) (N := 8) (by omega)
        obtain ⟨u, hu, eu⟩ := i32_nat (x := q) (N := 51) (by omega)
        have hu' : 1 ≤ u ∧ u ≤ 50 := by have := p5.1; rw [eu, nI_toInt (by omega)] at this; omega
        subst eu
        obtain ⟨V, eV⟩ : ∃ V, V = v.toInt := ⟨_, rfl⟩
        have ev : v = iI V := by rw [eV]; exact iI_of v
        rw [← eV] at p4
        subst ev
        have hab : ¬ a = b := fun e => p3 (by rw [e])
        obtain ⟨F1, I1, e1, e2, e3, e4⟩ := cJ_tell (d + 29) z F I L m ja jb jv jw hz c7 hm' a b u V
        rw [e1, mm_bd_i, eX10_join_59] at ca1
        have fc : kR (fun r => r < 80 ∨ 112 < r) F F1 I I1 L L := fun r hr => ⟨e3 r (by omega), e4 r (by omega), rfl⟩
        have fo : kO F F1 I I1 L L := kR_w fc (fun r q => by omega)
        obtain ⟨q1, q2, q3, q4, q5, q6, q7, q8, q9⟩ := gR_kO gr fo
        obtain ⟨F2, I2, f1, f2, f3, f4, f5⟩ := rJ_join (d + 28) z F1 I1 L m ja jb jv jw hz q1 q7 hm' a b u V ha hb hab p4 hu'
        exact gS_gen ⟨w, o.2.1, o3, o4, o5, okJ_tell o6 hm' ha hb hab p4 hu', ⟨o7.1, fun i hi => by have := o7.2 i hi; omega⟩, o8⟩ ca1 (gC_joi gc w e2 fc) fo f1 (gR_joi (gR_kO gr fo) f2 (fun j _ hj => f4 120 j (by omega)) (fun r _ _ hr => f5 r (by omega))) (fun r hr => ⟨funext (fun j => f4 r j (by omega)), f5 r (by omega), rfl⟩)
    · exact gS_same g (cX_join_out (d + 28) z F I L x y v q h1 h2) (rJ_join_out (d + 28) z F I L x y v q h1 h2)
  · exact gS_same g (cX_join_unk (d + 28) z F I L x y v q h1) (rJ_join_unk (d + 28) z F I L x y v q h1)
theorem op_agrees (d : Nat) (z : mm_Z) (F : Nat → Nat → Value) (I : Nat → Nat → Int32) (L : Nat → Nat → Int64) (hz : zOK z) (g : gI F I L) (x : Int32) : gS Value.int (d + 30) z F I L mX10_agrees [.ref 2, .int x] mX11_agrees [.ref 120, .int x] := by
  obtain ⟨n, hs, st, lm, k, tx, c, th, ca, m, ja, jb, jv, jw, rc, ro, rb, ln, lo, hi, tr, o, gc, gr⟩ := id g; obtain ⟨w, ⟨l0, l1, l2⟩, o3, o4, o5, o6, o7, o8⟩ := id o; obtain ⟨c1, c2, c3, c4, c5, c6, c7, c8, c9⟩ := id gc; obtain ⟨r1, r2, r3, r4, r5, r6, r7, r8, r9⟩ := id gr
  by_cases h1 : 0 ≤ x.toInt ∧ x.toInt < ((2 ^ m : Nat) : Int)
  · obtain ⟨a, ha, rfl⟩ := i32_nat h1
    obtain ⟨I1, b, e1, e2, e3⟩ := cX_agrees (d + 28) z F I L m ja jb jv jw hz c1 o6 c7.1 a ha
    have fc : kR (fun r => r < 80 ∨ 112 < r) F F I I1 L L := fun r hr => ⟨rfl, e3 r (by omega) (by omega), rfl⟩
    have fo : kO F F I I1 L L := kR_w fc (fun r q => by omega)
    obtain ⟨q1, q2, q3, q4, q5, q6, q7, q8, q9⟩ := gR_kO gr fo
    obtain ⟨I2, b', f1, f2, f3⟩ := rJ_agrees (d + 29) z F I1 L m ja jb jv jw hz q1 o6 q7 a ha
    have e : b' = b := by rw [Bool.eq_iff_iff]; exact f2.trans e2.symm
    subst e
    exact gS_sc o e1 (gC_joi gc w (cJn_k c7 (fun _ _ _ => rfl) (fun r _ _ => e3 r (by omega) (by omega))) fc) fo gr f1 ⟨fun _ _ _ => rfl, fun r q => by unfold scI at q; exact f3 r (by omega) (by omega), fun _ _ => rfl⟩
  · exact gS_same g (cX_agrees_out (d + 30) z F I L m ja jb jv jw hz c1 o6 c7.1 x h1) (rJ_agrees_out (d + 29) z F I L m ja jb jv jw hz o6 r7 x h1)
theorem op_kept (d : Nat) (z : mm_Z) (F : Nat → Nat → Value) (I : Nat → Nat → Int32) (L : Nat → Nat → Int64) (hz : zOK z) (g : gI F I L) : gS Value.int (d + 30) z F I L mX10_kept [.ref 2] mX11_kept [.ref 120, uu, uu, uu, uu, uu] := by
  obtain ⟨n, hs, st, lm, k, tx, c, th, ca, m, ja, jb, jv, jw, rc, ro, rb, ln, lo, hi, tr, o, gc, gr⟩ := id g; obtain ⟨w, ⟨l0, l1, l2⟩, o3, o4, o5, o6, o7, o8⟩ := id o; obtain ⟨c1, c2, c3, c4, c5, c6, c7, c8, c9⟩ := id gc; obtain ⟨r1, r2, r3, r4, r5, r6, r7, r8, r9⟩ := id gr
  have m12 := o6.1
  obtain ⟨F1, I1, b, e1, e2, e3, e4, e5⟩ := cX_kept (d + (27 - m)) z F I L m ja jb jv jw hz c1 o6 c7
  rw [show d + (27 - m) + m + 3 = d + 30 by omega] at e1
  have fc : kR (fun r => r < 80 ∨ 112 < r) F F1 I I1 L L := fun r hr => ⟨funext (fun j => e4 r j (by omega)), e5 r (by omega) (by omega), rfl⟩
  have fo : kO F F1 I I1 L L := kR_w fc (fun r q => by omega)
  obtain ⟨q1, q2, q3, q4, q5, q6, q7, q8, q9⟩ := gR_kO gr fo
  obtain ⟨I2, b', f1, f2, f3⟩ := rJ_kept (d + 29) z F1 I1 L m ja jb jv jw hz q1 o6 q7
  have e : b' = b := kpt_uniq m ja jb jv jw f2 e3
  subst e
  exact gS_sc o e1 (gC_joi gc w e2 fc) fo gr f1 ⟨fun _ _ _ => rfl, fun r q => by unfold scI at q; exact f3 r (by omega) (by omega), fun _ _ => rfl⟩
theorem op_loop (d : Nat) (z : mm_Z) (F : Nat → Nat → Value) (I : Nat → Nat → Int32) (L : Nat → Nat → Int64) (hz : zOK z) (g : gI F I L) (x : Int32) (b : Bool) : gS Value.int (d + 30) z F I L mX10_loop [.ref 2, .int x, .int (bI b)] mX11_loop [.ref 120, .int x, .int (bI b), uu] := by
  obtain ⟨n, hs, st, lm, k, tx, c, th, ca, m, ja, jb, jv, jw, rc, ro, rb, ln, lo, hi, tr, o, gc, gr⟩ := id g; obtain ⟨w, ⟨l0, l1, l2⟩, o3, o4, o5, o6, o7, o8⟩ := id o; obtain ⟨c1, c2, c3, c4, c5, c6, c7, c8, c9⟩ := id gc; obtain ⟨r1, r2, r3, r4, r5, r6, r7, r8, r9⟩ := id gr
  by_cases h1 : 0 ≤ x.toInt ∧ x.toInt < m
  · obtain ⟨j, hj, rfl⟩ := i32_nat h1
    have ca1 := cX_loop_a (d + 28) z F I L m ja jb jv jw hz c1 o6 c7.1 j hj b
    by_cases hn : rc = 0 ∨ jbg ja jb j b = jbg ja jb (ro (rc - 1)) (!rb (rc - 1))
    · have c8' := o7.1
      by_cases h8 : rc = 8
      · have hn' : jbg ja jb j b = jbg ja jb (ro (rc - 1)) (!rb (rc - 1)) := by
          rcases hn with q | q
          · omega
          · exact q
        rw [cR_append_full (d + 27) z F I L m ja jb jv jw rc ro rb hz o6 c7.1 o7 c8 j hj b h8 hn', mm_bd_i, eX10_loop_24, eX10_loop_29] at ca1
        exact gS_same g ca1 (rR_loop_full (d + 29) z F I L m ja jb jv jw rc ro rb hz r1 o6 r7 o7 r8 j hj b h8 hn')
      · have h8' : rc < 8 := by omega
        obtain ⟨F1, I1, e1, e2, e3, e4⟩ := cR_append (d + 27) z F I L m ja jb jv jw rc ro rb hz o6 c7.1 o7 c8 j hj b h8' hn
        rw [e1, mm_bd_i, eX10_loop_24, eX10_loop_29] at ca1
        have fc : kR (fun r => r < 113 ∨ 115 < r) F F1 I I1 L L := fun r hr => ⟨e3 r (by omega), e4 r (by omega), rfl⟩
        have fo : kO F F1 I I1 L L := kR_w fc (fun r q => by omega)
        obtain ⟨q1, q2, q3, q4, q5, q6, q7, q8, q9⟩ := gR_kO gr fo
        obtain ⟨F2, I2, f1, f2, f3, f4, f5⟩ := rR_loop (d + 29) z F1 I1 L m ja jb jv jw rc ro rb hz q1 o6 q7 o7 q8 j hj b h8' hn
        have ok' : okR m (rc + 1) (udf ro rc j) := ⟨by omega, fun i hi => by
          by_cases e : i = rc
          · subst e; rw [udf_s]; exact hj
          · rw [udf_n _ _ e]; exact o7.2 i (by omega)⟩
        exact gS_gen ⟨w, o.2.1, o3, o4, o5, o6, ok', o8⟩ ca1 (gC_row gc w e2 fc) fo f1 (gR_row (gR_kO gr fo) f2 (fun j _ hj => f4 120 j (by omega)) (fun r _ _ hr => f5 r (by omega))) (fun r hr => ⟨funext (fun j => f4 r j (by omega)), f5 r (by omega), rfl⟩)
    · have h0 : ¬ rc = 0 := fun q => hn (Or.inl q)
      have hn' : ¬ jbg ja jb j b = jbg ja jb (ro (rc - 1)) (!rb (rc - 1)) := fun q => hn (Or.inr q)
      rw [cR_append_not (d + 27) z F I L m ja jb jv jw rc ro rb hz o6 c7.1 o7 c8 j hj b h0 hn', mm_bd_i, eX10_loop_24, eX10_loop_29] at ca1
      exact gS_same g ca1 (rR_loop_not (d + 29) z F I L m ja jb jv jw rc ro rb hz r1 o6 r7 o7 r8 j hj b h0 hn')
  · exact gS_same g (cX_loop_unk (d + 28) z F I L m ja jb jv jw hz c1 o6 c7.1 x b h1) (rR_loop_unk (d + 29) z F I L m ja jb jv jw hz o6 r7 x _ h1)
theorem op_unloop (d : Nat) (z : mm_Z) (F : Nat → Nat → Value) (I : Nat → Nat → Int32) (L : Nat → Nat → Int64) (hz : zOK z) (g : gI F I L) : gS Value.int (d + 30) z F I L mX10_unloop [.ref 2] mX11_unloop [.ref 120, uu] := by
  obtain ⟨n, hs, st, lm, k, tx, c, th, ca, m, ja, jb, jv, jw, rc, ro, rb, ln, lo, hi, tr, o, gc, gr⟩ := id g; obtain ⟨w, ⟨l0, l1, l2⟩, o3, o4, o5, o6, o7, o8⟩ := id o; obtain ⟨c1, c2, c3, c4, c5, c6, c7, c8, c9⟩ := id gc; obtain ⟨r1, r2, r3, r4, r5, r6, r7, r8, r9⟩ := id gr
  have fc : kR (fun r => r < 113 ∨ 115 < r) F (mm_up2 F 113 2 (.int (nI 0))) I I L L := fun r hr => ⟨up_row _ _ _ (by omega), rfl, rfl⟩
  have fo : kO F (mm_up2 F 113 2 (.int (nI 0))) I I L L := kR_w fc (fun r q => by omega)
  obtain ⟨q1, q2, q3, q4, q5, q6, q7, q8, q9⟩ := gR_kO gr fo
  have t1 : cRw 0 ro rb (mm_up2 F 113 2 (.int (nI 0))) I := ⟨by rw [up_k _ _ _ _ (by decide)]; exact c8.1, by rw [up_k _ _ _ _ (by decide)]; exact c8.2.1, up_s _ _ _ _, fun i hi => absurd hi (by omega)⟩
  exact gS_gen ⟨w, o.2.1, o3, o4, o5, o6, ⟨by omega, fun i hi => absurd hi (by omega)⟩, o8⟩ (cX_unloop (d + 29) z F I L rc ro rb hz c1 c8) (gC_row gc w t1 fc) fo (rR_unloop (d + 30) z (mm_up2 F 113 2 (.int (nI 0))) I L rc ro rb hz q8) (gR_row (gR_kO gr fo) (show rRw 0 ro rb _ _ from ⟨up_s _ _ _ _, fun i hi => absurd hi (by omega)⟩) (fun j _ hj => up_k _ _ _ _ (by omega)) (fun r _ _ hr => rfl)) (fun r hr => ⟨up_row _ _ _ (by omega), rfl, rfl⟩)
theorem op_spread (d : Nat) (z : mm_Z) (F : Nat → Nat → Value) (I : Nat → Nat → Int32) (L : Nat → Nat → Int64) (hz : zOK z) (g : gI F I L) (x y : Int32) : gS Value.int (d + 30) z F I L mX10_spread [.ref 2, .int x, .int y] mX11_spread [.ref 120, .int x, .int y, uu, uu, uu, uu] := by
  obtain ⟨n, hs, st, lm, k, tx, c, th, ca, m, ja, jb, jv, jw, rc, ro, rb, ln, lo, hi, tr, o, gc, gr⟩ := id g; obtain ⟨w, ⟨l0, l1, l2⟩, o3, o4, o5, o6, o7, o8⟩ := id o; obtain ⟨c1, c2, c3, c4, c5, c6, c7, c8, c9⟩ := id gc; obtain ⟨r1, r2, r3, r4, r5, r6, r7, r8, r9⟩ := id gr
  by_cases h1 : okSp ja jb rc ro rb x y
  · obtain ⟨p1, p2, p3, p4⟩ := id h1
    obtain ⟨b, hb, rfl⟩ := i32_nat (x := y) (N := 2) (by omega)
    by_cases h2 : x.toInt = -1
    · have ex : x = -1 := by rw [iI_of x, h2, iI_m1]
      subst ex
      exact gS_same g (cX_spread_m (d + 27) z F I L m ja jb jv jw rc ro rb hz c1 o6 c7.1 o7 c8 b hb h1) (rR_spread_m (d + 29) z F I L m ja jb jv jw rc ro rb hz r1 o6 r7 o7 r8 b hb h1)
    · obtain ⟨a, ha, rfl⟩ := i32_nat (x := x) (N := rc) (by omega)
      exact gS_same g (cX_spread (d + 27) z F I L m ja jb jv jw rc ro rb hz c1 o6 c7.1 o7 c8 a b hb ha h1) (rR_spread (d + 29) z F I L m ja jb jv jw rc ro rb hz r1 o6 r7 o7 r8 a b hb ha h1)
  · exact gS_same g (cX_spread_no (d + 27) z F I L m ja jb jv jw rc ro rb hz c1 o6 c7.1 o7 c8 x y h1) (rR_spread_no (d + 29) z F I L m ja jb jv jw rc ro rb hz r1 o6 r7 o7 r8 x y h1)
theorem op_length (d : Nat) (z : mm_Z) (F : Nat → Nat → Value) (I : Nat → Nat → Int32) (L : Nat → Nat → Int64) (hz : zOK z) (g : gI F I L) (x y t : Int32) : gS Value.int (d + 30) z F I L mX10_length [.ref 2, .int x, .int y, .int t, uu] mX11_length [.ref 120, .int x, .int y, .int t] := by
  obtain ⟨n, hs, st, lm, k, tx, c, th, ca, m, ja, jb, jv, jw, rc, ro, rb, ln, lo, hi, tr, o, gc, gr⟩ := id g; obtain ⟨w, ⟨l0, l1, l2⟩, o3, o4, o5, o6, o7, o8⟩ := id o; obtain ⟨c1, c2, c3, c4, c5, c6, c7, c8, c9⟩ := id gc; obtain ⟨r1, r2, r3, r4, r5, r6, r7, r8, r9⟩ := id gr
  by_cases h1 : okLen x y t
  · have ca1 := cX_length_a (d + 29) z F I L hz c1 x y t h1
    have m20 := o8.1
    by_cases hm : ln = 20
    · rw [cX_tell_full (d + 29) z F I L ln lo hi tr hz c9 hm, mm_bd_i, eX10_length_55, eX10_length_60] at ca1
      exact gS_same g ca1 (rM_length_full (d + 29) z F I L ln lo hi tr hz r9 hm x y t h1)
    · have hm' : ln < 20 := by omega
      obtain ⟨p1, p2, p3⟩ := h1
      obtain ⟨a, ha, ea⟩ := i32_nat (x := x) (N := 1000) (by omega)
      obtain ⟨b, hb, eb⟩ := i32_nat (x := y) (N := 1000) (by omega)
      have hab : a ≤ b := by have := p2.1; rw [ea, eb, nI_toInt (by omega), nI_toInt (by omega)] at this; omega
      subst ea eb
      obtain ⟨V, eV⟩ : ∃ V, V = t.toInt := ⟨_, rfl⟩
      have ev : t = iI V := by rw [eV]; exact iI_of t
      rw [← eV] at p3
      subst ev
      obtain ⟨F1, I1, e1, e2, e3, e4⟩ := cX_tell (d + 29) z F I L ln lo hi tr hz o8 c9 hm' a b V p3
      rw [e1, mm_bd_i, eX10_length_55, eX10_length_60] at ca1
      have fc : kR (fun r => r < 116 ∨ 119 < r) F F1 I I1 L L := fun r hr => ⟨e3 r (by omega), e4 r (by omega), rfl⟩
      have fo : kO F F1 I I1 L L := kR_w fc (fun r q => by omega)
      obtain ⟨q1, q2, q3, q4, q5, q6, q7, q8, q9⟩ := gR_kO gr fo
      obtain ⟨F2, I2, f1, f2, f3, f4, f5⟩ := rM_length (d + 29) z F1 I1 L ln lo hi tr hz q1 q9 hm' a b V hab (by omega) p3
      have ok' : okLn (ln + 1) (udf lo ln a) (udf hi ln b) (udf tr ln V) := ⟨by omega, fun i hi' => by
        by_cases e : i = ln
        · subst e; rw [udf_s, udf_s, udf_s]; exact ⟨hab, by omega, p3.1, p3.2⟩
        · rw [udf_n _ _ e, udf_n _ _ e, udf_n _ _ e]; exact o8.2 i (by omega)⟩
      exact gS_gen ⟨w, o.2.1, o3, o4, o5, o6, o7, ok'⟩ ca1 (gC_len gc w e2 fc) fo f1 (gR_len (gR_kO gr fo) f2 (fun j _ hj => f4 120 j (by omega)) (fun r _ _ hr => f5 r (by omega))) (fun r hr => ⟨funext (fun j => f4 r j (by omega)), f5 r (by omega), rfl⟩)
  · exact gS_same g (cX_length_out (d + 29) z F I L x y t h1) (rM_length_out (d + 29) z F I L x y t h1)
theorem op_held (d : Nat) (z : mm_Z) (F : Nat → Nat → Value) (I : Nat → Nat → Int32) (L : Nat → Nat → Int64) (hz : zOK z) (g : gI F I L) (x : Int32) : gS Value.int (d + 30) z F I L mX10_held [.ref 2, .int x] mX11_held [.ref 120, .int x] := by
  obtain ⟨n, hs, st, lm, k, tx, c, th, ca, m, ja, jb, jv, jw, rc, ro, rb, ln, lo, hi, tr, o, gc, gr⟩ := id g; obtain ⟨w, ⟨l0, l1, l2⟩, o3, o4, o5, o6, o7, o8⟩ := id o; obtain ⟨c1, c2, c3, c4, c5, c6, c7, c8, c9⟩ := id gc; obtain ⟨r1, r2, r3, r4, r5, r6, r7, r8, r9⟩ := id gr
  by_cases h1 : 0 ≤ x.toInt ∧ x.toInt ≤ 1
  · obtain ⟨a, ha, rfl⟩ := i32_nat (x := x) (N := 2) (by omega)
    exact gS_same g (cX_held (d + 27) z F I L ln lo hi tr hz c1 o8 c9 a (by omega)) (rM_held (d + 27) z F I L ln lo hi tr hz r1 o8 r9 a (by omega))
  · exact gS_same g (cX_held_out (d + 29) z F I L x h1) (rM_held_out (d + 29) z F I L x h1)
theorem op_span (d : Nat) (z : mm_Z) (F : Nat → Nat → Value) (I : Nat → Nat → Int32) (L : Nat → Nat → Int64) (hz : zOK z) (g : gI F I L) (x : Int32) : gS Value.int (d + 30) z F I L mX10_span [.ref 2, .int x] mX11_span [.ref 120, .int x, uu, uu] := by
  obtain ⟨n, hs, st, lm, k, tx, c, th, ca, m, ja, jb, jv, jw, rc, ro, rb, ln, lo, hi, tr, o, gc, gr⟩ := id g; obtain ⟨w, ⟨l0, l1, l2⟩, o3, o4, o5, o6, o7, o8⟩ := id o; obtain ⟨c1, c2, c3, c4, c5, c6, c7, c8, c9⟩ := id gc; obtain ⟨r1, r2, r3, r4, r5, r6, r7, r8, r9⟩ := id gr
  by_cases h1 : 0 ≤ x.toInt ∧ x.toInt ≤ 100
  · obtain ⟨a, ha, rfl⟩ := i32_nat (x := x) (N := 101) (by omega)
    obtain ⟨v, e1, e2⟩ := cX_span (d + 25) z F I L ln lo hi tr hz c1 o8 c9 a (by omega)
    obtain ⟨v', f1, f2⟩ := rM_span (d + 27) z F I L ln lo hi tr hz r1 o8 r9 a (by omega)
    have e : v' = v := spA_uniq ln lo hi tr a _ _ f2 e2
    subst e
    exact gS_same g e1 f1
  · exact gS_same g (cX_span_out (d + 29) z F I L x h1) (rM_span_out (d + 29) z F I L x h1)
theorem op_count (d : Nat) (z : mm_Z) (F : Nat → Nat → Value) (I : Nat → Nat → Int32) (L : Nat → Nat → Int64) (hz : zOK z) (g : gI F I L) (x : Int32) : gS Value.int (d + 30) z F I L mX10_count [.ref 2, .int x] mX11_count [.ref 120, .int x, uu, uu] := by
  obtain ⟨n, hs, st, lm, k, tx, c, th, ca, m, ja, jb, jv, jw, rc, ro, rb, ln, lo, hi, tr, o, gc, gr⟩ := id g; obtain ⟨w, ⟨l0, l1, l2⟩, o3, o4, o5, o6, o7, o8⟩ := id o; obtain ⟨c1, c2, c3, c4, c5, c6, c7, c8, c9⟩ := id gc; obtain ⟨r1, r2, r3, r4, r5, r6, r7, r8, r9⟩ := id gr
  by_cases h1 : 0 ≤ x.toInt ∧ x.toInt < 9
  · obtain ⟨a, ha, rfl⟩ := i32_nat (x := x) (N := 9) (by omega)
    obtain ⟨F2, I2, L2, f1, f2⟩ := rM_count (d + 24) z F I L n hs st k tx c th m ja jb jv jw rc ro rb ln lo hi tr hz r1 w r2 r4 r5 r7 r8 r9 a ha
    exact gS_s o gc gr (cX_count (d + 28) z F I L n hs st k tx c th m ja jb jv jw rc ro rb ln lo hi tr hz c1 w c2 c4 c5 c7.1 c8 c9 a ha) f1 (scr_rm f2)
  · exact gS_same g (cX_count_out (d + 28) z F I L x h1) (rM_count_out (d + 28) z F I L x h1)
