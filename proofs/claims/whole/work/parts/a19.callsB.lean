/-! calls of both: ways, cells, walls, rooms -/
theorem op_way (d : Nat) (z : mm_Z) (F : Nat → Nat → Value) (I : Nat → Nat → Int32) (L : Nat → Nat → Int64) (hz : zOK z) (g : gI F I L) (s i : Int32) : gS Value.int (d + 30) z F I L mX10_way [.ref 2, .int s, .int i, uu] mX11_way [.ref 120, .int s, .int i, uu, uu] := by
  obtain ⟨n, hs, st, lm, k, tx, c, th, ca, m, ja, jb, jv, jw, rc, ro, rb, ln, lo, hi, tr, o, gc, gr⟩ := id g; obtain ⟨w, ⟨l0, l1, l2⟩, o3, o4, o5, o6, o7, o8⟩ := id o; obtain ⟨c1, c2, c3, c4, c5, c6, c7, c8, c9⟩ := id gc; obtain ⟨r1, r2, r3, r4, r5, r6, r7, r8, r9⟩ := id gr
  have ib := i32_b i
  by_cases h1 : 0 ≤ s.toInt ∧ s.toInt < n
  · obtain ⟨j, hj, rfl⟩ := i32_nat h1
    obtain ⟨V, eV⟩ : ∃ V, V = i.toInt := ⟨_, rfl⟩
    have ei : i = iI V := by rw [eV]; exact iI_of i
    rw [← eV] at ib
    subst ei
    by_cases hi' : V < -1
    · exact gS_same g (cX_way_out (d + 28) z F I L n hs st hz c1 w c2 j hj V hi' ib.1) (rM_way_out (d + 26) z F I L n j V hz w.1 r2.1 hj hi' ib.1)
    · have ra := rM_way_a (d + 26) z F I L n j V hz w.1 r2.1 hj (by omega) ib.2
      by_cases e : st j = none
      · obtain ⟨F1, L1, e1, e2⟩ := cX_way (d + 24) z F I L n hs st hz c1 w c2 lm c3 l0 l1 j hj V (by omega) ib.2 e
        have fc := trF_k I e2
        have fo : kO F F1 I I L L1 := kR_w fc (fun r q => by omega)
        obtain ⟨q1, q2, q3, q4, q5, q6, q7, q8, q9⟩ := gR_kO gr fo
        obtain ⟨I2, f1, f2⟩ := rM_way (d + 26) z F1 I L1 n hs st hz q1 w lm q3 l0 l1 q2 j hj V (by omega) ib.2 e
        have ra' := rM_way_a (d + 26) z F1 I L1 n j V hz w.1 q2.1 hj (by omega) ib.2
        exact gS_sc o e1 (gC_hall gc w (cHl_tr n hs st c2 w.1 e2) fc) fo gr (ra'.trans f1) (scr_lay f2)
      · exact gS_same g (cX_way_not (d + 28) z F I L n hs st hz c1 w c2 j hj V (by omega) ib.2 e) (ra.trans (rM_way_not (d + 26) z F I L n hs st hz r1 w r2 j _ hj e))
  · exact gS_same g (cX_way_unk (d + 28) z F I L n hs st hz c1 w c2 s i h1) (rM_way_unk (d + 26) z F I L n s i hz w.1 r2.1 h1)
theorem op_fits (d : Nat) (z : mm_Z) (F : Nat → Nat → Value) (I : Nat → Nat → Int32) (L : Nat → Nat → Int64) (hz : zOK z) (g : gI F I L) (s x t b : Int32) : gS Value.int (d + 30) z F I L mX10_fits [.ref 2, .int s, .int x, .int t, .int b, uu] mX11_fits [.ref 120, .int s, .int x, .int t, .int b] := by
  obtain ⟨n, hs, st, lm, k, tx, c, th, ca, m, ja, jb, jv, jw, rc, ro, rb, ln, lo, hi, tr, o, gc, gr⟩ := id g; obtain ⟨w, ⟨l0, l1, l2⟩, o3, o4, o5, o6, o7, o8⟩ := id o; obtain ⟨c1, c2, c3, c4, c5, c6, c7, c8, c9⟩ := id gc; obtain ⟨r1, r2, r3, r4, r5, r6, r7, r8, r9⟩ := id gr
  by_cases h1 : (0 ≤ s.toInt ∧ s.toInt < n) ∧ (0 ≤ x.toInt ∧ x.toInt < 64)
  · obtain ⟨j, hj, rfl⟩ := i32_nat h1.1
    obtain ⟨a, ha, rfl⟩ := i32_nat (N := 64) h1.2
    have ca1 := cX_fits_a (d + 28) z F I L n hs st hz c1 w c2 j a t b hj ha
    have ra := rM_fits_a (d + 26) z F I L n j a t b hz w.1 r2.1 hj ha
    by_cases h2 : (0 ≤ t.toInt ∧ t.toInt ≤ 3) ∧ (0 ≤ b.toInt ∧ b.toInt ≤ 1)
    · obtain ⟨t', ht', rfl⟩ := i32_nat (x := t) (N := 4) (by omega)
      obtain ⟨b', hb', rfl⟩ := i32_nat (x := b) (N := 2) (by omega)
      have rb' := rM_fits_b (d + 26) z F I L (.int (nI j)) (.int (nI a)) t' b' ht' hb'
      by_cases e : st j = none
      · obtain ⟨F1, L1, e1, e2⟩ := cX_fits (d + 24) z F I L n hs st hz c1 w c2 j a t' b' hj ha ht' hb' e (.int (nI j))
        have fc := trF_k I e2
        have fo : kO F F1 I I L L1 := kR_w fc (fun r q => by omega)
        obtain ⟨q1, q2, q3, q4, q5, q6, q7, q8, q9⟩ := gR_kO gr fo
        obtain ⟨I2, f1, f2⟩ := rM_fits (d + 26) z F1 I L1 n hs st hz q1 w q2 j a t' b' hj ha ht' hb' e
        have s1 := rM_fits_a (d + 26) z F1 I L1 n j a (nI t') (nI b') hz w.1 q2.1 hj ha
        have s2 := rM_fits_b (d + 26) z F1 I L1 (.int (nI j)) (.int (nI a)) t' b' ht' hb'
        exact gS_sc o (ca1.trans e1) (gC_hall gc w (cHl_tr n hs st c2 w.1 e2) fc) fo gr (s1.trans (s2.trans f1)) (scr_lay f2)
      · exact gS_same g (ca1.trans (cX_fits_not (d + 28) z F I L n hs st hz w c2 j t' b' hj ht' hb' e _ _)) (ra.trans (rb'.trans (rM_fits_not (d + 26) z F I L n hs st hz r1 w r2 j _ _ _ hj e)))
    · exact gS_same g (ca1.trans (cX_fits_out (d + 28) z F I L t b _ _ _ h2)) (ra.trans (rM_fits_out (d + 26) z F I L _ _ t b h2))
  · exact gS_same g (cX_fits_unk (d + 28) z F I L n hs st hz c1 w c2 s x t b h1) (rM_fits_unk (d + 26) z F I L n s x t b hz w.1 r2.1 h1)
theorem op_bars (d : Nat) (z : mm_Z) (F : Nat → Nat → Value) (I : Nat → Nat → Int32) (L : Nat → Nat → Int64) (hz : zOK z) (g : gI F I L) (s x t : Int32) : gS Value.int (d + 30) z F I L mX10_bars [.ref 2, .int s, .int x, .int t, uu] mX11_bars [.ref 120, .int s, .int x, .int t, uu, uu, uu] := by
  obtain ⟨n, hs, st, lm, k, tx, c, th, ca, m, ja, jb, jv, jw, rc, ro, rb, ln, lo, hi, tr, o, gc, gr⟩ := id g; obtain ⟨w, ⟨l0, l1, l2⟩, o3, o4, o5, o6, o7, o8⟩ := id o; obtain ⟨c1, c2, c3, c4, c5, c6, c7, c8, c9⟩ := id gc; obtain ⟨r1, r2, r3, r4, r5, r6, r7, r8, r9⟩ := id gr
  by_cases h1 : (0 ≤ s.toInt ∧ s.toInt < n) ∧ (0 ≤ x.toInt ∧ x.toInt < 64)
  · obtain ⟨j, hj, rfl⟩ := i32_nat h1.1
    obtain ⟨a, ha, rfl⟩ := i32_nat (N := 64) h1.2
    have ca1 := cX_bars_a (d + 28) z F I L n hs st hz c1 w c2 j a t hj ha
    have ra := rM_bars_a (d + 26) z F I L n j a t hz w.1 r2.1 hj ha
    by_cases h2 : 0 ≤ t.toInt ∧ t.toInt ≤ 3
    · obtain ⟨t', ht', rfl⟩ := i32_nat (x := t) (N := 4) (by omega)
      have rb' := rM_bars_b (d + 26) z F I L (.int (nI j)) (.int (nI a)) t' ht'
      by_cases e : st j = none
      · obtain ⟨F1, L1, e1, e2⟩ := cX_bars (d + 24) z F I L n hs st hz c1 w c2 lm c3 l1 j a t' hj ha ht' e (.int (nI j))
        have fc := trF_k I e2
        have fo : kO F F1 I I L L1 := kR_w fc (fun r q => by omega)
        obtain ⟨q1, q2, q3, q4, q5, q6, q7, q8, q9⟩ := gR_kO gr fo
        obtain ⟨I2, f1, f2⟩ := rM_bars (d + 26) z F1 I L1 n hs st hz q1 w q2 lm q3 l1 j a t' hj ha ht' e
        have s1 := rM_bars_a (d + 26) z F1 I L1 n j a (nI t') hz w.1 q2.1 hj ha
        have s2 := rM_bars_b (d + 26) z F1 I L1 (.int (nI j)) (.int (nI a)) t' ht'
        exact gS_sc o (ca1.trans e1) (gC_hall gc w (cHl_tr n hs st c2 w.1 e2) fc) fo gr (s1.trans (s2.trans f1)) (scr_lay f2)
      · exact gS_same g (ca1.trans (cX_bars_not (d + 28) z F I L n hs st hz w c2 j t' hj ht' e _ _)) (ra.trans (rb'.trans (rM_bars_not (d + 26) z F I L n hs st hz r1 w r2 j _ _ hj e)))
    · exact gS_same g (ca1.trans (cX_bars_out (d + 28) z F I L t _ _ _ h2)) (ra.trans (rM_bars_out (d + 26) z F I L _ _ t h2))
  · exact gS_same g (cX_bars_unk (d + 28) z F I L n hs st hz c1 w c2 s x t h1) (rM_bars_unk (d + 26) z F I L n s x t hz w.1 r2.1 h1)
theorem op_cell (d : Nat) (z : mm_Z) (F : Nat → Nat → Value) (I : Nat → Nat → Int32) (L : Nat → Nat → Int64) (hz : zOK z) (g : gI F I L) (x : Int32) : gS Value.int (d + 30) z F I L mX10_cell [.ref 2, .int x] mX11_cell [.ref 120, .int x] := by
  obtain ⟨n, hs, st, lm, k, tx, c, th, ca, m, ja, jb, jv, jw, rc, ro, rb, ln, lo, hi, tr, o, gc, gr⟩ := id g; obtain ⟨w, ⟨l0, l1, l2⟩, o3, o4, o5, o6, o7, o8⟩ := id o; obtain ⟨c1, c2, c3, c4, c5, c6, c7, c8, c9⟩ := id gc; obtain ⟨r1, r2, r3, r4, r5, r6, r7, r8, r9⟩ := id gr
  by_cases h1 : 0 ≤ x.toInt ∧ x.toInt < 64
  · obtain ⟨a, ha, rfl⟩ := i32_nat (N := 64) h1
    obtain ⟨I2, f1, f2⟩ := rM_cell (d + 25) z F I L n hs st hz r1 w r2 a ha
    exact gS_s o gc gr (cX_cell (d + 28) z F I L n hs st hz c1 c2.2.2.2.1 a ha) f1 (scr_look f2)
  · exact gS_same g (cX_cell_unk (d + 28) z F I L x h1) (rM_cell_unk (d + 25) z F I L x h1)
theorem op_cells (d : Nat) (z : mm_Z) (F : Nat → Nat → Value) (I : Nat → Nat → Int32) (L : Nat → Nat → Int64) (hz : zOK z) (g : gI F I L) (x : Int32) : gS Value.long (d + 30) z F I L mX10_cells [.ref 2, .int x] mX11_cells [.ref 120, .int x] := by
  obtain ⟨n, hs, st, lm, k, tx, c, th, ca, m, ja, jb, jv, jw, rc, ro, rb, ln, lo, hi, tr, o, gc, gr⟩ := id g; obtain ⟨w, ⟨l0, l1, l2⟩, o3, o4, o5, o6, o7, o8⟩ := id o; obtain ⟨c1, c2, c3, c4, c5, c6, c7, c8, c9⟩ := id gc; obtain ⟨r1, r2, r3, r4, r5, r6, r7, r8, r9⟩ := id gr
  by_cases h1 : 0 ≤ x.toInt ∧ x.toInt ≤ 3
  · obtain ⟨a, ha, rfl⟩ := i32_nat (x := x) (N := 4) (by omega)
    obtain ⟨I2, f1, f2⟩ := rM_cells (d + 25) z F I L n hs st hz r1 w r2 a ha
    exact gS_s o gc gr (cX_cells (d + 29) z F I L n hs st hz c1 c2.2.2.2.1 a ha) f1 (scr_look f2)
  · obtain ⟨I2, f1, f2⟩ := rM_cells_out (d + 25) z F I L n hs st hz r1 w r2 x h1
    exact gS_s o gc gr (cX_cells_out (d + 29) z F I L hz c1 x h1) f1 (scr_look f2)
theorem op_lead (d : Nat) (z : mm_Z) (F : Nat → Nat → Value) (I : Nat → Nat → Int32) (L : Nat → Nat → Int64) (hz : zOK z) (g : gI F I L) (x y : Int32) : gS Value.int (d + 30) z F I L mX10_lead [.ref 2, .int x, .int y] mX11_lead [.ref 120, .int x, .int y, uu, uu, uu] := by
  obtain ⟨n, hs, st, lm, k, tx, c, th, ca, m, ja, jb, jv, jw, rc, ro, rb, ln, lo, hi, tr, o, gc, gr⟩ := id g; obtain ⟨w, ⟨l0, l1, l2⟩, o3, o4, o5, o6, o7, o8⟩ := id o; obtain ⟨c1, c2, c3, c4, c5, c6, c7, c8, c9⟩ := id gc; obtain ⟨r1, r2, r3, r4, r5, r6, r7, r8, r9⟩ := id gr
  by_cases h1 : 0 ≤ x.toInt ∧ x.toInt < 64
  · obtain ⟨a, ha, rfl⟩ := i32_nat (N := 64) h1
    by_cases h2 : 0 ≤ y.toInt ∧ y.toInt ≤ 1
    · obtain ⟨b, hb, rfl⟩ := i32_nat (x := y) (N := 2) (by omega)
      obtain ⟨I2, f1, f2⟩ := rM_lead (d + 26) z F I L n hs st hz r1 w r2 b a hb ha
      exact gS_s o gc gr (cX_lead (d + 28) z F I L n hs st hz c1 w c2 b a hb ha) f1 (scr_lay f2)
    · exact gS_same g (cX_lead_out (d + 28) z F I L a y ha h2) (rM_lead_out (d + 26) z F I L a y ha h2)
  · exact gS_same g (cX_lead_unk (d + 28) z F I L x y h1) (rM_lead_unk (d + 26) z F I L x y h1)
theorem op_wall (d : Nat) (z : mm_Z) (F : Nat → Nat → Value) (I : Nat → Nat → Int32) (L : Nat → Nat → Int64) (hz : zOK z) (g : gI F I L) (x : Int32) : gS Value.int (d + 30) z F I L mX10_wall [.ref 2, .int x] mX11_wall [.ref 120, .int x] := by
  obtain ⟨n, hs, st, lm, k, tx, c, th, ca, m, ja, jb, jv, jw, rc, ro, rb, ln, lo, hi, tr, o, gc, gr⟩ := id g; obtain ⟨w, ⟨l0, l1, l2⟩, o3, o4, o5, o6, o7, o8⟩ := id o; obtain ⟨c1, c2, c3, c4, c5, c6, c7, c8, c9⟩ := id gc; obtain ⟨r1, r2, r3, r4, r5, r6, r7, r8, r9⟩ := id gr
  by_cases h1 : x.toInt < -1
  · exact gS_same g (cX_wall_out (d + 26) z F I L x h1) (rM_wall_out (d + 26) z F I L x h1)
  · obtain ⟨r, e1, e2⟩ := cX_wall (d + 26) z F I L (kd n hs st) hz c1 c2.1 c2.2.2.2.2 x h1
    obtain ⟨F2, I2, r', f1, f2, f3⟩ := rM_wall (d + 24) z F I L n hs st hz r1 w r2 x h1
    have e : r' = r := wlP_uniq f2 e2
    subst e
    exact gS_s o gc gr e1 f1 (scr_wa f3)
theorem op_corners (d : Nat) (z : mm_Z) (F : Nat → Nat → Value) (I : Nat → Nat → Int32) (L : Nat → Nat → Int64) (hz : zOK z) (g : gI F I L) : gS Value.long (d + 30) z F I L mX10_corners [.ref 2] mX11_corners [.ref 120] := by
  obtain ⟨n, hs, st, lm, k, tx, c, th, ca, m, ja, jb, jv, jw, rc, ro, rb, ln, lo, hi, tr, o, gc, gr⟩ := id g; obtain ⟨w, ⟨l0, l1, l2⟩, o3, o4, o5, o6, o7, o8⟩ := id o; obtain ⟨c1, c2, c3, c4, c5, c6, c7, c8, c9⟩ := id gc; obtain ⟨r1, r2, r3, r4, r5, r6, r7, r8, r9⟩ := id gr
  obtain ⟨F2, I2, f1, f3⟩ := rM_corners (d + 24) z F I L n hs st hz r1 w r2
  exact gS_s o gc gr (cX_corners (d + 29) z F I L (kd n hs st) hz c1 c2.1 c2.2.2.2.2) f1 (scr_wa f3)
theorem op_doors (d : Nat) (z : mm_Z) (F : Nat → Nat → Value) (I : Nat → Nat → Int32) (L : Nat → Nat → Int64) (hz : zOK z) (g : gI F I L) : gS Value.long (d + 30) z F I L mX10_doors [.ref 2] mX11_doors [.ref 120] := by
  obtain ⟨n, hs, st, lm, k, tx, c, th, ca, m, ja, jb, jv, jw, rc, ro, rb, ln, lo, hi, tr, o, gc, gr⟩ := id g; obtain ⟨w, ⟨l0, l1, l2⟩, o3, o4, o5, o6, o7, o8⟩ := id o; obtain ⟨c1, c2, c3, c4, c5, c6, c7, c8, c9⟩ := id gc; obtain ⟨r1, r2, r3, r4, r5, r6, r7, r8, r9⟩ := id gr
  obtain ⟨F2, I2, f1, f2, f3, f4⟩ := rM_doors (d + 25) z F I L n hs st hz r1 w r2
  exact gS_s o gc gr (cX_doors (d + 30) z F I L (kd n hs st) hz c1 c2.1 c2.2.2.2.2) f1 ⟨fun r j q => f4 r j (by unfold scF at q; omega), (scr_look (F := F) (L := L) f2).2.1, fun _ _ => rfl⟩
theorem op_room (d : Nat) (z : mm_Z) (F : Nat → Nat → Value) (I : Nat → Nat → Int32) (L : Nat → Nat → Int64) (hz : zOK z) (g : gI F I L) (x : Int32) : gS Value.int (d + 30) z F I L mX10_room [.ref 2, .int x] mX11_room [.ref 120, .int x] := by
  obtain ⟨n, hs, st, lm, k, tx, c, th, ca, m, ja, jb, jv, jw, rc, ro, rb, ln, lo, hi, tr, o, gc, gr⟩ := id g; obtain ⟨w, ⟨l0, l1, l2⟩, o3, o4, o5, o6, o7, o8⟩ := id o; obtain ⟨c1, c2, c3, c4, c5, c6, c7, c8, c9⟩ := id gc; obtain ⟨r1, r2, r3, r4, r5, r6, r7, r8, r9⟩ := id gr
  by_cases h1 : 0 ≤ x.toInt ∧ x.toInt < 64
  · obtain ⟨a, ha, rfl⟩ := i32_nat (N := 64) h1
    obtain ⟨F2, I2, L2, f1, f2⟩ := rM_room (d + 24) z F I L n hs st hz r1 w r2 a ha
    exact gS_s o gc gr (cX_room (d + 28) z F I L (kd n hs st) hz c1 c2.1 c2.2.2.2.2 a ha) f1 (scr_rm f2)
  · exact gS_same g (cX_room_unk (d + 28) z F I L x h1) (rM_room_unk (d + 28) z F I L x h1)
theorem op_rooms (d : Nat) (z : mm_Z) (F : Nat → Nat → Value) (I : Nat → Nat → Int32) (L : Nat → Nat → Int64) (hz : zOK z) (g : gI F I L) (x : Int32) : gS Value.long (d + 30) z F I L mX10_rooms [.ref 2, .int x] mX11_rooms [.ref 120, .int x] := by
  obtain ⟨n, hs, st, lm, k, tx, c, th, ca, m, ja, jb, jv, jw, rc, ro, rb, ln, lo, hi, tr, o, gc, gr⟩ := id g; obtain ⟨w, ⟨l0, l1, l2⟩, o3, o4, o5, o6, o7, o8⟩ := id o; obtain ⟨c1, c2, c3, c4, c5, c6, c7, c8, c9⟩ := id gc; obtain ⟨r1, r2, r3, r4, r5, r6, r7, r8, r9⟩ := id gr
  by_cases h1 : 0 ≤ x.toInt ∧ x.toInt < rN (kd n hs st)
  · obtain ⟨a, ha, rfl⟩ := i32_nat h1
    obtain ⟨F2, I2, L2, f1, f2⟩ := rM_rooms (d + 24) z F I L n hs st hz r1 w r2 a ha
    exact gS_s o gc gr (cX_rooms (d + 27) z F I L (kd n hs st) hz c1 c2.1 c2.2.2.2.2 a ha) f1 (scr_rm f2)
  · obtain ⟨F2, I2, L2, f1, f2⟩ := rM_rooms_no (d + 24) z F I L n hs st hz r1 w r2 x h1
    exact gS_s o gc gr (cX_rooms_no (d + 27) z F I L (kd n hs st) hz c1 c2.1 c2.2.2.2.2 x h1) f1 (scr_rm f2)
theorem op_away (d : Nat) (z : mm_Z) (F : Nat → Nat → Value) (I : Nat → Nat → Int32) (L : Nat → Nat → Int64) (hz : zOK z) (g : gI F I L) (x y : Int32) : gS Value.int (d + 30) z F I L mX10_away [.ref 2, .int x, .int y, uu] mX11_away [.ref 120, .int x, .int y, uu, uu, uu, uu, uu, uu] := by
  obtain ⟨n, hs, st, lm, k, tx, c, th, ca, m, ja, jb, jv, jw, rc, ro, rb, ln, lo, hi, tr, o, gc, gr⟩ := id g; obtain ⟨w, ⟨l0, l1, l2⟩, o3, o4, o5, o6, o7, o8⟩ := id o; obtain ⟨c1, c2, c3, c4, c5, c6, c7, c8, c9⟩ := id gc; obtain ⟨r1, r2, r3, r4, r5, r6, r7, r8, r9⟩ := id gr
  by_cases h1 : (0 ≤ x.toInt ∧ x.toInt < rN (kd n hs st)) ∧ (0 ≤ y.toInt ∧ y.toInt < rN (kd n hs st))
  · obtain ⟨a, ha, rfl⟩ := i32_nat h1.1
    obtain ⟨b, hb, rfl⟩ := i32_nat h1.2
    obtain ⟨v, e1, e2⟩ := cX_away (d + 26) z F I L (kd n hs st) hz c1 c2.1 c2.2.2.2.2 a b ha hb
    obtain ⟨F2, I2, L2, v', f1, f2, f3, f4, f5⟩ := rM_away (d + 24) z F I L n hs st hz r1 w r2 a b ha hb
    have e : v' = v := awP_uniq f2 e2
    subst e
    exact gS_s o gc gr e1 f1 ⟨fun r j q => f3 r j (by unfold scF at q; omega), fun r q => by unfold scI at q; exact f4 r (by omega) (by omega) (by omega) (by omega), fun r q => f5 r (by omega)⟩
  · obtain ⟨F2, I2, L2, f1, f2⟩ := rM_away_unk (d + 24) z F I L n hs st hz r1 w r2 x y h1
    exact gS_s o gc gr (cX_away_unk (d + 28) z F I L (kd n hs st) hz c1 c2.1 c2.2.2.2.2 x y h1) f1 (scr_rm f2)
