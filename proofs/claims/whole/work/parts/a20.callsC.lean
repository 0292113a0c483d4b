/-! calls of both: texts, things, catches, lines of sight -/
theorem rdM_b (k : Nat) (tx : Nat → Nat) {x i : Nat} (h : i ≤ k) : (rdM k tx x i).2 ≤ k := by
  unfold rdM
  split
  · exact (nx_b k tx h).2
  · exact h
theorem rdL_b (k : Nat) (tx : Nat → Nat) {i : Nat} (h : i ≤ k) : (∀ p, rdL k tx i = .inl p → p ≤ k) ∧ ∀ ln j, rdL k tx i = .inr (ln, j) → j ≤ k := by
  have b1 := (tkB_b k tx h).2
  have b2 := (nx_b k tx h).2
  have b3 := (tkB_b k tx b2).2
  have b4 := fun x => rdM_b k tx (x := x) b2
  have b5 := fun x => (tkB_b k tx (b4 x)).2
  have b6 := fun x => (nx_b k tx (b4 x)).2
  have b7 := fun x => (tkB_b k tx (b6 x)).2
  have b8 := fun x => (nx_b k tx (b6 x)).2
  unfold rdL
  cases w : wdN tx (tkB k tx i) (nx k tx i - tkB k tx i) with
  | none => exact ⟨fun p q => (Sum.inl.inj q) ▸ b1, fun _ _ q => absurd q (by simp)⟩
  | some kd =>
    dsimp only
    cases m : (rdM k tx kd (nx k tx i)).1 with
    | none => exact ⟨fun p q => (Sum.inl.inj q) ▸ b3, fun _ _ q => absurd q (by simp)⟩
    | some mr =>
      dsimp only
      cases xv : nmV k tx (rdM k tx kd (nx k tx i)).2 0 7 with
      | none => exact ⟨fun p q => (Sum.inl.inj q) ▸ b5 kd, fun _ _ q => absurd q (by simp)⟩
      | some x =>
        dsimp only
        cases yv : nmV k tx (nx k tx (rdM k tx kd (nx k tx i)).2) 0 7 with
        | none => exact ⟨fun p q => (Sum.inl.inj q) ▸ b7 kd, fun _ _ q => absurd q (by simp)⟩
        | some y => exact ⟨fun p q => absurd q (by simp), fun _ _ q => by
          have e := congrArg Prod.snd (Sum.inr.inj q)
          dsimp only at e
          rw [← e]; exact b8 kd⟩
theorem rdI_b (k : Nat) (tx : Nat → Nat) : ∀ f i c th p, i ≤ k → rdI k tx f i c th = .inl p → p ≤ k := by
  intro f
  induction f with
  | zero => intro i c th p _ h; have := Sum.inl.inj h; omega
  | succ f ih =>
    intro i c th p hi h
    rw [rdI] at h
    have lb := rdL_b k tx hi
    cases r : rdL k tx i with
    | inl q => rw [r] at h; have e := Sum.inl.inj h; rw [← e]; exact lb.1 q r
    | inr q =>
      obtain ⟨ln, j⟩ := q
      have hj := lb.2 ln j r
      rw [r] at h
      dsimp only at h
      split at h
      · exact absurd h (by simp)
      · split at h
        · exact ih _ _ _ _ (nx_b k tx hj).2 h
        · have e := Sum.inl.inj h; rw [← e]; exact (tkB_b k tx hj).2
theorem okT_w {k : Nat} {tx : Nat → Nat} (h : okT k tx) (x : Int64) (n : Nat) (hn : k + n ≤ 160) : okT (k + n) (txW k tx x) := ⟨hn, fun i hi => by
  unfold txW
  split
  · exact Nat.mod_lt _ (by decide)
  · exact h.2 i (by omega)⟩
theorem op_write (d : Nat) (z : mm_Z) (F : Nat → Nat → Value) (I : Nat → Nat → Int32) (L : Nat → Nat → Int64) (hz : zOK z) (g : gI F I L) (x : Int64) (y : Int32) : gS Value.int (d + 30) z F I L mX10_write [.ref 2, .long x, uu, .int y] mX11_write [.ref 120, .long x, uu, .int y, uu] := by
  obtain ⟨n, hs, st, lm, k, tx, c, th, ca, m, ja, jb, jv, jw, rc, ro, rb, ln, lo, hi, tr, o, gc, gr⟩ := id g; obtain ⟨w, ⟨l0, l1, l2⟩, o3, o4, o5, o6, o7, o8⟩ := id o; obtain ⟨c1, c2, c3, c4, c5, c6, c7, c8, c9⟩ := id gc; obtain ⟨r1, r2, r3, r4, r5, r6, r7, r8, r9⟩ := id gr
  by_cases h1 : 1 ≤ y.toInt ∧ y.toInt ≤ 8
  · obtain ⟨a, ha, e⟩ := i32_nat (x := y) (N := 9) (by omega)
    have ha' : 1 ≤ a ∧ a ≤ 8 := by have := h1.1; rw [e, nI_toInt (by omega)] at this; omega
    subst e
    by_cases hf : 160 < k + a
    · exact gS_same g (cX_write_full (d + 29) z F I L k tx hz c1 c4 o3.1 x a ha' hf) (rM_write_full (d + 29) z F I L k tx hz r4 o3.1 x a ha' hf)
    · have hf' : k + a ≤ 160 := by omega
      obtain ⟨F1, I1, e1, e2, e3, e4⟩ := cX_write (d + 29) z F I L k tx hz c1 c4 x a ha' hf'
      have fc : kR (fun r => r < 58 ∨ 59 < r) F F1 I I1 L L := fun r hr => ⟨funext (fun j => e3 r j (by omega)), e4 r (by omega), rfl⟩
      have fo : kO F F1 I I1 L L := kR_w fc (fun r q => by omega)
      obtain ⟨q1, q2, q3, q4, q5, q6, q7, q8, q9⟩ := gR_kO gr fo
      obtain ⟨F2, I2, f1, f2, f3, f4, f5⟩ := rM_write (d + 29) z F1 I1 L k tx hz q1 q4 x a ha' hf'
      exact gS_gen ⟨w, o.2.1, okT_w o3 x a hf', o.2.2.2⟩ e1 (gC_txt gc w e2 fc) fo f1 (gR_txt (gR_kO gr fo) f2 (fun j _ hj => f4 120 j (by omega)) (fun r _ _ hr => f5 r (by omega))) (fun r hr => ⟨funext (fun j => f4 r j (by omega)), f5 r (by omega), rfl⟩)
  · exact gS_same g (cX_write_out (d + 29) z F I L x y h1) (rM_write_out (d + 29) z F I L x y h1)
theorem op_erase (d : Nat) (z : mm_Z) (F : Nat → Nat → Value) (I : Nat → Nat → Int32) (L : Nat → Nat → Int64) (hz : zOK z) (g : gI F I L) : gS Value.int (d + 30) z F I L mX10_erase [.ref 2] mX11_erase [.ref 120, uu] := by
  obtain ⟨n, hs, st, lm, k, tx, c, th, ca, m, ja, jb, jv, jw, rc, ro, rb, ln, lo, hi, tr, o, gc, gr⟩ := id g; obtain ⟨w, ⟨l0, l1, l2⟩, o3, o4, o5, o6, o7, o8⟩ := id o; obtain ⟨c1, c2, c3, c4, c5, c6, c7, c8, c9⟩ := id gc; obtain ⟨r1, r2, r3, r4, r5, r6, r7, r8, r9⟩ := id gr
  have fc : kR (fun r => r < 58 ∨ 59 < r) F (mm_up2 F 58 1 (.int (nI 0))) I I L L := fun r hr => ⟨up_row _ _ _ (by omega), rfl, rfl⟩
  have fo : kO F (mm_up2 F 58 1 (.int (nI 0))) I I L L := kR_w fc (fun r q => by omega)
  obtain ⟨q1, q2, q3, q4, q5, q6, q7, q8, q9⟩ := gR_kO gr fo
  have t1 : cTx 0 tx (mm_up2 F 58 1 (.int (nI 0))) I := ⟨by rw [up_k _ _ _ _ (by decide)]; exact c4.1, up_s _ _ _ _, fun i hi => absurd hi (by omega)⟩
  exact gS_gen ⟨w, o.2.1, ⟨by omega, fun i hi => absurd hi (by omega)⟩, o.2.2.2⟩ (cX_erase (d + 29) z F I L k tx hz c1 c4) (gC_txt gc w t1 fc) fo (rM_erase (d + 30) z (mm_up2 F 58 1 (.int (nI 0))) I L k tx hz q4) (gR_txt (gR_kO gr fo) (show rTx 0 tx _ _ from ⟨up_s _ _ _ _, fun i hi => absurd hi (by omega)⟩) (fun j _ hj => up_k _ _ _ _ (by omega)) (fun r _ _ hr => rfl)) (fun r hr => ⟨up_row _ _ _ (by omega), rfl, rfl⟩)
theorem op_fault (d : Nat) (z : mm_Z) (F : Nat → Nat → Value) (I : Nat → Nat → Int32) (L : Nat → Nat → Int64) (hz : zOK z) (g : gI F I L) : gS Value.int (d + 30) z F I L mX10_fault [.ref 2] mX11_fault [.ref 120] := by
  obtain ⟨n, hs, st, lm, k, tx, c, th, ca, m, ja, jb, jv, jw, rc, ro, rb, ln, lo, hi, tr, o, gc, gr⟩ := id g; obtain ⟨w, ⟨l0, l1, l2⟩, o3, o4, o5, o6, o7, o8⟩ := id o; obtain ⟨c1, c2, c3, c4, c5, c6, c7, c8, c9⟩ := id gc; obtain ⟨r1, r2, r3, r4, r5, r6, r7, r8, r9⟩ := id gr
  obtain ⟨F1, I1, v, n1, n2, n3, n4, n5, n6, n7⟩ := cX_fault (d + 24) z F I L k tx c th hz c1 o3 c4 c5
  have fc : kR (fun r => r < 2 ∨ (2 < r ∧ r < 58) ∨ 71 < r) F F1 I I1 L L := fun r hr => ⟨n6 r (by omega), n7 r (by omega), rfl⟩
  have fo : kO F F1 I I1 L L := kR_w fc (fun r q => by omega)
  obtain ⟨q1, q2, q3, q4, q5, q6, q7, q8, q9⟩ := gR_kO gr fo
  obtain ⟨F2, I2, v', m1, m2, m3, m4, m5⟩ := rM_fault (d + 25) z F1 I1 L k tx hz q1 o3 q4
  have e : v' = v := by
    cases r : rdT k tx with
    | inl p => rw [n2 p r, m4 p r]
    | inr q => obtain ⟨c', th'⟩ := q; rw [n3 c' th' r, m5 c' th' r]
  subst e
  exact gS_sc o n1 (gC_thg gc w (fun j _ _ => congrFun (n6 2 (by omega)) j) n4 n5 fc) fo gr m1 (scr_frV m2 m3)
theorem op_thing (d : Nat) (z : mm_Z) (F : Nat → Nat → Value) (I : Nat → Nat → Int32) (L : Nat → Nat → Int64) (hz : zOK z) (g : gI F I L) : gS Value.int (d + 30) z F I L mX10_thing [.ref 2, uu] mX11_thing [.ref 120, uu] := by
  obtain ⟨n, hs, st, lm, k, tx, c, th, ca, m, ja, jb, jv, jw, rc, ro, rb, ln, lo, hi, tr, o, gc, gr⟩ := id g; obtain ⟨w, ⟨l0, l1, l2⟩, o3, o4, o5, o6, o7, o8⟩ := id o; obtain ⟨c1, c2, c3, c4, c5, c6, c7, c8, c9⟩ := id gc; obtain ⟨r1, r2, r3, r4, r5, r6, r7, r8, r9⟩ := id gr
  cases e : rdT k tx with
  | inl p =>
    have pb : p ≤ k := rdI_b k tx 10 0 0 th0 p (by omega) e
    obtain ⟨F1, I1, n1, n4, n5, n6, n7⟩ := cX_thing_not (d + 24) z F I L k tx c th hz c1 o3 c4 c5 p (by have := o3.1; omega) e
    have fc : kR (fun r => r < 2 ∨ (2 < r ∧ r < 58) ∨ 71 < r) F F1 I I1 L L := fun r hr => ⟨n6 r (by omega), n7 r (by omega), rfl⟩
    have fo : kO F F1 I I1 L L := kR_w fc (fun r q => by omega)
    obtain ⟨q1, q2, q3, q4, q5, q6, q7, q8, q9⟩ := gR_kO gr fo
    obtain ⟨F2, I2, m1, m2, m3⟩ := rM_thing_not (d + 25) z F1 I1 L k tx hz q1 o3 q4 p e
    exact gS_sc o n1 (gC_thg gc w (fun j _ _ => congrFun (n6 2 (by omega)) j) n4 n5 fc) fo gr m1 (scr_frV m2 m3)
  | inr q =>
    obtain ⟨c', th'⟩ := q
    have ok' := rdI_ok k tx 10 0 0 th0 c' th' rfl ⟨by omega, fun q hq => absurd hq (by omega)⟩ e
    obtain ⟨F1, I1, n1, n4, n5, n6, n7⟩ := cX_thing (d + 24) z F I L k tx c th hz c1 o3 c4 c5 c' th' e
    have fc : kR (fun r => r < 2 ∨ (2 < r ∧ r < 58) ∨ 71 < r) F F1 I I1 L L := fun r hr => ⟨funext (fun j => n6 r j (by omega) (by omega)), n7 r (by omega), rfl⟩
    have fo : kO F F1 I I1 L L := kR_w fc (fun r q => by omega)
    obtain ⟨q1, q2, q3, q4, q5, q6, q7, q8, q9⟩ := gR_kO gr fo
    obtain ⟨F2, I2, m1, m2, m3, m4, m5, m6⟩ := rM_thing (d + 25) z F1 I1 L k tx hz q1 o3 q4 c' th' ok'.1.1 e
    exact gS_gen ⟨w, o.2.1, ⟨by omega, fun i hi => absurd hi (by omega)⟩, ok'.1, o.2.2.2.2⟩ n1 (gC_thg gc w (fun j p1 p2 => n6 2 j (by omega) (by omega)) n4 n5 fc) fo m1 (gR_thg (gR_kO gr fo) m3 m2 (fun j p1 p2 => by unfold scF at p1; exact m5 120 j (by omega)) (fun r _ p1 p2 => by unfold scI at p1; exact m6 r (by omega) (by omega))) (fun r hr => ⟨funext (fun j => m5 r j (by omega)), m6 r (by omega) (by omega), rfl⟩)
theorem op_fit (d : Nat) (z : mm_Z) (F : Nat → Nat → Value) (I : Nat → Nat → Int32) (L : Nat → Nat → Int64) (hz : zOK z) (g : gI F I L) (x : Int32) : gS Value.int (d + 30) z F I L mX10_fit [.ref 2, .int x] mX11_fit [.ref 120, .int x, uu, uu, uu] := by
  obtain ⟨n, hs, st, lm, k, tx, c, th, ca, m, ja, jb, jv, jw, rc, ro, rb, ln, lo, hi, tr, o, gc, gr⟩ := id g; obtain ⟨w, ⟨l0, l1, l2⟩, o3, o4, o5, o6, o7, o8⟩ := id o; obtain ⟨c1, c2, c3, c4, c5, c6, c7, c8, c9⟩ := id gc; obtain ⟨r1, r2, r3, r4, r5, r6, r7, r8, r9⟩ := id gr
  by_cases h1 : x.toInt < -1
  · exact gS_same g (cX_fit_out (d + 24) z F I L x h1) (rM_fit_out (d + 25) z F I L x h1)
  · by_cases h0 : c = 0
    · exact gS_same g (cX_fit_not (d + 24) z F I L hz c1 c th c5 h0 x h1) (rM_fit_not (d + 25) z F I L hz c th r5 h0 x h1)
    · obtain ⟨I1, v, e1, e2, e3, e4⟩ := cX_fit (d + 24) z F I L n hs st hz w c1 c2 c th c5 o4 h0 lm c3 l2 x h1
      have fc : kR (fun r => r < 2 ∨ (2 < r ∧ r < 58) ∨ 71 < r) F F I I1 L L := fun r hr => ⟨rfl, e4 r (by omega), rfl⟩
      have fo : kO F F I I1 L L := kR_w fc (fun r q => by omega)
      obtain ⟨q1, q2, q3, q4, q5, q6, q7, q8, q9⟩ := gR_kO gr fo
      obtain ⟨I2, v', f1, f2, f3⟩ := rM_fit (d + 25) z F I1 L n hs st hz q1 w q2 c th q5 o4 h0 lm q3 l2 x h1
      have e : v' = v := ftP_uniq f2 e2
      subst e
      exact gS_sc o e1 (gC_thg gc w (fun j _ _ => rfl) (cTx_k c4 rfl (e4 59 (by omega))) e3 fc) fo gr f1 (scr_look f3)
theorem kd_le3 (n : Nat) (hs : Nat → List (Int × Int × Nat)) (st : Nat → Option (Nat × Nat)) (a : Nat) : kd n hs st a ≤ 3 := by
  unfold kd
  split <;> split <;> omega
theorem op_keep (d : Nat) (z : mm_Z) (F : Nat → Nat → Value) (I : Nat → Nat → Int32) (L : Nat → Nat → Int64) (hz : zOK z) (g : gI F I L) (x : Int32) : gS Value.int (d + 30) z F I L mX10_keep [.ref 2, .int x] mX11_keep [.ref 120, .int x, uu, uu] := by
  obtain ⟨n, hs, st, lm, k, tx, c, th, ca, m, ja, jb, jv, jw, rc, ro, rb, ln, lo, hi, tr, o, gc, gr⟩ := id g; obtain ⟨w, ⟨l0, l1, l2⟩, o3, o4, o5, o6, o7, o8⟩ := id o; obtain ⟨c1, c2, c3, c4, c5, c6, c7, c8, c9⟩ := id gc; obtain ⟨r1, r2, r3, r4, r5, r6, r7, r8, r9⟩ := id gr
  by_cases h1 : 0 ≤ x.toInt ∧ x.toInt ≤ 2
  · obtain ⟨a, ha, rfl⟩ := i32_nat (x := x) (N := 3) (by omega)
    obtain ⟨L1, e1, e2, e3⟩ := cX_keep (d + 28) z F I L n hs st hz c1 c2.2.2.2.1 ca c6 a ha
    have fc : kR (fun r => r < 72 ∨ 79 < r) F F I I L L1 := fun r hr => ⟨rfl, rfl, e3 r (by omega)⟩
    have fo : kO F F I I L L1 := kR_w fc (fun r q => by omega)
    obtain ⟨I2, f1, f2, f3⟩ := rM_keep (d + 25) z F I L1 n hs st hz r1 w r2 ca r6 a ha
    have ok' : okC (udf ca a (kd n hs st)) := fun i b => by
      unfold udf
      split
      · exact kd_le3 n hs st b
      · exact o5 i b
    exact gS_gen ⟨w, o.2.1, o3, o4, ok', o.2.2.2.2.2⟩ e1 (gC_cat gc w e2 fc) fo f1 (gR_cat gr f2 (fun j _ _ => rfl) (fun r _ p1 p2 => by unfold scI at p1; exact f3 r (by omega) (by omega) (by omega) (by omega))) (fun r hr => ⟨rfl, f3 r (by omega) (by omega) (by omega) (by omega), rfl⟩)
  · exact gS_same g (cX_keep_unk (d + 28) z F I L x h1) (rM_keep_unk (d + 25) z F I L x h1)
theorem op_since (d : Nat) (z : mm_Z) (F : Nat → Nat → Value) (I : Nat → Nat → Int32) (L : Nat → Nat → Int64) (hz : zOK z) (g : gI F I L) (x y b : Int32) : gS Value.long (d + 30) z F I L mX10_since [.ref 2, .int x, .int y, .int b] mX11_since [.ref 120, .int x, .int y, .int b, uu, uu, uu, uu] := by
  obtain ⟨n, hs, st, lm, k, tx, c, th, ca, m, ja, jb, jv, jw, rc, ro, rb, ln, lo, hi, tr, o, gc, gr⟩ := id g; obtain ⟨w, ⟨l0, l1, l2⟩, o3, o4, o5, o6, o7, o8⟩ := id o; obtain ⟨c1, c2, c3, c4, c5, c6, c7, c8, c9⟩ := id gc; obtain ⟨r1, r2, r3, r4, r5, r6, r7, r8, r9⟩ := id gr
  by_cases h1 : (0 ≤ x.toInt ∧ x.toInt ≤ 2) ∧ (0 ≤ y.toInt ∧ y.toInt ≤ 2) ∧ (0 ≤ b.toInt ∧ b.toInt ≤ 2)
  · obtain ⟨i, hi1, rfl⟩ := i32_nat (x := x) (N := 3) (by omega)
    obtain ⟨j, hj1, rfl⟩ := i32_nat (x := y) (N := 3) (by omega)
    obtain ⟨q, hq1, rfl⟩ := i32_nat (x := b) (N := 3) (by omega)
    exact gS_same g (cX_since (d + 28) z F I L hz c1 ca c6 i j q hi1 hj1 hq1) (rM_since (d + 28) z F I L hz r1 ca o5 r6 i j q hi1 hj1 hq1)
  · exact gS_same g (cX_since_no (d + 28) z F I L hz c1 x y b h1) (rM_since_no (d + 28) z F I L x y b h1)
theorem op_moved (d : Nat) (z : mm_Z) (F : Nat → Nat → Value) (I : Nat → Nat → Int32) (L : Nat → Nat → Int64) (hz : zOK z) (g : gI F I L) (x y b : Int32) : gS Value.int (d + 30) z F I L mX10_moved [.ref 2, .int x, .int y, .int b] mX11_moved [.ref 120, .int x, .int y, .int b, uu, uu, uu, uu, uu, uu, uu, uu, uu, uu, uu, uu] := by
  obtain ⟨n, hs, st, lm, k, tx, c, th, ca, m, ja, jb, jv, jw, rc, ro, rb, ln, lo, hi, tr, o, gc, gr⟩ := id g; obtain ⟨w, ⟨l0, l1, l2⟩, o3, o4, o5, o6, o7, o8⟩ := id o; obtain ⟨c1, c2, c3, c4, c5, c6, c7, c8, c9⟩ := id gc; obtain ⟨r1, r2, r3, r4, r5, r6, r7, r8, r9⟩ := id gr
  by_cases h1 : (0 ≤ x.toInt ∧ x.toInt ≤ 2) ∧ (0 ≤ y.toInt ∧ y.toInt ≤ 2)
  · by_cases h2 : 0 ≤ b.toInt ∧ b.toInt ≤ 1
    · obtain ⟨i, hi1, rfl⟩ := i32_nat (x := x) (N := 3) (by omega)
      obtain ⟨j, hj1, rfl⟩ := i32_nat (x := y) (N := 3) (by omega)
      obtain ⟨q, hq1, rfl⟩ := i32_nat (x := b) (N := 2) (by omega)
      by_cases e : q = 0
      · subst e
        obtain ⟨I1, e1, e2⟩ := cX_moved0 (d + 26) z F I L hz c1 ca c6 i j hi1 hj1
        have fc : kR (fun r => r < 72 ∨ 79 < r) F F I I1 L L := fun r hr => ⟨rfl, e2 r (by omega), rfl⟩
        have fo : kO F F I I1 L L := kR_w fc (fun r q => by omega)
        obtain ⟨q1, q2, q3, q4, q5, q6, q7, q8, q9⟩ := gR_kO gr fo
        obtain ⟨I2, f1, f2⟩ := rM_moved0 (d + 28) z F I1 L hz q1 ca o5 q6 i j hi1 hj1
        exact gS_sc o e1 (gC_cat gc w c6 fc) fo gr f1 ⟨fun _ _ _ => rfl, fun r q => by unfold scI at q; exact f2 r (by omega) (by omega), fun _ _ => rfl⟩
      · have e' : q = 1 := by omega
        subst e'
        obtain ⟨I1, v, e1, e3, e2⟩ := cX_moved1 (d + 26) z F I L hz c1 ca c6 i j hi1 hj1
        have fc : kR (fun r => r < 72 ∨ 79 < r) F F I I1 L L := fun r hr => ⟨rfl, e2 r (by omega), rfl⟩
        have fo : kO F F I I1 L L := kR_w fc (fun r q => by omega)
        obtain ⟨q1, q2, q3, q4, q5, q6, q7, q8, q9⟩ := gR_kO gr fo
        obtain ⟨I2, v', f1, f3, f2⟩ := rM_moved1 (d + 28) z F I1 L hz q1 ca o5 q6 i j hi1 hj1
        have ev : v' = v := mvP_uniq f3 e3
        subst ev
        exact gS_sc o e1 (gC_cat gc w c6 fc) fo gr f1 ⟨fun _ _ _ => rfl, fun r q => by unfold scI at q; exact f2 r (by omega) (by omega), fun _ _ => rfl⟩
    · exact gS_same g (cX_moved_out (d + 26) z F I L x y b h1.1 h1.2 h2) (rM_moved_out (d + 28) z F I L x y b h1.1 h1.2 h2)
  · exact gS_same g (cX_moved_unk (d + 26) z F I L x y b h1) (rM_moved_unk (d + 28) z F I L x y b h1)
theorem op_see (d : Nat) (z : mm_Z) (F : Nat → Nat → Value) (I : Nat → Nat → Int32) (L : Nat → Nat → Int64) (hz : zOK z) (g : gI F I L) (x y : Int32) : gS Value.int (d + 30) z F I L mX10_see [.ref 2, .int x, .int y] mX11_see [.ref 120, .int x, .int y] := by
  obtain ⟨n, hs, st, lm, k, tx, c, th, ca, m, ja, jb, jv, jw, rc, ro, rb, ln, lo, hi, tr, o, gc, gr⟩ := id g; obtain ⟨w, ⟨l0, l1, l2⟩, o3, o4, o5, o6, o7, o8⟩ := id o; obtain ⟨c1, c2, c3, c4, c5, c6, c7, c8, c9⟩ := id gc; obtain ⟨r1, r2, r3, r4, r5, r6, r7, r8, r9⟩ := id gr
  by_cases h1 : (0 ≤ x.toInt ∧ x.toInt < 64) ∧ (0 ≤ y.toInt ∧ y.toInt < 64)
  · obtain ⟨a, ha, rfl⟩ := i32_nat (N := 64) h1.1
    obtain ⟨b, hb, rfl⟩ := i32_nat (N := 64) h1.2
    by_cases h2 : kd n hs st a < 2
    · obtain ⟨I2, f1, f2⟩ := rM_see (d + 25) z F I L n hs st hz r1 w r2 a b ha hb h2
      exact gS_s o gc gr (cX_see (d + 26) z F I L n hs st hz c1 c2.2.2.2.1 a b ha hb h2) f1 (scr_look f2)
    · obtain ⟨I2, f1, f2⟩ := rM_see_not (d + 25) z F I L n hs st hz r1 w r2 a b ha hb h2
      exact gS_s o gc gr (cX_see_not (d + 26) z F I L n hs st hz c1 c2.2.2.2.1 a b ha hb h2) f1 (scr_look f2)
  · exact gS_same g (cX_see_unk (d + 26) z F I L x y h1) (rM_see_unk (d + 25) z F I L x y h1)
theorem op_next (d : Nat) (z : mm_Z) (F : Nat → Nat → Value) (I : Nat → Nat → Int32) (L : Nat → Nat → Int64) (hz : zOK z) (g : gI F I L) (x y : Int64) : gS Value.int (d + 30) z F I L mX10_next [.ref 2, .long x, uu, .long y, uu, uu, uu, uu, uu, uu, uu] mX11_next [.ref 120, .long x, uu, .long y, uu, uu, uu, uu, uu, uu] := by
  obtain ⟨n, hs, st, lm, k, tx, c, th, ca, m, ja, jb, jv, jw, rc, ro, rb, ln, lo, hi, tr, o, gc, gr⟩ := id g; obtain ⟨w, ⟨l0, l1, l2⟩, o3, o4, o5, o6, o7, o8⟩ := id o; obtain ⟨c1, c2, c3, c4, c5, c6, c7, c8, c9⟩ := id gc; obtain ⟨r1, r2, r3, r4, r5, r6, r7, r8, r9⟩ := id gr
  obtain ⟨I2, f1, f2⟩ := rM_next (d + 25) z F I L n hs st hz r1 w r2 x y
  exact gS_s o gc gr (cX_next (d + 26) z F I L n hs st hz c1 c2.2.2.2.1 x y) f1 (scr_look f2)
