/-! all of the state, and what a call keeps -/
def gO (n : Nat) (hs : Nat → List (Int × Int × Nat)) (st : Nat → Option (Nat × Nat)) (lm : Nat → Nat) (k : Nat) (tx : Nat → Nat) (c : Nat) (th : Nat → Nat × Nat × Nat × Nat) (ca : Nat → Nat → Nat) (m : Nat) (ja jb : Nat → Nat) (jv : Nat → Int) (jw : Nat → Nat) (rc : Nat) (ro : Nat → Nat) (rb : Nat → Bool) (ln : Nat) (lo hi : Nat → Nat) (tr : Nat → Int) : Prop := wOK n hs st ∧ (lm 0 ≤ 16 ∧ lm 1 ≤ 16 ∧ lm 2 ≤ 10) ∧ okT k tx ∧ okTh c th ∧ okC ca ∧ okJ m ja jb jv jw ∧ okR m rc ro ∧ okLn ln lo hi tr
def gC (n : Nat) (hs : Nat → List (Int × Int × Nat)) (st : Nat → Option (Nat × Nat)) (lm : Nat → Nat) (k : Nat) (tx : Nat → Nat) (c : Nat) (th : Nat → Nat × Nat × Nat × Nat) (ca : Nat → Nat → Nat) (m : Nat) (ja jb : Nat → Nat) (jv : Nat → Int) (jw : Nat → Nat) (rc : Nat) (ro : Nat → Nat) (rb : Nat → Bool) (ln : Nat) (lo hi : Nat → Nat) (tr : Nat → Int) (F : Nat → Nat → Value) (I : Nat → Nat → Int32) (L : Nat → Nat → Int64) : Prop := cTop F ∧ cHl n hs st F I L ∧ cLm lm I ∧ cTx k tx F I ∧ cTg c th F I ∧ cCt ca F L ∧ cJn m ja jb jv jw F I ∧ cRw rc ro rb F I ∧ cLn ln lo hi tr F I
def gR (n : Nat) (hs : Nat → List (Int × Int × Nat)) (st : Nat → Option (Nat × Nat)) (lm : Nat → Nat) (k : Nat) (tx : Nat → Nat) (c : Nat) (th : Nat → Nat × Nat × Nat × Nat) (ca : Nat → Nat → Nat) (m : Nat) (ja jb : Nat → Nat) (jv : Nat → Int) (jw : Nat → Nat) (rc : Nat) (ro : Nat → Nat) (rb : Nat → Bool) (ln : Nat) (lo hi : Nat → Nat) (tr : Nat → Int) (F : Nat → Nat → Value) (I : Nat → Nat → Int32) : Prop := FixM F ∧ rmS n hs st F I ∧ rmL lm F ∧ rTx k tx F I ∧ rTg c th F I ∧ rCt ca I ∧ rJn m ja jb jv jw F I ∧ rRw rc ro rb F I ∧ rLn ln lo hi tr F I
def gI (F : Nat → Nat → Value) (I : Nat → Nat → Int32) (L : Nat → Nat → Int64) : Prop := ∃ n hs st lm k tx c th ca m ja jb jv jw rc ro rb ln lo hi tr, gO n hs st lm k tx c th ca m ja jb jv jw rc ro rb ln lo hi tr ∧ gC n hs st lm k tx c th ca m ja jb jv jw rc ro rb ln lo hi tr F I L ∧ gR n hs st lm k tx c th ca m ja jb jv jw rc ro rb ln lo hi tr F I
/-- rows that are kept -/
def kR (S : Nat → Prop) (F F' : Nat → Nat → Value) (I I' : Nat → Nat → Int32) (L L' : Nat → Nat → Int64) : Prop := ∀ r, S r → F' r = F r ∧ I' r = I r ∧ L' r = L r
theorem cTop_k {F F' : Nat → Nat → Value} (h : cTop F) (f : ∀ j, ¬ j = 3 → ¬ j = 4 → F' 2 j = F 2 j) : cTop F' := by
  unfold cTop
  rw [f 0 (by omega) (by omega), f 1 (by omega) (by omega), f 2 (by omega) (by omega), f 5 (by omega) (by omega), f 6 (by omega) (by omega), f 7 (by omega) (by omega), f 8 (by omega) (by omega)]
  exact h
theorem cLm_k {lm : Nat → Nat} {I I' : Nat → Nat → Int32} (h : cLm lm I) (f : I' 57 = I 57) : cLm lm I' := by
  intro j hj
  rw [f]; exact h j hj
theorem cTx_k {k : Nat} {tx : Nat → Nat} {F F' : Nat → Nat → Value} {I I' : Nat → Nat → Int32} (h : cTx k tx F I) (f : F' 58 = F 58) (g : I' 59 = I 59) : cTx k tx F' I' := by
  unfold cTx
  rw [f, g]; exact h
theorem cTg_k {c : Nat} {th : Nat → Nat × Nat × Nat × Nat} {F F' : Nat → Nat → Value} {I I' : Nat → Nat → Int32} (h : cTg c th F I) (f2 : F' 2 = F 2) (f : ∀ r, 60 ≤ r → r ≤ 71 → F' r = F r ∧ I' r = I r) : cTg c th F' I' := by
  obtain ⟨t, u, htu, a1, a2, a3, a4, a5, a6⟩ := h
  have ft := (f t (by omega) (by omega)).1
  have fu := (f u (by omega) (by omega)).1
  refine ⟨t, u, htu, by rw [f2]; exact a1, by rw [f2]; exact a2, ?_, ?_, by rw [ft]; exact a5, fun q hq => ?_⟩
  · unfold thZ; rw [ft]; exact a3
  · unfold thZ; rw [fu]; exact a4
  · rw [(f (t + 1) (by omega) (by omega)).2, (f (t + 2) (by omega) (by omega)).2, (f (t + 3) (by omega) (by omega)).2, (f (t + 4) (by omega) (by omega)).2]
    exact a6 q hq
theorem cCt_k {ca : Nat → Nat → Nat} {F F' : Nat → Nat → Value} {L L' : Nat → Nat → Int64} (h : cCt ca F L) (f : ∀ r, 72 ≤ r → r ≤ 76 → F' r = F r ∧ L' r = L r) : cCt ca F' L' := by
  obtain ⟨⟨h1, h2⟩, h3⟩ := h
  refine ⟨⟨by rw [(f 72 (by omega) (by omega)).1]; exact h1, fun j hj => by rw [(f 73 (by omega) (by omega)).1]; exact h2 j hj⟩, fun j hj x hx a ha => ?_⟩
  rw [(f (74 + j) (by omega) (by omega)).2]
  exact h3 j hj x hx a ha
theorem cJ0_k {m : Nat} {ja jb : Nat → Nat} {jv : Nat → Int} {jw : Nat → Nat} {F F' : Nat → Nat → Value} {I I' : Nat → Nat → Int32} (h : cJ0 m ja jb jv jw F I) (f : ∀ r, 80 ≤ r → r ≤ 112 → F' r = F r) (g : ∀ r, 80 ≤ r → r ≤ 84 → I' r = I r) : cJ0 m ja jb jv jw F' I' := by
  unfold cJ0
  rw [f 80 (by omega) (by omega), f 85 (by omega) (by omega), f 99 (by omega) (by omega), g 81 (by omega) (by omega), g 82 (by omega) (by omega), g 83 (by omega) (by omega), g 84 (by omega) (by omega)]
  exact h
theorem cJn_k {m : Nat} {ja jb : Nat → Nat} {jv : Nat → Int} {jw : Nat → Nat} {F F' : Nat → Nat → Value} {I I' : Nat → Nat → Int32} (h : cJn m ja jb jv jw F I) (f : ∀ r, 80 ≤ r → r ≤ 112 → F' r = F r) (g : ∀ r, 80 ≤ r → r ≤ 84 → I' r = I r) : cJn m ja jb jv jw F' I' := by
  obtain ⟨h0, sd, b, bw, h1⟩ := h
  refine ⟨cJ0_k h0 f g, sd, b, bw, ?_⟩
  rw [f 80 (by omega) (by omega)]
  exact h1
theorem cRw_k {rc : Nat} {ro : Nat → Nat} {rb : Nat → Bool} {F F' : Nat → Nat → Value} {I I' : Nat → Nat → Int32} (h : cRw rc ro rb F I) (f : F' 113 = F 113) (g : I' 114 = I 114) (g' : I' 115 = I 115) : cRw rc ro rb F' I' := by
  unfold cRw
  rw [f, g, g']; exact h
theorem cLn_k {ln : Nat} {lo hi : Nat → Nat} {tr : Nat → Int} {F F' : Nat → Nat → Value} {I I' : Nat → Nat → Int32} (h : cLn ln lo hi tr F I) (f : ∀ r, 116 ≤ r → r ≤ 119 → F' r = F r ∧ I' r = I r) : cLn ln lo hi tr F' I' := by
  unfold cLn
  rw [(f 116 (by omega) (by omega)).1, (f 117 (by omega) (by omega)).2, (f 118 (by omega) (by omega)).2, (f 119 (by omega) (by omega)).2]
  exact h
theorem gC_k {n : Nat} {hs : Nat → List (Int × Int × Nat)} {st : Nat → Option (Nat × Nat)} {lm : Nat → Nat} {k : Nat} {tx : Nat → Nat} {c : Nat} {th : Nat → Nat × Nat × Nat × Nat} {ca : Nat → Nat → Nat} {m : Nat} {ja jb : Nat → Nat} {jv : Nat → Int} {jw : Nat → Nat} {rc : Nat} {ro : Nat → Nat} {rb : Nat → Bool} {ln : Nat} {lo hi : Nat → Nat} {tr : Nat → Int} {z : mm_Z} {F F' : Nat → Nat → Value} {I I' : Nat → Nat → Int32} {L L' : Nat → Nat → Int64} (h : gC n hs st lm k tx c th ca m ja jb jv jw rc ro rb ln lo hi tr F I L) (w : wOK n hs st) (f : kR (fun r => 2 ≤ r ∧ r ≤ 119) F F' I I' L L') : gC n hs st lm k tx c th ca m ja jb jv jw rc ro rb ln lo hi tr F' I' L' := by
  obtain ⟨a1, a2, a3, a4, a5, a6, a7, a8, a9⟩ := h
  refine ⟨cTop_k a1 (fun j _ _ => congrFun (f 2 (by omega)).1 j), cHl_cg n hs st a2 w.1 (fun x _ _ => (f x (by omega)).1) (fun x _ _ => (f x (by omega)).2.1) (fun x _ _ => (f x (by omega)).2.2), cLm_k a3 (f 57 (by omega)).2.1, cTx_k a4 (f 58 (by omega)).1 (f 59 (by omega)).2.1, cTg_k a5 (f 2 (by omega)).1 (fun r _ _ => ⟨(f r (by omega)).1, (f r (by omega)).2.1⟩), cCt_k a6 (fun r _ _ => ⟨(f r (by omega)).1, (f r (by omega)).2.2⟩), cJn_k a7 (fun r _ _ => (f r (by omega)).1) (fun r _ _ => (f r (by omega)).2.1), cRw_k a8 (f 113 (by omega)).1 (f 114 (by omega)).2.1 (f 115 (by omega)).2.1, cLn_k a9 (fun r _ _ => ⟨(f r (by omega)).1, (f r (by omega)).2.1⟩)⟩
/-- fields and rows that the reference uses for a while -/
def scF (j : Nat) : Prop := j = 13 ∨ (15 ≤ j ∧ j ≤ 18) ∨ (23 ≤ j ∧ j ≤ 29)
def scI (r : Nat) : Prop := (127 ≤ r ∧ r ≤ 130) ∨ r = 132 ∨ r = 134 ∨ r = 137 ∨ r = 138 ∨ r = 143 ∨ r = 144
def scr (F F' : Nat → Nat → Value) (I I' : Nat → Nat → Int32) (L L' : Nat → Nat → Int64) : Prop := (∀ r j, ¬ (r = 120 ∧ scF j) → F' r j = F r j) ∧ (∀ r, ¬ scI r → I' r = I r) ∧ ∀ r, r < 120 → L' r = L r
theorem FixM_k {F F' : Nat → Nat → Value} (h : FixM F) (f : ∀ j, mm_stM.any (fun q => q.1 == j) = true → F' 120 j = F 120 j) : FixM F' := by
  intro q hq
  rw [f q.1 (List.any_eq_true.mpr ⟨q, hq, by simp⟩)]
  exact h q hq
theorem rmL_k {lm : Nat → Nat} {F F' : Nat → Nat → Value} (h : rmL lm F) (f7 : F' 120 7 = F 120 7) (f8 : F' 120 8 = F 120 8) (f9 : F' 120 9 = F 120 9) : rmL lm F' := by
  unfold rmL; rw [f7, f8, f9]; exact h
theorem rTx_k {k : Nat} {tx : Nat → Nat} {F F' : Nat → Nat → Value} {I I' : Nat → Nat → Int32} (h : rTx k tx F I) (f : F' 120 21 = F 120 21) (g : I' 133 = I 133) : rTx k tx F' I' := by
  unfold rTx; rw [f, g]; exact h
theorem rTg_k {c : Nat} {th : Nat → Nat × Nat × Nat × Nat} {F F' : Nat → Nat → Value} {I I' : Nat → Nat → Int32} (h : rTg c th F I) (f : F' 120 31 = F 120 31) (g : I' 135 = I 135) : rTg c th F' I' := by
  unfold rTg; rw [f, g]; exact h
theorem rCt_k {ca : Nat → Nat → Nat} {I I' : Nat → Nat → Int32} (h : rCt ca I) (g : I' 136 = I 136) : rCt ca I' := by
  unfold rCt; rw [g]; exact h
theorem rJn_k {m : Nat} {ja jb : Nat → Nat} {jv : Nat → Int} {jw : Nat → Nat} {F F' : Nat → Nat → Value} {I I' : Nat → Nat → Int32} (h : rJn m ja jb jv jw F I) (f : F' 120 36 = F 120 36) (g : ∀ r, 139 ≤ r → r ≤ 142 → I' r = I r) : rJn m ja jb jv jw F' I' := by
  unfold rJn; rw [f, g 139 (by omega) (by omega), g 140 (by omega) (by omega), g 141 (by omega) (by omega), g 142 (by omega) (by omega)]; exact h
theorem rRw_k {rc : Nat} {ro : Nat → Nat} {rb : Nat → Bool} {F F' : Nat → Nat → Value} {I I' : Nat → Nat → Int32} (h : rRw rc ro rb F I) (f : F' 120 43 = F 120 43) (g : I' 145 = I 145) (g' : I' 146 = I 146) : rRw rc ro rb F' I' := by
  unfold rRw; rw [f, g, g']; exact h
theorem rLn_k {ln : Nat} {lo hi : Nat → Nat} {tr : Nat → Int} {F F' : Nat → Nat → Value} {I I' : Nat → Nat → Int32} (h : rLn ln lo hi tr F I) (f : F' 120 46 = F 120 46) (g : ∀ r, 147 ≤ r → r ≤ 149 → I' r = I r) : rLn ln lo hi tr F' I' := by
  unfold rLn; rw [f, g 147 (by omega) (by omega), g 148 (by omega) (by omega), g 149 (by omega) (by omega)]; exact h
theorem stM_sc {j : Nat} (h : mm_stM.any (fun q => q.1 == j) = true) : ¬ scF j ∧ ¬ j = 0 ∧ ¬ j = 7 ∧ ¬ j = 8 ∧ ¬ j = 9 ∧ ¬ j = 21 ∧ ¬ j = 31 ∧ ¬ j = 36 ∧ ¬ j = 43 ∧ ¬ j = 46 := by
  obtain ⟨q, hq, e⟩ := List.any_eq_true.mp h
  have e' : q.1 = j := by simpa using e
  subst e'
  unfold scF
  revert q
  decide
theorem gR_k {n : Nat} {hs : Nat → List (Int × Int × Nat)} {st : Nat → Option (Nat × Nat)} {lm : Nat → Nat} {k : Nat} {tx : Nat → Nat} {c : Nat} {th : Nat → Nat × Nat × Nat × Nat} {ca : Nat → Nat → Nat} {m : Nat} {ja jb : Nat → Nat} {jv : Nat → Int} {jw : Nat → Nat} {rc : Nat} {ro : Nat → Nat} {rb : Nat → Bool} {ln : Nat} {lo hi : Nat → Nat} {tr : Nat → Int} {z : mm_Z} {F F' : Nat → Nat → Value} {I I' : Nat → Nat → Int32} {L L' : Nat → Nat → Int64} (h : gR n hs st lm k tx c th ca m ja jb jv jw rc ro rb ln lo hi tr F I) (f : ∀ j, ¬ scF j → F' 120 j = F 120 j) (g : ∀ r, 120 ≤ r → ¬ scI r → I' r = I r) : gR n hs st lm k tx c th ca m ja jb jv jw rc ro rb ln lo hi tr F' I' := by
  obtain ⟨a1, a2, a3, a4, a5, a6, a7, a8, a9⟩ := h
  refine ⟨FixM_k a1 (fun j hj => f j (stM_sc hj).1), rmS_congr n hs st a2 (f 0 (by unfold scF; omega)) (g _ (by omega) (by unfold scI; omega)) (g _ (by omega) (by unfold scI; omega)) (g _ (by omega) (by unfold scI; omega)) (g _ (by omega) (by unfold scI; omega)) (g _ (by omega) (by unfold scI; omega)) (g _ (by omega) (by unfold scI; omega)), rmL_k a3 (f 7 (by unfold scF; omega)) (f 8 (by unfold scF; omega)) (f 9 (by unfold scF; omega)), rTx_k a4 (f 21 (by unfold scF; omega)) (g _ (by omega) (by unfold scI; omega)), rTg_k a5 (f 31 (by unfold scF; omega)) (g _ (by omega) (by unfold scI; omega)), rCt_k a6 (g _ (by omega) (by unfold scI; omega)), rJn_k a7 (f 36 (by unfold scF; omega)) (fun r _ _ => g r (by omega) (by unfold scI; omega)), rRw_k a8 (f 43 (by unfold scF; omega)) (g _ (by omega) (by unfold scI; omega)) (g _ (by omega) (by unfold scI; omega)), rLn_k a9 (f 46 (by unfold scF; omega)) (fun r _ _ => g r (by omega) (by unfold scI; omega))⟩
/-- one call of the law: both answer alike, and what stands goes on standing -/
def gS {α : Type} (mk : α → Value) (D : Nat) (z : mm_Z) (F : Nat → Nat → Value) (I : Nat → Nat → Int32) (L : Nat → Nat → Int64) (mc : mm_M) (lc : List Value) (mr : mm_M) (lr : List Value) : Prop := ∃ v F1 I1 L1 F2 I2 L2, mm_E D mc 0 lc [] (z, F, I, L) = some (some (mk v), (z, F1, I1, L1)) ∧ mm_E D mr 0 lr [] (z, F1, I1, L1) = some (some (mk v), (z, F2, I2, L2)) ∧ I1 1 = I 1 ∧ I2 1 = I 1 ∧ gI F2 I2 L2
