/-! how many bits a long has -/
def ds (B : Nat) : Nat → Nat → Nat
  | 0, _ => 0
  | n + 1, y => y % B + ds B n (y / B)
def dmx (B b : Nat) : Nat → Nat → Prop
  | 0, _ => True
  | n + 1, y => y % B ≤ b ∧ dmx B b n (y / B)
def mkM (w : Nat) : Nat → Nat
  | 0 => 0
  | n + 1 => (2 ^ w - 1) + 2 ^ (2 * w) * mkM w n
theorem mkM_mod (w n : Nat) (hw : 0 < w) : mkM w (n + 1) % 2 ^ (2 * w) = 2 ^ w - 1 := by
  rw [mkM, Nat.add_mul_mod_self_left]
  apply Nat.mod_eq_of_lt
  have : 2 ^ w ≤ 2 ^ (2 * w) := Nat.pow_le_pow_right (by decide) (by omega)
  have := Nat.two_pow_pos w
  omega
theorem mkM_div (w n : Nat) (hw : 0 < w) : mkM w (n + 1) / 2 ^ (2 * w) = mkM w n := by
  rw [mkM, Nat.add_mul_div_left _ _ (Nat.two_pow_pos _)]
  have h : (2 ^ w - 1) / 2 ^ (2 * w) = 0 := by
    apply Nat.div_eq_of_lt
    have : 2 ^ w ≤ 2 ^ (2 * w) := Nat.pow_le_pow_right (by decide) (by omega)
    have := Nat.two_pow_pos w
    omega
  rw [h, Nat.zero_add]
theorem and_M_mod (w n x : Nat) (hw : 0 < w) : (x &&& mkM w (n + 1)) % 2 ^ (2 * w) = x % 2 ^ w := by
  rw [Nat.and_mod_two_pow, mkM_mod w n hw, Nat.and_two_pow_sub_one_eq_mod]
  apply Nat.mod_mod_of_dvd
  exact Nat.pow_dvd_pow 2 (by omega)
theorem and_M_div (w n x : Nat) (hw : 0 < w) : (x &&& mkM w (n + 1)) / 2 ^ (2 * w) = (x / 2 ^ (2 * w)) &&& mkM w n := by
  rw [Nat.and_div_two_pow, mkM_div w n hw]
theorem pow2w (w : Nat) : 2 ^ (2 * w) = 2 ^ w * 2 ^ w := by rw [← Nat.pow_add]; congr 1; omega
/-- both halves of the fields together -/
def hv (w n x : Nat) : Nat := (x &&& mkM w n) + ((x / 2 ^ w) &&& mkM w n)
theorem hv_s (w n x : Nat) (hw : 0 < w) : hv w (n + 1) x % 2 ^ (2 * w) = x % 2 ^ w + (x / 2 ^ w) % 2 ^ w ∧ hv w (n + 1) x / 2 ^ (2 * w) = hv w n (x / 2 ^ (2 * w)) := by
  unfold hv
  have a1 := and_M_mod w n x hw
  have a2 := and_M_mod w n (x / 2 ^ w) hw
  have b1 := and_M_div w n x hw
  have b2 := and_M_div w n (x / 2 ^ w) hw
  have c : x / 2 ^ w / 2 ^ (2 * w) = x / 2 ^ (2 * w) / 2 ^ w := by rw [Nat.div_div_eq_div_mul, Nat.div_div_eq_div_mul, Nat.mul_comm]
  rw [c] at b2
  have q1 : x % 2 ^ w < 2 ^ w := Nat.mod_lt _ (Nat.two_pow_pos w)
  have q2 : (x / 2 ^ w) % 2 ^ w < 2 ^ w := Nat.mod_lt _ (Nat.two_pow_pos w)
  have q3 : 2 ≤ 2 ^ w := by have : 2 ^ 1 ≤ 2 ^ w := Nat.pow_le_pow_right (by decide) hw; omega
  have q4 : 2 * 2 ^ w ≤ 2 ^ w * 2 ^ w := Nat.mul_le_mul_right _ q3
  have sm : x % 2 ^ w + (x / 2 ^ w) % 2 ^ w < 2 ^ (2 * w) := by rw [pow2w]; omega
  constructor
  · rw [Nat.add_mod, a1, a2]; exact Nat.mod_eq_of_lt sm
  · rw [← b1, ← b2]
    have d1 := Nat.div_add_mod (x &&& mkM w (n + 1)) (2 ^ (2 * w))
    have d2 := Nat.div_add_mod (x / 2 ^ w &&& mkM w (n + 1)) (2 ^ (2 * w))
    rw [a1] at d1
    rw [a2] at d2
    apply Nat.div_eq_of_lt_le
    · rw [Nat.add_mul, Nat.mul_comm, Nat.mul_comm ((x / 2 ^ w &&& mkM w (n + 1)) / 2 ^ (2 * w))]; omega
    · rw [Nat.add_mul, Nat.add_mul, Nat.mul_comm, Nat.mul_comm ((x / 2 ^ w &&& mkM w (n + 1)) / 2 ^ (2 * w))]; omega
theorem hv_ds (w : Nat) (hw : 0 < w) : ∀ n x, ds (2 ^ (2 * w)) n (hv w n x) = ds (2 ^ w) (2 * n) x := by
  intro n
  induction n with
  | zero => intro x; rfl
  | succ n ih =>
    intro x
    have h := hv_s w n x hw
    rw [ds, h.1, h.2, ih, show 2 * (n + 1) = 2 * n + 1 + 1 by omega, ds, ds, Nat.div_div_eq_div_mul, ← pow2w]
    omega
theorem hv_dmx (w b : Nat) (hw : 0 < w) : ∀ n x, dmx (2 ^ w) b (2 * n) x → dmx (2 ^ (2 * w)) (2 * b) n (hv w n x) := by
  intro n
  induction n with
  | zero => intro x _; trivial
  | succ n ih =>
    intro x hx
    rw [show 2 * (n + 1) = 2 * n + 1 + 1 by omega] at hx
    have h := hv_s w n x hw
    obtain ⟨h1, h2, h3⟩ := hx
    refine ⟨by rw [h.1]; omega, ?_⟩
    rw [h.2]
    apply ih
    rw [Nat.div_div_eq_div_mul, ← pow2w] at h3
    exact h3
theorem hv_eq (w : Nat) (hw : 0 < w) : ∀ n x, x < 2 ^ (2 * w * n) → (x &&& mkM w n) + 2 ^ w * ((x / 2 ^ w) &&& mkM w n) = x := by
  intro n
  induction n with
  | zero => intro x hx; have : x = 0 := by simpa using hx
            subst this; simp [mkM]
  | succ n ih =>
    intro x hx
    have a1 := and_M_mod w n x hw
    have a2 := and_M_mod w n (x / 2 ^ w) hw
    have b1 := and_M_div w n x hw
    have b2 := and_M_div w n (x / 2 ^ w) hw
    have c : x / 2 ^ w / 2 ^ (2 * w) = x / 2 ^ (2 * w) / 2 ^ w := by rw [Nat.div_div_eq_div_mul, Nat.div_div_eq_div_mul, Nat.mul_comm]
    rw [c] at b2
    have hx' : x / 2 ^ (2 * w) < 2 ^ (2 * w * n) := by
      apply Nat.div_lt_of_lt_mul
      rw [← Nat.pow_add]
      have e : 2 * w + 2 * w * n = 2 * w * (n + 1) := by rw [Nat.mul_succ]; omega
      rw [e]; exact hx
    have i := ih _ hx'
    have d1 := Nat.div_add_mod (x &&& mkM w (n + 1)) (2 ^ (2 * w))
    have d2 := Nat.div_add_mod (x / 2 ^ w &&& mkM w (n + 1)) (2 ^ (2 * w))
    rw [a1, b1] at d1
    rw [a2, b2] at d2
    have e1 := Nat.div_add_mod x (2 ^ (2 * w))
    have e2 : x % 2 ^ (2 * w) = x % 2 ^ w + 2 ^ w * (x / 2 ^ w % 2 ^ w) := by rw [pow2w, Nat.mod_mul]
    rw [← d1, ← d2]
    have e3 : 2 ^ w * (2 ^ (2 * w) * (x / 2 ^ (2 * w) / 2 ^ w &&& mkM w n) + x / 2 ^ w % 2 ^ w) = 2 ^ (2 * w) * (2 ^ w * (x / 2 ^ (2 * w) / 2 ^ w &&& mkM w n)) + 2 ^ w * (x / 2 ^ w % 2 ^ w) := by
      rw [Nat.mul_add, Nat.mul_left_comm]
    rw [e3]
    have e4 : 2 ^ (2 * w) * (x / 2 ^ (2 * w) &&& mkM w n) + 2 ^ (2 * w) * (2 ^ w * (x / 2 ^ (2 * w) / 2 ^ w &&& mkM w n)) = 2 ^ (2 * w) * (x / 2 ^ (2 * w)) := by
      rw [← Nat.mul_add, i]
    omega
theorem ds_sum (f : Nat → Nat) : ∀ n, sumT f (n + 1) = f 0 + sumT (fun a => f (a + 1)) n := by
  intro n
  induction n with
  | zero => rw [sumT, sumT, sumT]; omega
  | succ n ih => rw [sumT, ih, sumT]; omega
theorem ds_bits : ∀ n x, ds 2 n x = sumT (fun a => if x.testBit a = true then 1 else 0) n := by
  intro n
  induction n with
  | zero => intro x; rfl
  | succ n ih =>
    intro x
    rw [ds, ih, ds_sum]
    congr 1
    · rw [Nat.testBit_zero]
      have := Nat.mod_two_eq_zero_or_one x
      by_cases h : x % 2 = 1
      · rw [h]; simp
      · have : x % 2 = 0 := by omega
        rw [this]; simp
    · apply sumT_congr
      intro j _
      rw [Nat.testBit_succ]
theorem dmx_2 : ∀ n x, dmx 2 1 n x := by
  intro n
  induction n with
  | zero => intro x; trivial
  | succ n ih => intro x; exact ⟨by omega, ih _⟩
/-- four bits by four: pairs into the lower half -/
theorem qr_s : ∀ n Y, dmx 16 4 (2 * n) Y → ds 256 n ((Y + Y / 16) &&& mkM 4 n) = ds 16 (2 * n) Y ∧ dmx 256 8 n ((Y + Y / 16) &&& mkM 4 n) := by
  intro n
  induction n with
  | zero => intro Y _; exact ⟨rfl, trivial⟩
  | succ n ih =>
    intro Y h
    rw [show 2 * (n + 1) = 2 * n + 1 + 1 by omega] at h ⊢
    obtain ⟨h1, h2, h3⟩ := h
    have a := and_M_mod 4 n (Y + Y / 16) (by decide)
    have b := and_M_div 4 n (Y + Y / 16) (by decide)
    have p8 : 2 ^ (2 * 4) = 256 := rfl
    have p4 : 2 ^ 4 = 16 := rfl
    rw [p8, p4] at a
    rw [p8] at b
    have third : (Y / 16 / 16) % 16 ≤ 4 ∨ n = 0 := by
      cases n with
      | zero => exact Or.inr rfl
      | succ n => exact Or.inl h3.1
    have c : (Y + Y / 16) / 256 = Y / 16 / 16 + Y / 16 / 16 / 16 ∨ n = 0 := by
      rcases third with q | q
      · left; omega
      · exact Or.inr q
    have e : (Y + Y / 16) / 256 &&& mkM 4 n = (Y / 16 / 16 + Y / 16 / 16 / 16) &&& mkM 4 n := by
      rcases c with q | q
      · rw [q]
      · subst q; simp [mkM]
    rw [e] at b
    have i := ih (Y / 16 / 16) h3
    have am : (Y + Y / 16) % 16 = Y % 16 + Y / 16 % 16 := by rw [Nat.add_mod]; exact Nat.mod_eq_of_lt (by omega)
    rw [am] at a
    constructor
    · rw [ds, a, b, i.1, ds, ds, Nat.add_assoc]
    · exact ⟨by rw [a]; omega, by rw [b]; exact i.2⟩
theorem fin_s (y : Nat) (hy : y < 2 ^ 64) (h : dmx 256 8 8 y) : ((y + y / 256) + (y + y / 256) / 65536 + ((y + y / 256) + (y + y / 256) / 65536) / 4294967296) % 128 = ds 256 8 y := by
  obtain ⟨h0, h1, h2, h3, h4, h5, h6, h7, _⟩ := h
  simp only [ds]
  have e0 := Nat.div_add_mod y 256
  have e1 := Nat.div_add_mod (y / 256) 256
  have e2 := Nat.div_add_mod (y / 256 / 256) 256
  have e3 := Nat.div_add_mod (y / 256 / 256 / 256) 256
  have e4 := Nat.div_add_mod (y / 256 / 256 / 256 / 256) 256
  have e5 := Nat.div_add_mod (y / 256 / 256 / 256 / 256 / 256) 256
  have e6 := Nat.div_add_mod (y / 256 / 256 / 256 / 256 / 256 / 256) 256
  have e7 := Nat.div_add_mod (y / 256 / 256 / 256 / 256 / 256 / 256 / 256) 256
  have e8 : y / 256 / 256 / 256 / 256 / 256 / 256 / 256 / 256 = 0 := by omega
  rw [e8] at e7
  generalize y / 256 / 256 / 256 / 256 / 256 / 256 / 256 % 256 = c7 at *
  generalize y / 256 / 256 / 256 / 256 / 256 / 256 % 256 = c6 at *
  generalize y / 256 / 256 / 256 / 256 / 256 % 256 = c5 at *
  generalize y / 256 / 256 / 256 / 256 % 256 = c4 at *
  generalize y / 256 / 256 / 256 % 256 = c3 at *
  generalize y / 256 / 256 % 256 = c2 at *
  generalize y / 256 % 256 = c1 at *
  generalize y % 256 = c0 at *
  generalize y / 256 / 256 / 256 / 256 / 256 / 256 / 256 = Y7 at *
  generalize y / 256 / 256 / 256 / 256 / 256 / 256 = Y6 at *
  generalize y / 256 / 256 / 256 / 256 / 256 = Y5 at *
  generalize y / 256 / 256 / 256 / 256 = Y4 at *
  generalize y / 256 / 256 / 256 = Y3 at *
  generalize y / 256 / 256 = Y2 at *
  generalize y / 256 = Y1 at *
  have A : (y + Y1) / 65536 = Y2 + Y3 := by omega
  have B : (y + Y1 + (Y2 + Y3)) / 4294967296 = Y4 + Y5 + Y6 + Y7 := by omega
  rw [A, B]
  omega
