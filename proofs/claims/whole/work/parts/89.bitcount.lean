/-! the JDK's bitCount -/
def tn (x : Int64) : Nat := x.toBitVec.toNat
theorem tn_lt (x : Int64) : tn x < 2 ^ 64 := x.toBitVec.isLt
theorem tn_and (a b : Int64) : tn (a &&& b) = tn a &&& tn b := by unfold tn; rw [Int64.toBitVec_and, BitVec.toNat_and]
def lsr (a : Int64) (n : Nat) : Int64 := (a.toUInt64 >>> ((nI n).toInt64.toUInt64 &&& Int64.toUInt64 63)).toInt64
theorem tn_lsr (a : Int64) {n : Nat} (hn : n < 64) : tn (lsr a n) = tn a / 2 ^ n := by
  unfold tn lsr
  show (a.toBitVec >>> (((nI n).toInt64.toUInt64 &&& Int64.toUInt64 63).toBitVec % 64).toNat).toNat = _
  rw [ls_u n hn, BitVec.toNat_ushiftRight, Nat.shiftRight_eq_div_pow]
theorem tn_add {a b : Int64} (h : tn a + tn b < 2 ^ 64) : tn (a + b) = tn a + tn b := by
  unfold tn at *
  rw [Int64.toBitVec_add, BitVec.toNat_add]
  exact Nat.mod_eq_of_lt h
theorem tn_sub {a b : Int64} (h : tn b ≤ tn a) : tn (a - b) = tn a - tn b := by
  unfold tn at *
  rw [Int64.toBitVec_sub, BitVec.toNat_sub]
  have h1 := a.toBitVec.isLt
  have h2 := b.toBitVec.isLt
  rw [show 2 ^ 64 - b.toBitVec.toNat + a.toBitVec.toNat = 2 ^ 64 + (a.toBitVec.toNat - b.toBitVec.toNat) by omega, Nat.add_mod_left]
  exact Nat.mod_eq_of_lt (by omega)
theorem c_m1 : tn 6148914691236517205 = mkM 1 32 := by decide +kernel
theorem c_m2 : tn 3689348814741910323 = mkM 2 16 := by decide +kernel
theorem c_m4 : tn 1085102592571150095 = mkM 4 8 := by decide +kernel
/-- how many of 64 -/
def cnt (f : Nat → Bool) : Nat := sumT (fun a => if f a = true then 1 else 0) 64
theorem cnt_le (f : Nat → Bool) : cnt f ≤ 64 := sumT_le1 _ (fun j => by split <;> omega) 64
theorem cnt_congr {f g : Nat → Bool} (h : ∀ a, a < 64 → f a = g a) : cnt f = cnt g := sumT_congr 64 (fun j hj => by simp only [h j hj])
theorem dmx_lt (B b : Nat) (hb : b < B) : ∀ n y, dmx B b n y → y < B ^ n → y * (B - 1) ≤ b * (B ^ n - 1) := by
  intro n
  induction n with
  | zero => intro y _ hy; have : y = 0 := by simpa using hy
            subst this; simp
  | succ n ih =>
    intro y h hy
    have hy' : y / B < B ^ n := by
      apply Nat.div_lt_of_lt_mul
      rw [Nat.pow_succ, Nat.mul_comm] at hy; exact hy
    have i := ih (y / B) h.2 hy'
    have d := Nat.div_add_mod y B
    have p : 0 < B ^ n := Nat.pow_pos (by omega)
    have e1 : y * (B - 1) = B * (y / B * (B - 1)) + y % B * (B - 1) := by
      rw [← Nat.mul_assoc, ← Nat.add_mul, d]
    have e2 : b * (B ^ (n + 1) - 1) = B * (b * (B ^ n - 1)) + b * (B - 1) := by
      have q1 : B ^ (n + 1) - 1 = B * (B ^ n - 1) + (B - 1) := by
        rw [Nat.pow_succ, Nat.mul_comm, Nat.mul_sub, Nat.mul_one]
        have : B ≤ B * B ^ n := Nat.le_mul_of_pos_right _ p
        omega
      rw [q1, Nat.mul_add]
      congr 1
      rw [Nat.mul_left_comm]
    rw [e1, e2]
    exact Nat.add_le_add (Nat.mul_le_mul_left _ i) (Nat.mul_le_mul_right _ h.1)
theorem l_i32 (y : Int64) : y.toInt32.toBitVec.toNat = tn y % 2 ^ 32 := by
  have h : y.toInt32.toBitVec = y.toBitVec.setWidth 32 := by
    rw [Int64.toBitVec_toInt32]
    apply BitVec.eq_of_getLsbD_eq
    intro i hi
    rw [BitVec.getLsbD_signExtend, BitVec.getLsbD_setWidth]
    simp only [hi, decide_true, Bool.true_and]
    rw [if_pos (by omega)]
  rw [h, BitVec.toNat_setWidth]
  rfl
theorem l_ret (y : Int64) : y.toInt32 &&& nI 127 = nI (tn y % 128) := by
  rw [pk_and _ (m := nI 127) 7 (by decide), l_i32]
  congr 1
  exact Nat.mod_mod_of_dvd _ (by decide)
theorem cJ_bits (d : Nat) (z : mm_Z) (F : Nat → Nat → Value) (I : Nat → Nat → Int32) (L : Nat → Nat → Int64) (x : Int64) : mm_E d mJ13_bitCount_95d88 0 [.long x, uu] [] (z, F, I, L) = some (some (.int (nI (cnt (lb x)))), (z, F, I, L)) := by
  have X := tn_lt x
  -- 1
  have o1 : tn (lsr x 1 &&& 6148914691236517205) = (tn x / 2 ^ 1) &&& mkM 1 32 := by rw [tn_and, tn_lsr x (by decide), c_m1]
  have q1 := hv_eq 1 (by decide) 32 (tn x) X
  have s1 : tn (x - (lsr x 1 &&& 6148914691236517205)) = hv 1 32 (tn x) := by
    rw [tn_sub (by rw [o1]; omega), o1]
    unfold hv
    omega
  have l1 : hv 1 32 (tn x) < 2 ^ 64 := by rw [← s1]; exact tn_lt _
  have d1 := hv_ds 1 (by decide) 32 (tn x)
  have m1 := hv_dmx 1 1 (by decide) 32 (tn x) (dmx_2 _ _)
  generalize hx1 : x - (lsr x 1 &&& 6148914691236517205) = x1 at *
  rw [← s1] at d1 m1 l1
  -- 2
  have q2 := hv_eq 2 (by decide) 16 (tn x1) l1
  have s2 : tn ((x1 &&& 3689348814741910323) + (lsr x1 2 &&& 3689348814741910323)) = hv 2 16 (tn x1) := by
    have o2 : tn (lsr x1 2 &&& 3689348814741910323) = (tn x1 / 2 ^ 2) &&& mkM 2 16 := by rw [tn_and, tn_lsr x1 (by decide), c_m2]
    have o3 : tn (x1 &&& 3689348814741910323) = tn x1 &&& mkM 2 16 := by rw [tn_and, c_m2]
    rw [tn_add (by rw [o2, o3]; omega), o2, o3]
    rfl
  have l2 : hv 2 16 (tn x1) < 2 ^ 64 := by rw [← s2]; exact tn_lt _
  have d2 := hv_ds 2 (by decide) 16 (tn x1)
  have m2 := hv_dmx 2 2 (by decide) 16 (tn x1) m1
  generalize hx2 : (x1 &&& 3689348814741910323) + (lsr x1 2 &&& 3689348814741910323) = x2 at *
  rw [← s2] at d2 m2 l2
  -- 3
  have b2 := dmx_lt 16 4 (by decide) 16 (tn x2) m2 l2
  have s3 : tn ((x2 + lsr x2 4) &&& 1085102592571150095) = (tn x2 + tn x2 / 16) &&& mkM 4 8 := by
    have o : tn (lsr x2 4) = tn x2 / 16 := tn_lsr x2 (by decide)
    rw [tn_and, tn_add (by rw [o]; omega), o, c_m4]
  obtain ⟨d3, m3⟩ := qr_s 8 (tn x2) m2
  rw [← s3] at d3 m3
  generalize hx3 : (x2 + lsr x2 4) &&& 1085102592571150095 = x3 at *
  have l3 := tn_lt x3
  have b3 := dmx_lt 256 8 (by decide) 8 (tn x3) m3 l3
  -- 4 to 6
  have s4 : tn (x3 + lsr x3 8) = tn x3 + tn x3 / 256 := by
    have o : tn (lsr x3 8) = tn x3 / 256 := tn_lsr x3 (by decide)
    rw [tn_add (by rw [o]; omega), o]
  generalize hx4 : x3 + lsr x3 8 = x4 at *
  have s5 : tn (x4 + lsr x4 16) = tn x4 + tn x4 / 65536 := by
    have o : tn (lsr x4 16) = tn x4 / 65536 := tn_lsr x4 (by decide)
    rw [tn_add (by rw [o]; omega), o]
  generalize hx5 : x4 + lsr x4 16 = x5 at *
  have s6 : tn (x5 + lsr x5 32) = tn x5 + tn x5 / 4294967296 := by
    have o : tn (lsr x5 32) = tn x5 / 4294967296 := tn_lsr x5 (by decide)
    rw [tn_add (by rw [o]; omega), o]
  have fs := fin_s (tn x3) l3 m3
  rw [← s4, ← s5, ← s6] at fs
  have bits : ds 2 64 (tn x) = cnt (lb x) := by
    rw [ds_bits]
    apply sumT_congr
    intro j _
    unfold lb tn
    rw [BitVec.testBit_toNat]
  have e1 : 2 ^ (2 * 1) = 2 ^ 2 := rfl
  have e2 : 2 ^ (2 * 2) = 16 := rfl
  rw [e1] at d1
  rw [e2] at d2
  have tot : ds 256 8 (tn x3) = cnt (lb x) := by
    rw [d3, ← bits]
    exact d2.trans d1
  have ret : (x5 + lsr x5 32).toInt32 &&& nI 127 = nI (cnt (lb x)) := by rw [l_ret, fs, tot]
  rw [← ret, ← hx5, ← hx4, ← hx3, ← hx2, ← hx1]
  simp (disch := first | assumption | exact bI_or _ | exact zOK_O hz (by decide) (by decide) rfl | exact zOK_T hz (by decide) (by decide) rfl | (refine ix (zOK_l hz (by decide) (by decide) rfl) ?_; omega) | decide | omega) only [eJ13_bitCount_95d88_0, eJ13_bitCount_95d88_1, eJ13_bitCount_95d88_2, eJ13_bitCount_95d88_3, eJ13_bitCount_95d88_4, eJ13_bitCount_95d88_7, eJ13_bitCount_95d88_8, eJ13_bitCount_95d88_9, eJ13_bitCount_95d88_10, eJ13_bitCount_95d88_11, eJ13_bitCount_95d88_14, eJ13_bitCount_95d88_15, eJ13_bitCount_95d88_16, eJ13_bitCount_95d88_17, eJ13_bitCount_95d88_18, eJ13_bitCount_95d88_21, eJ13_bitCount_95d88_22, eJ13_bitCount_95d88_23, eJ13_bitCount_95d88_24, eJ13_bitCount_95d88_25, eJ13_bitCount_95d88_26, eJ13_bitCount_95d88_27, eJ13_bitCount_95d88_28, eJ13_bitCount_95d88_29, eJ13_bitCount_95d88_32, eJ13_bitCount_95d88_33, eJ13_bitCount_95d88_34, eJ13_bitCount_95d88_35, eJ13_bitCount_95d88_36, eJ13_bitCount_95d88_38, eJ13_bitCount_95d88_39, eJ13_bitCount_95d88_40, eJ13_bitCount_95d88_41, eJ13_bitCount_95d88_42, eJ13_bitCount_95d88_43, eJ13_bitCount_95d88_45, eJ13_bitCount_95d88_46, eJ13_bitCount_95d88_47, eJ13_bitCount_95d88_48, eJ13_bitCount_95d88_49, eJ13_bitCount_95d88_50, eJ13_bitCount_95d88_52, eJ13_bitCount_95d88_53, eJ13_bitCount_95d88_54, eJ13_bitCount_95d88_55, eJ13_bitCount_95d88_56, eJ13_bitCount_95d88_57, eJ13_bitCount_95d88_59, eJ13_bitCount_95d88_60]
  rfl
