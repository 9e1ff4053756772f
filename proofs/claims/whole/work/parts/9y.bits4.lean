/-! the system's count of bits -/
section Bi
variable {σ : MsSt}
theorem sh1 (l : Int64) : ((l.toUInt64 >>> ((1 : Int32).toInt64.toUInt64 &&& Int64.toUInt64 63)).toInt64).toBitVec.toNat = l.toBitVec.toNat / 2 := by
  show (l.toBitVec >>> (1 : Nat)).toNat = _
  rw [BitVec.toNat_ushiftRight, Nat.shiftRight_eq_div_pow]
theorem sh2 (l : Int64) : ((l.toUInt64 >>> ((2 : Int32).toInt64.toUInt64 &&& Int64.toUInt64 63)).toInt64).toBitVec.toNat = l.toBitVec.toNat / 4 := by
  show (l.toBitVec >>> (2 : Nat)).toNat = _
  rw [BitVec.toNat_ushiftRight, Nat.shiftRight_eq_div_pow]
theorem sh4 (l : Int64) : ((l.toUInt64 >>> ((4 : Int32).toInt64.toUInt64 &&& Int64.toUInt64 63)).toInt64).toBitVec.toNat = l.toBitVec.toNat / 16 := by
  show (l.toBitVec >>> (4 : Nat)).toNat = _
  rw [BitVec.toNat_ushiftRight, Nat.shiftRight_eq_div_pow]
theorem sh8 (l : Int64) : ((l.toUInt64 >>> ((8 : Int32).toInt64.toUInt64 &&& Int64.toUInt64 63)).toInt64).toBitVec.toNat = l.toBitVec.toNat / 256 := by
  show (l.toBitVec >>> (8 : Nat)).toNat = _
  rw [BitVec.toNat_ushiftRight, Nat.shiftRight_eq_div_pow]
theorem sh16 (l : Int64) : ((l.toUInt64 >>> ((16 : Int32).toInt64.toUInt64 &&& Int64.toUInt64 63)).toInt64).toBitVec.toNat = l.toBitVec.toNat / 65536 := by
  show (l.toBitVec >>> (16 : Nat)).toNat = _
  rw [BitVec.toNat_ushiftRight, Nat.shiftRight_eq_div_pow]
theorem sh32 (l : Int64) : ((l.toUInt64 >>> ((32 : Int32).toInt64.toUInt64 &&& Int64.toUInt64 63)).toInt64).toBitVec.toNat = l.toBitVec.toNat / 4294967296 := by
  show (l.toBitVec >>> (32 : Nat)).toNat = _
  rw [BitVec.toNat_ushiftRight, Nat.shiftRight_eq_div_pow]
theorem ln_and (a b : Int64) : (a &&& b).toBitVec.toNat = a.toBitVec.toNat &&& b.toBitVec.toNat := by
  rw [Int64.toBitVec_and, BitVec.toNat_and]
theorem ln_add (a b : Int64) : (a + b).toBitVec.toNat = (a.toBitVec.toNat + b.toBitVec.toNat) % 18446744073709551616 := by
  rw [Int64.toBitVec_add, BitVec.toNat_add]
theorem ln_sub {a b : Int64} (h : b.toBitVec.toNat ≤ a.toBitVec.toNat) : (a - b).toBitVec.toNat = a.toBitVec.toNat - b.toBitVec.toNat := by
  rw [Int64.toBitVec_sub, BitVec.toNat_sub]
  have h1 := a.toBitVec.isLt
  have h2 := b.toBitVec.isLt
  omega
theorem sum_as (q0 q1 q2 q3 q4 q5 q6 q7 : Nat) : q0 + (q1 + (q2 + (q3 + (q4 + (q5 + (q6 + (q7 + 0))))))) = q0 + q1 + q2 + q3 + q4 + q5 + q6 + q7 := by omega
theorem sum_w (q0 q1 q2 q3 q4 q5 q6 q7 : Nat) : q0 + 256 * (q1 + 256 * (q2 + 256 * (q3 + 256 * (q4 + 256 * (q5 + 256 * (q6 + 256 * (q7 + 256 * 0))))))) = q0 + 256 * q1 + 65536 * q2 + 16777216 * q3 + 4294967296 * q4 + 1099511627776 * q5 + 281474976710656 * q6 + 72057594037927936 * q7 := by omega
theorem bits_s (m : Int64) : f_J13_bitCount_95d88 σ m = some (iZ (cnt (fun i => mb m i) 64 : Int)) := by
  have c1 : (6148914691236517205 : Int64).toBitVec.toNat = mm 85 8 := by decide +kernel
  have c2 : (3689348814741910323 : Int64).toBitVec.toNat = mm 51 8 := by decide +kernel
  have c3 : (1085102592571150095 : Int64).toBitVec.toNat = mm 15 8 := by decide +kernel
  have k1 : mm 51 8 = 3689348814741910323 := by decide +kernel
  have hX := m.toBitVec.isLt
  obtain ⟨X, eX⟩ : ∃ X, X = m.toBitVec.toNat := ⟨_, rfl⟩
  obtain ⟨v1, h1⟩ : ∃ v1 : Int64, v1 = (m - (((m.toUInt64 >>> ((1 : Int32).toInt64.toUInt64 &&& Int64.toUInt64 63)).toInt64) &&& 6148914691236517205)) := ⟨_, rfl⟩
  obtain ⟨v2, h2⟩ : ∃ v2 : Int64, v2 = ((v1 &&& 3689348814741910323) + (((v1.toUInt64 >>> ((2 : Int32).toInt64.toUInt64 &&& Int64.toUInt64 63)).toInt64) &&& 3689348814741910323)) := ⟨_, rfl⟩
  obtain ⟨v3, h3⟩ : ∃ v3 : Int64, v3 = ((v2 + ((v2.toUInt64 >>> ((4 : Int32).toInt64.toUInt64 &&& Int64.toUInt64 63)).toInt64)) &&& 1085102592571150095) := ⟨_, rfl⟩
  obtain ⟨v4, h4⟩ : ∃ v4 : Int64, v4 = (v3 + ((v3.toUInt64 >>> ((8 : Int32).toInt64.toUInt64 &&& Int64.toUInt64 63)).toInt64)) := ⟨_, rfl⟩
  obtain ⟨v5, h5⟩ : ∃ v5 : Int64, v5 = (v4 + ((v4.toUInt64 >>> ((16 : Int32).toInt64.toUInt64 &&& Int64.toUInt64 63)).toInt64)) := ⟨_, rfl⟩
  obtain ⟨v6, h6⟩ : ∃ v6 : Int64, v6 = (v5 + ((v5.toUInt64 >>> ((32 : Int32).toInt64.toUInt64 &&& Int64.toUInt64 63)).toInt64)) := ⟨_, rfl⟩
  have n1 : v1.toBitVec.toNat = V1 8 X := by
    have l1 : X / 2 &&& mm 85 8 ≤ X / 2 := Nat.and_le_left
    rw [h1, ln_sub, ln_and, sh1, c1, ← eX]
    · rfl
    · rw [ln_and, sh1, c1, ← eX]
      omega
  have n2 : v2.toBitVec.toNat = V2 8 (V1 8 X) := by
    have l1 : V1 8 X &&& mm 51 8 ≤ mm 51 8 := Nat.and_le_right
    have l2 : V1 8 X / 4 &&& mm 51 8 ≤ mm 51 8 := Nat.and_le_right
    rw [h2, ln_add, ln_and, ln_and, sh2, c2, n1]
    exact Nat.mod_eq_of_lt (by omega)
  have n2b : V2 8 (V1 8 X) ≤ 2 * 3689348814741910323 := by
    have l1 : V1 8 X &&& mm 51 8 ≤ mm 51 8 := Nat.and_le_right
    have l2 : V1 8 X / 4 &&& mm 51 8 ≤ mm 51 8 := Nat.and_le_right
    show (V1 8 X &&& mm 51 8) + (V1 8 X / 4 &&& mm 51 8) ≤ _
    omega
  have n3 : v3.toBitVec.toNat = FF 8 X := by
    rw [← cc_s 8 X (by rw [eX]; exact hX), h3, ln_and, ln_add, sh4, c3, n2, Nat.mod_eq_of_lt (by omega)]
    rfl
  have n4 : v4.toBitVec.toNat = (FF 8 X + FF 8 X / 256) % 18446744073709551616 := by rw [h4, ln_add, sh8, n3]
  have n5 : v5.toBitVec.toNat = (v4.toBitVec.toNat + v4.toBitVec.toNat / 65536) % 18446744073709551616 := by rw [h5, ln_add, sh16]
  have n6 : v6.toBitVec.toNat = (v5.toBitVec.toNat + v5.toBitVec.toNat / 4294967296) % 18446744073709551616 := by rw [h6, ln_add, sh32]
  obtain ⟨q0, g0⟩ : ∃ q, q = pc (X % 256) := ⟨_, rfl⟩
  obtain ⟨q1, g1⟩ : ∃ q, q = pc (X / 256 % 256) := ⟨_, rfl⟩
  obtain ⟨q2, g2⟩ : ∃ q, q = pc (X / 256 / 256 % 256) := ⟨_, rfl⟩
  obtain ⟨q3, g3⟩ : ∃ q, q = pc (X / 256 / 256 / 256 % 256) := ⟨_, rfl⟩
  obtain ⟨q4, g4⟩ : ∃ q, q = pc (X / 256 / 256 / 256 / 256 % 256) := ⟨_, rfl⟩
  obtain ⟨q5, g5⟩ : ∃ q, q = pc (X / 256 / 256 / 256 / 256 / 256 % 256) := ⟨_, rfl⟩
  obtain ⟨q6, g6⟩ : ∃ q, q = pc (X / 256 / 256 / 256 / 256 / 256 / 256 % 256) := ⟨_, rfl⟩
  obtain ⟨q7, g7⟩ : ∃ q, q = pc (X / 256 / 256 / 256 / 256 / 256 / 256 / 256 % 256) := ⟨_, rfl⟩
  have eF : FF 8 X = q0 + 256 * (q1 + 256 * (q2 + 256 * (q3 + 256 * (q4 + 256 * (q5 + 256 * (q6 + 256 * (q7 + 256 * 0))))))) := by
    rw [g0, g1, g2, g3, g4, g5, g6, g7]
    rfl
  have eC : cnt (fun i => X.testBit i) 64 = q0 + (q1 + (q2 + (q3 + (q4 + (q5 + (q6 + (q7 + 0))))))) := by
    rw [show 64 = 8 + 56 from rfl, cb_succ 56, ← g0, show 56 = 8 + 48 from rfl, cb_succ 48, ← g1, show 48 = 8 + 40 from rfl, cb_succ 40, ← g2, show 40 = 8 + 32 from rfl, cb_succ 32, ← g3, show 32 = 8 + 24 from rfl, cb_succ 24, ← g4, show 24 = 8 + 16 from rfl, cb_succ 16, ← g5, show 16 = 8 + 8 from rfl, cb_succ 8, ← g6, show cnt (fun i => (X / 256 / 256 / 256 / 256 / 256 / 256 / 256).testBit i) 8 = cnt (fun i => (X / 256 / 256 / 256 / 256 / 256 / 256 / 256).testBit i) (8 + 0) from rfl, cb_succ 0, ← g7]
    rfl
  have hm : ∀ Y, Y % 256 < 256 := fun Y => Nat.mod_lt _ (by omega)
  have fin := sum8 (q0 := q0) (q1 := q1) (q2 := q2) (q3 := q3) (q4 := q4) (q5 := q5) (q6 := q6) (q7 := q7) (W := FF 8 X) (by rw [g0]; exact pc_le _ (hm _)) (by rw [g1]; exact pc_le _ (hm _)) (by rw [g2]; exact pc_le _ (hm _)) (by rw [g3]; exact pc_le _ (hm _)) (by rw [g4]; exact pc_le _ (hm _)) (by rw [g5]; exact pc_le _ (hm _)) (by rw [g6]; exact pc_le _ (hm _)) (by rw [g7]; exact pc_le _ (hm _)) (eF.trans (sum_w q0 q1 q2 q3 q4 q5 q6 q7)) n4 n5 n6
  have eL : (fun i => mb m i) = fun i => X.testBit i := by
    funext i
    rw [eX]
    rfl
  unfold f_J13_bitCount_95d88
  rw [← h1, nm_s, ← h2, nm_s, ← h3, nm_s, ← h4, nm_s, ← h5, nm_s, ← h6, nm_s, eL, eC, sum_as]
  congr 1
  rw [← Int32.toBitVec_inj, iZ_bv]
  apply BitVec.eq_of_toNat_eq
  have e127 : (127 : Int32).toBitVec.toNat = 2 ^ 7 - 1 := by decide
  have e32 : v6.toInt32.toBitVec.toNat = v6.toBitVec.toNat % 4294967296 := by
    show (v6.toBitVec.signExtend 32).toNat = _
    rw [BitVec.signExtend_eq_setWidth_of_le _ (by omega), BitVec.toNat_setWidth]
  have hl := Nat.mod_lt (v6.toBitVec.toNat % 4294967296) (show 0 < 128 from Nat.zero_lt_succ _)
  rw [fin] at hl
  rw [Int32.toBitVec_and, BitVec.toNat_and, e127, Nat.and_two_pow_sub_one_eq_mod, e32, BitVec.toNat_ofNat]
  rw [show (2 : Nat) ^ 7 = 128 from rfl, fin]
  exact (Nat.mod_eq_of_lt (Nat.lt_of_lt_of_le hl (by decide))).symm
end Bi
