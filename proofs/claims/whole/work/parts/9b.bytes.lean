/-! bytes, and names packed in one number -/
section By
def sB (x : Nat) : Int := if x < 128 then (x : Int) else (x : Int) - 256
theorem sB_lo (x : Nat) (h : x < 256) : -128 ≤ sB x ∧ sB x < 128 := by unfold sB; split <;> omega
theorem and255 (x : Int32) : x &&& 255 = iZ ((x.toBitVec.toNat % 256 : Nat) : Int) := by
  rw [← Int32.toBitVec_inj, Int32.toBitVec_and]
  apply BitVec.eq_of_toNat_eq
  rw [BitVec.toNat_and]
  show x.toBitVec.toNat &&& 255 = (BitVec.ofInt 32 ((x.toBitVec.toNat % 256 : Nat) : Int)).toNat
  rw [BitVec.ofInt_natCast, BitVec.toNat_ofNat, show (255 : Nat) = 2 ^ 8 - 1 from rfl, Nat.and_two_pow_sub_one_eq_mod]
  omega
theorem byte_s (x : Int32) : ∃ b : Nat, b < 256 ∧ x &&& 255 = iZ (b : Int) ∧ x.toInt8.toInt32.toInt8.toInt32 = iZ (sB b) := by
  refine ⟨x.toBitVec.toNat % 256, Nat.mod_lt _ (by omega), and255 x, ?_⟩
  have hb : x.toBitVec.toNat < 4294967296 := x.toBitVec.isLt
  have ht : x.toInt = if 2 * x.toBitVec.toNat < 2 ^ 32 then (x.toBitVec.toNat : Int) else (x.toBitVec.toNat : Int) - (2 ^ 32 : Nat) := BitVec.toInt_eq_toNat_cond x.toBitVec
  have hs := sB_lo (x.toBitVec.toNat % 256) (Nat.mod_lt _ (by omega))
  rw [Int8.toInt8_toInt32, ← Int32.toInt_inj, Int8.toInt_toInt32, Int32.toInt_toInt8, iZ_toInt (by omega) (by omega), Int.bmod_def]
  unfold sB
  split at ht <;> split <;> split <;> omega
def pkN (a b c d : Nat) : Nat := a + 256 * b + 65536 * c + 16777216 * d
theorem sh_amt8 : ∀ k : Nat, k < 4 → (((8 : Int32) * iZ (k : Int)) &&& 31).toBitVec.smod 32 = BitVec.ofNat 32 (8 * k) := by decide +kernel
theorem iZ_bv (n : Nat) : (iZ (n : Int)).toBitVec = BitVec.ofNat 32 n := by
  show BitVec.ofInt 32 (n : Int) = _
  rw [BitVec.ofInt_natCast]
theorem shr8 {P k : Nat} (hP : P < 2147483648) (hk : k < 4) : (iZ (P : Int) >>> (((8 : Int32) * iZ (k : Int)) &&& 31)) &&& 255 = iZ ((P / 2 ^ (8 * k) % 256 : Nat) : Int) := by
  rw [and255]
  have e : (iZ (P : Int) >>> (((8 : Int32) * iZ (k : Int)) &&& 31)).toBitVec.toNat = P / 2 ^ (8 * k) := by
    have h1 : (iZ (P : Int) >>> (((8 : Int32) * iZ (k : Int)) &&& 31)).toBitVec = (iZ (P : Int)).toBitVec.sshiftRight' ((((8 : Int32) * iZ (k : Int)) &&& 31).toBitVec.smod 32) := rfl
    rw [h1, BitVec.sshiftRight_eq', sh_amt8 k hk, iZ_bv, BitVec.sshiftRight_eq_of_msb_false, BitVec.toNat_ushiftRight, BitVec.toNat_ofNat, BitVec.toNat_ofNat, Nat.shiftRight_eq_div_pow]
    · rw [Nat.mod_eq_of_lt (show P < 2 ^ 32 by omega), Nat.mod_eq_of_lt (show 8 * k < 2 ^ 32 by omega)]
    · rw [BitVec.msb_eq_false_iff_two_mul_lt, BitVec.toNat_ofNat]
      omega
  rw [e]
theorem or8 {P l k : Nat} (hk : k < 4) (hP : P < 2 ^ (8 * k)) (hl : l < 128) : iZ (P : Int) ||| (iZ (l : Int) <<< (((8 : Int32) * iZ (k : Int)) &&& 31)) = iZ ((P + l * 2 ^ (8 * k) : Nat) : Int) := by
  rw [← Int32.toBitVec_inj, Int32.toBitVec_or, iZ_bv, iZ_bv]
  have h1 : (iZ (l : Int) <<< (((8 : Int32) * iZ (k : Int)) &&& 31)).toBitVec = (iZ (l : Int)).toBitVec <<< ((((8 : Int32) * iZ (k : Int)) &&& 31).toBitVec.smod 32) := rfl
  have h2 : 2 ^ (8 * k) ≤ 16777216 := by
    have : k = 0 ∨ k = 1 ∨ k = 2 ∨ k = 3 := by omega
    rcases this with rfl | rfl | rfl | rfl <;> decide
  have h3 : l * 2 ^ (8 * k) ≤ 127 * 16777216 := Nat.mul_le_mul (by omega) h2
  rw [h1, BitVec.shiftLeft_eq', sh_amt8 k hk, iZ_bv]
  apply BitVec.eq_of_toNat_eq
  rw [BitVec.toNat_or, BitVec.toNat_shiftLeft, BitVec.toNat_ofNat, BitVec.toNat_ofNat, BitVec.toNat_ofNat, BitVec.toNat_ofNat, Nat.mod_eq_of_lt (show 8 * k < 2 ^ 32 by omega), Nat.mod_eq_of_lt (show l < 2 ^ 32 by omega), Nat.mod_eq_of_lt (show P < 2 ^ 32 by omega), Nat.shiftLeft_eq, Nat.mod_eq_of_lt (show l * 2 ^ (8 * k) < 2 ^ 32 by omega), Nat.mod_eq_of_lt (show P + l * 2 ^ (8 * k) < 2 ^ 32 by omega), Nat.or_comm, ← Nat.shiftLeft_eq, ← Nat.shiftLeft_add_eq_or_of_lt hP, Nat.add_comm]
theorem pk_get {a b c d : Nat} (ha : a < 128) (hb : b < 128) (hc : c < 128) (hd : d < 128) : pkN a b c d < 2147483648 ∧ pkN a b c d / 2 ^ (8 * 0) % 256 = a ∧ pkN a b c d / 2 ^ (8 * 1) % 256 = b ∧ pkN a b c d / 2 ^ (8 * 2) % 256 = c ∧ pkN a b c d / 2 ^ (8 * 3) % 256 = d := by
  unfold pkN
  refine ⟨by omega, ?_, ?_, ?_, ?_⟩
  · show _ / 1 % 256 = _
    omega
  · show _ / 256 % 256 = _
    omega
  · show _ / 65536 % 256 = _
    omega
  · show _ / 16777216 % 256 = _
    omega
/-- the names: four letters a sign, 0 behind the last -/
def NmOK (N : Nat → Nat) (n : Nat) : Prop := ∀ s, s < n → (∀ k, k < 4 → N (4 * s + k) = 0 ∨ (97 ≤ N (4 * s + k) ∧ N (4 * s + k) ≤ 122)) ∧ ∀ k, k < 3 → N (4 * s + k) = 0 → N (4 * s + (k + 1)) = 0
def nmW (N : Nat → Nat) (s : Nat) : Nat := pkN (N (4 * s)) (N (4 * s + 1)) (N (4 * s + 2)) (N (4 * s + 3))
def NmC (σ : MsSt) (a : Nat) (N : Nat → Nat) (n : Nat) : Prop := ∀ s, s < n → ms_i σ (a + 2 + 3 * s) 2 = iZ (nmW N s : Int)
def NmM (σ : MsSt) (a : Nat) (N : Nat → Nat) (n : Nat) : Prop := ∀ s k, s < n → k < 4 → ms_i σ a (4 * s + k) = iZ (N (4 * s + k) : Int)
theorem NmOK.lt {N : Nat → Nat} {n s k : Nat} (h : NmOK N n) (hs : s < n) (hk : k < 4) : N (4 * s + k) < 128 := by
  rcases (h s hs).1 k hk with g | g <;> omega
theorem NmOK.get {N : Nat → Nat} {n s k : Nat} (h : NmOK N n) (hs : s < n) (hk : k < 4) : nmW N s < 2147483648 ∧ nmW N s / 2 ^ (8 * k) % 256 = N (4 * s + k) := by
  obtain ⟨g1, g2, g3, g4, g5⟩ := pk_get (h.lt hs (k := 0) (by omega)) (h.lt hs (k := 1) (by omega)) (h.lt hs (k := 2) (by omega)) (h.lt hs (k := 3) (by omega))
  refine ⟨g1, ?_⟩
  have : k = 0 ∨ k = 1 ∨ k = 2 ∨ k = 3 := by omega
  rcases this with rfl | rfl | rfl | rfl
  · exact g2
  · exact g3
  · exact g4
  · exact g5
theorem c_letterAt {σ : MsSt} {a s : Nat} {N : Nat → Nat} {n : Nat} (hC : NmC σ a N n) (hN : NmOK N n) (hs : s < n) {k : Int} (k0 : 0 ≤ k) (k2 : k < 2147483648) : f_X7_letterAt σ (a + 2 + 3 * s) (iZ k) = some (if k < 4 then (if N (4 * s + k.toNat) = 0 then iZ (-1) else iZ (N (4 * s + k.toNat) : Int)) else iZ (-1)) := by
  unfold f_X7_letterAt
  rw [iltF rfl i0 (by omega) (by omega) (by omega)]
  by_cases q : k < 4
  · obtain ⟨j, rfl⟩ : ∃ j : Nat, k = (j : Int) := ⟨k.toNat, by omega⟩
    have hj : j < 4 := by omega
    obtain ⟨g1, g2⟩ := hN.get hs hj
    have hl := hN.lt hs hj
    have e : (ms_i σ (a + 2 + 3 * s) 2 >>> (((8 : Int32) * iZ (j : Int)) &&& 31)) &&& 255 = iZ (N (4 * s + j) : Int) := by rw [hC s hs, shr8 g1 hj, g2]
    rw [iltT rfl i4 (by omega) q (by omega), if_pos q, e]
    show (if iZ (N (4 * s + j) : Int) = 0 then _ else _) = some (if N (4 * s + j) = 0 then _ else _)
    by_cases z : N (4 * s + j) = 0
    · rw [ieqT rfl i0 (by omega), if_pos z]
      rfl
    · rw [ieqF rfl i0 (by omega) (by omega) (by omega) (by omega) (by omega), if_neg z]
      rfl
  · rw [iltF rfl i4 (by omega) (by omega) (by omega), if_neg q]
    rfl
end By
