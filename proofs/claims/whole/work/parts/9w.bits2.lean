/-! rows of bits: how many, the first; no branch of the system is here -/
section Bt
variable {σ : MsSt}
def MkIs (m : Int64) (f : Nat → Bool) (n : Nat) : Prop := ∀ d, d < 64 → mb m d = (decide (d < n) && f d)
theorem mk_zero {n : Nat} : MkIs 0 (fun _ => false) n := fun d hd => by rw [mb_zero, Bool.and_false]
theorem mk_nil {f : Nat → Bool} : MkIs 0 f 0 := fun d hd => by rw [mb_zero]; simp
theorem mk_or {m m' : Int64} {f g : Nat → Bool} {n : Nat} (h : MkIs m f n) (h' : MkIs m' g n) : MkIs (m ||| m') (fun i => f i || g i) n := fun d hd => by
  rw [mb_or, h d hd, h' d hd]
  cases decide (d < n) <;> rfl
theorem mk_and {m m' : Int64} {f g : Nat → Bool} {n : Nat} (h : MkIs m f n) (h' : MkIs m' g n) : MkIs (m &&& m') (fun i => f i && g i) n := fun d hd => by
  rw [mb_and, h d hd, h' d hd]
  cases decide (d < n) <;> rfl
theorem mk_set {m : Int64} {f : Nat → Bool} {n : Nat} (h : MkIs m f n) (hn : n < 64) (hf : f n = true) : MkIs (m ||| (1 : Int64) <<< ((iZ (n : Int)).toInt64 &&& 63)) f (n + 1) := fun d hd => by
  rw [mb_or, h d hd, mb_shl hn d hd]
  by_cases q : d = n
  · rw [q, hf]; simp
  · by_cases g : d < n
    · rw [decide_eq_true g, decide_eq_true (show d < n + 1 by omega), decide_eq_false q, Bool.or_false]
    · rw [decide_eq_false g, decide_eq_false (show ¬ d < n + 1 by omega), decide_eq_false q]; rfl
theorem mk_skip {m : Int64} {f : Nat → Bool} {n : Nat} (h : MkIs m f n) (hf : f n = false) : MkIs m f (n + 1) := fun d hd => by
  rw [h d hd]
  by_cases q : d = n
  · rw [q, hf, Bool.and_false, Bool.and_false]
  · by_cases g : d < n
    · rw [decide_eq_true g, decide_eq_true (show d < n + 1 by omega)]
    · rw [decide_eq_false g, decide_eq_false (show ¬ d < n + 1 by omega)]
theorem mk_all {n : Nat} (hn : n ≤ 60) : MkIs (((1 : Int64) <<< ((iZ (n : Int)).toInt64 &&& 63)) - 1) (fun _ => true) n := by
  have key : ∀ n : Nat, n < 61 → ∀ d, d < 64 → mb (((1 : Int64) <<< ((iZ (n : Int)).toInt64 &&& 63)) - 1) d = decide (d < n) := by decide +kernel
  intro d hd
  rw [key n (by omega) d hd, Bool.and_true]
theorem mb_not (x : Int64) {d : Nat} (hd : d < 64) : mb (x ^^^ (-1)) d = !mb x d := by
  have e : (-1 : Int64).toBitVec = BitVec.allOnes 64 := by decide
  unfold mb
  rw [Int64.toBitVec_xor, e, BitVec.getLsbD_xor, BitVec.getLsbD_allOnes, decide_eq_true hd, Bool.xor_true]
theorem mk_not {m : Int64} {f : Nat → Bool} {n : Nat} (h : MkIs m f n) (hn : n ≤ 60) : MkIs ((((1 : Int64) <<< ((iZ (n : Int)).toInt64 &&& 63)) - 1) &&& (m ^^^ (-1))) (fun i => !f i) n := fun d hd => by
  rw [mb_and, mk_all hn d hd, mb_not m hd, h d hd]
  cases decide (d < n) <;> simp
/-! the first bit -/
theorem low_bit {Y p : Nat} (hp : Y.testBit p = true) (hlt : ∀ i, i < p → Y.testBit i = false) (d : Nat) : (Y - 1).testBit d = if d < p then true else if d = p then false else Y.testBit d := by
  have hm : Y % 2 ^ (p + 1) = 2 ^ p := Nat.eq_of_testBit_eq fun i => by
    rw [Nat.testBit_mod_two_pow, Nat.testBit_two_pow]
    by_cases g : i < p
    · rw [hlt i g, Bool.and_false, decide_eq_false (by omega)]
    · by_cases g2 : i = p
      · rw [g2, hp, decide_eq_true (by omega), decide_eq_true rfl]; rfl
      · rw [decide_eq_false (show ¬ i < p + 1 by omega), decide_eq_false (by omega)]; rfl
  have hpos : 0 < 2 ^ p := Nat.two_pow_pos p
  have hlt2 : 2 ^ p - 1 < 2 ^ (p + 1) := by rw [Nat.pow_succ]; omega
  have hY : 2 ^ (p + 1) * (Y / 2 ^ (p + 1)) + 2 ^ p = Y := by
    have := Nat.div_add_mod Y (2 ^ (p + 1))
    rw [hm] at this
    exact this
  have hY1 : Y - 1 = 2 ^ (p + 1) * (Y / 2 ^ (p + 1)) + (2 ^ p - 1) := by
    rw [← Nat.add_sub_assoc hpos, hY]
  by_cases g : d < p + 1
  · have e : (Y - 1).testBit d = ((Y - 1) % 2 ^ (p + 1)).testBit d := by rw [Nat.testBit_mod_two_pow, decide_eq_true g, Bool.true_and]
    rw [e, hY1, Nat.mul_add_mod, Nat.mod_eq_of_lt hlt2, Nat.testBit_two_pow_sub_one]
    by_cases g2 : d < p
    · rw [if_pos g2, decide_eq_true g2]
    · rw [if_neg g2, if_pos (by omega), decide_eq_false g2]
  · have e : ∀ X : Nat, X.testBit d = (X / 2 ^ (p + 1)).testBit (d - (p + 1)) := fun X => by
      rw [Nat.testBit_div_two_pow, Nat.sub_add_cancel (by omega)]
    rw [if_neg (by omega), if_neg (by omega), e (Y - 1), e Y, hY1, Nat.mul_add_div (Nat.two_pow_pos _), Nat.div_eq_of_lt hlt2, Nat.add_zero]
theorem low_mask {y : Int32} {p : Nat} (hp : y.toBitVec.getLsbD p = true) (hlt : ∀ i, i < p → y.toBitVec.getLsbD i = false) : (y ^^^ (-1)) &&& (y - 1) = Int32.ofBitVec (BitVec.ofNat 32 (2 ^ p - 1)) := by
  have hp32 : p < 32 := by
    by_cases g : p < 32
    · exact g
    · rw [BitVec.getLsbD_of_ge _ _ (by omega)] at hp
      cases hp
  have e : (-1 : Int32).toBitVec = BitVec.allOnes 32 := by decide
  have h1 : 1 ≤ y.toBitVec.toNat := by
    by_cases g : y.toBitVec.toNat = 0
    · have : y.toBitVec.toNat.testBit p = true := hp
      rw [g, Nat.zero_testBit] at this
      cases this
    · omega
  have hs : (y - 1).toBitVec.toNat = y.toBitVec.toNat - 1 := by
    rw [Int32.toBitVec_sub, BitVec.toNat_sub]
    have := y.toBitVec.isLt
    have e1 : (1 : Int32).toBitVec.toNat = 1 := by decide
    rw [e1]
    omega
  rw [← Int32.toBitVec_inj, Int32.toBitVec_and, Int32.toBitVec_xor, e]
  apply BitVec.eq_of_getLsbD_eq
  intro d hd
  have hb : (y - 1).toBitVec.getLsbD d = (y.toBitVec.toNat - 1).testBit d := by
    show (y - 1).toBitVec.toNat.testBit d = _
    rw [hs]
  rw [BitVec.getLsbD_and, BitVec.getLsbD_xor, BitVec.getLsbD_allOnes, decide_eq_true hd, Bool.xor_true, hb, low_bit hp hlt]
  show _ = (BitVec.ofNat 32 (2 ^ p - 1)).getLsbD d
  rw [BitVec.getLsbD_ofNat, decide_eq_true hd, Bool.true_and, Nat.testBit_two_pow_sub_one]
  by_cases g : d < p
  · rw [if_pos g, hlt d g, decide_eq_true g]; rfl
  · rw [if_neg g, decide_eq_false g]
    by_cases g2 : d = p
    · rw [if_pos g2, Bool.and_false]
    · rw [if_neg g2]
      show (!y.toBitVec.getLsbD d && y.toBitVec.getLsbD d) = false
      cases y.toBitVec.getLsbD d <;> rfl
theorem ntz_tab : ∀ (p : Nat), p < 32 → (if (0 : Int32) < Int32.ofBitVec (BitVec.ofNat 32 (2 ^ p - 1)) then if (65536 : Int32) < Int32.ofBitVec (BitVec.ofNat 32 (2 ^ p - 1)) then ms_nm (((Int32.ofBitVec (BitVec.ofNat 32 (2 ^ p - 1))).toUInt32 >>> ((16 : Int32).toUInt32 &&& Int32.toUInt32 31)).toInt32 : Int32) fun v1 => f_J6_numberOfTrailingZeros_0f7a4_34 σ v1 (1 + 16) else f_J6_numberOfTrailingZeros_0f7a4_34 σ (Int32.ofBitVec (BitVec.ofNat 32 (2 ^ p - 1))) 1 else some (Int32.ofBitVec (BitVec.ofNat 32 (2 ^ p - 1)) &&& 32)) = some (iZ (p : Int))
  | 0, _ => rfl
  | 1, _ => rfl
  | 2, _ => rfl
  | 3, _ => rfl
  | 4, _ => rfl
  | 5, _ => rfl
  | 6, _ => rfl
  | 7, _ => rfl
  | 8, _ => rfl
  | 9, _ => rfl
  | 10, _ => rfl
  | 11, _ => rfl
  | 12, _ => rfl
  | 13, _ => rfl
  | 14, _ => rfl
  | 15, _ => rfl
  | 16, _ => rfl
  | 17, _ => rfl
  | 18, _ => rfl
  | 19, _ => rfl
  | 20, _ => rfl
  | 21, _ => rfl
  | 22, _ => rfl
  | 23, _ => rfl
  | 24, _ => rfl
  | 25, _ => rfl
  | 26, _ => rfl
  | 27, _ => rfl
  | 28, _ => rfl
  | 29, _ => rfl
  | 30, _ => rfl
  | 31, _ => rfl
  | n + 32, h => absurd h (by omega)
theorem ntz32 {y : Int32} {p : Nat} (hp : y.toBitVec.getLsbD p = true) (hlt : ∀ i, i < p → y.toBitVec.getLsbD i = false) : f_J6_numberOfTrailingZeros_0f7a4 σ y = some (iZ (p : Int)) := by
  have hp32 : p < 32 := by
    by_cases g : p < 32
    · exact g
    · rw [BitVec.getLsbD_of_ge _ _ (by omega)] at hp
      cases hp
  unfold f_J6_numberOfTrailingZeros_0f7a4
  rw [low_mask hp hlt]
  exact ntz_tab p hp32
theorem mbt_lo (m : Int64) {d : Nat} (hd : d < 32) : m.toInt32.toBitVec.getLsbD d = mb m d := by
  show (m.toBitVec.signExtend 32).getLsbD d = _
  rw [BitVec.getLsbD_signExtend]
  unfold mb
  rw [if_pos (by omega), decide_eq_true hd, Bool.true_and]
theorem mbt_hi (m : Int64) {d : Nat} (hd : d < 32) : (((m.toUInt64 >>> ((32 : Int32).toInt64.toUInt64 &&& Int64.toUInt64 63)).toInt64).toInt32).toBitVec.getLsbD d = mb m (d + 32) := by
  rw [mbt_lo _ hd]
  show (m.toBitVec >>> (32 : Nat)).getLsbD d = _
  rw [BitVec.getLsbD_ushiftRight]
  unfold mb
  rw [Nat.add_comm]
theorem ntz64 {m : Int64} {p : Nat} (hp64 : p < 64) (hp : mb m p = true) (hlt : ∀ i, i < p → mb m i = false) : f_J13_numberOfTrailingZeros_95d88 σ m = some (iZ (p : Int)) := by
  unfold f_J13_numberOfTrailingZeros_95d88
  by_cases g : p < 32
  · have h0 : ¬ m.toInt32 = 0 := fun h => by
      have := mbt_lo m g
      rw [hp, h] at this
      revert this
      simp
    rw [if_neg h0, ntz32 (p := p) (by rw [mbt_lo m g]; exact hp) (fun i hi => by rw [mbt_lo m (by omega)]; exact hlt i hi), Option.bind_some]
  · have h0 : m.toInt32 = 0 := by
      rw [← Int32.toBitVec_inj]
      apply BitVec.eq_of_getLsbD_eq
      intro i hi
      rw [mbt_lo m hi, hlt i (by omega)]
      simp
    rw [if_pos h0, ntz32 (p := p - 32) (by rw [mbt_hi m (by omega), Nat.sub_add_cancel (by omega)]; exact hp) (fun i hi => by rw [mbt_hi m (by omega)]; exact hlt _ (by omega)), Option.bind_some, show (32 : Int32) = iZ 32 from rfl, iZ_add]
    congr 2
    omega
end Bt
