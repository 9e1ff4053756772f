/-! how many bits a row has -/
section Bc
variable {σ : MsSt}
def mm (c : Nat) : Nat → Nat
  | 0 => 0
  | k + 1 => c + 256 * mm c k
theorem land256 (u v : Nat) : (u &&& v) = ((u % 256) &&& (v % 256)) + 256 * ((u / 256) &&& (v / 256)) := by
  have h1 : (u &&& v) % 256 = (u % 256) &&& (v % 256) := Nat.eq_of_testBit_eq fun i => by
    rw [show (256 : Nat) = 2 ^ 8 from rfl, Nat.testBit_mod_two_pow, Nat.testBit_and, Nat.testBit_and, Nat.testBit_mod_two_pow, Nat.testBit_mod_two_pow]
    cases decide (i < 8) <;> rfl
  have h2 : (u &&& v) / 256 = (u / 256) &&& (v / 256) := Nat.eq_of_testBit_eq fun i => by
    rw [show (256 : Nat) = 2 ^ 8 from rfl, Nat.testBit_div_two_pow, Nat.testBit_and, Nat.testBit_and, Nat.testBit_div_two_pow, Nat.testBit_div_two_pow]
  have := Nat.div_add_mod (u &&& v) 256
  rw [h1, h2] at this
  omega
theorem land_mm {c : Nat} (hc : c < 256) (u k : Nat) : u &&& mm c (k + 1) = ((u % 256) &&& c) + 256 * ((u / 256) &&& mm c k) := by
  have e1 : mm c (k + 1) % 256 = c := by show (c + 256 * mm c k) % 256 = c; omega
  have e2 : mm c (k + 1) / 256 = mm c k := by show (c + 256 * mm c k) / 256 = mm c k; omega
  rw [land256, e1, e2]
def V1 (k X : Nat) : Nat := X - (X / 2 &&& mm 85 k)
def V2 (k X : Nat) : Nat := (X &&& mm 51 k) + (X / 4 &&& mm 51 k)
def V3 (k X : Nat) : Nat := (X + X / 16) &&& mm 15 k
def t1 (D : Nat) : Nat := D - (D / 2 &&& 85)
def t2 (D : Nat) : Nat := (D &&& 51) + (D / 4 &&& 51)
def t3 (D : Nat) : Nat := (D + D / 16) &&& 15
def pc (D : Nat) : Nat := t3 (t2 (t1 D))
theorem V1_succ (k X : Nat) : V1 (k + 1) X = t1 (X % 256) + 256 * V1 k (X / 256) := by
  have tab : ∀ D, D < 256 → ∀ b, b < 2 → (D / 2 + 128 * b) &&& 85 = D / 2 &&& 85 := by decide +kernel
  have e1 : X / 2 % 256 = X % 256 / 2 + 128 * (X / 256 % 2) := by omega
  have e2 : X / 2 / 256 = X / 256 / 2 := by omega
  have l1 : X % 256 / 2 &&& 85 ≤ X % 256 / 2 := Nat.and_le_left
  have l2 : X / 256 / 2 &&& mm 85 k ≤ X / 256 / 2 := Nat.and_le_left
  unfold V1 t1
  rw [land_mm (by omega), e1, e2, tab _ (by omega) _ (by omega)]
  omega
theorem V2_succ (k X : Nat) : V2 (k + 1) X = t2 (X % 256) + 256 * V2 k (X / 256) := by
  have tab : ∀ D, D < 256 → ∀ b, b < 4 → (D / 4 + 64 * b) &&& 51 = D / 4 &&& 51 := by decide +kernel
  have e1 : X / 4 % 256 = X % 256 / 4 + 64 * (X / 256 % 4) := by omega
  have e2 : X / 4 / 256 = X / 256 / 4 := by omega
  unfold V2 t2
  rw [land_mm (by omega) X, land_mm (by omega) (X / 4), e1, e2, tab _ (by omega) _ (by omega)]
  omega
theorem V3_succ {k X : Nat} (h1 : X % 256 ≤ 102) (h2 : X / 256 % 16 ≤ 6) : V3 (k + 1) X = t3 (X % 256) + 256 * V3 k (X / 256) := by
  have tab : ∀ D, D < 103 → ∀ b, b < 7 → (D + D / 16 + 16 * b) &&& 15 = (D + D / 16) &&& 15 := by decide +kernel
  have e1 : (X + X / 16) % 256 = X % 256 + X % 256 / 16 + 16 * (X / 256 % 16) := by omega
  have e2 : (X + X / 16) / 256 = X / 256 + X / 256 / 16 := by omega
  unfold V3 t3
  rw [land_mm (by omega), e1, e2, tab _ (by omega) _ (by omega)]
theorem V2_lo (k X : Nat) : V2 k X % 16 ≤ 6 := by
  have tab : ∀ D, D < 256 → t2 D % 16 ≤ 6 := by decide +kernel
  cases k with
  | zero =>
    show ((X &&& 0) + (X / 4 &&& 0)) % 16 ≤ 6
    rw [Nat.and_zero, Nat.and_zero]
    omega
  | succ k =>
    rw [V2_succ]
    have := tab (X % 256) (by omega)
    omega
def FF : Nat → Nat → Nat
  | 0, _ => 0
  | k + 1, X => pc (X % 256) + 256 * FF k (X / 256)
theorem cc_s : ∀ k X, X < 256 ^ k → V3 k (V2 k (V1 k X)) = FF k X := by
  have tabA : ∀ D, D < 256 → t1 D < 256 := by decide +kernel
  have tabB : ∀ D, D < 256 → t2 D ≤ 102 := by decide +kernel
  intro k
  induction k with
  | zero =>
    intro X hX
    have : X = 0 := by rw [Nat.pow_zero] at hX; omega
    subst this
    decide
  | succ k ih =>
    intro X hX
    have hY : X / 256 < 256 ^ k := by
      rw [Nat.pow_succ] at hX
      exact Nat.div_lt_of_lt_mul (by rw [Nat.mul_comm]; exact hX)
    have a1 := tabA (X % 256) (by omega)
    have a2 := tabB (t1 (X % 256)) a1
    have b1 : (t1 (X % 256) + 256 * V1 k (X / 256)) % 256 = t1 (X % 256) := by omega
    have b2 : (t1 (X % 256) + 256 * V1 k (X / 256)) / 256 = V1 k (X / 256) := by omega
    have c1 : (t2 (t1 (X % 256)) + 256 * V2 k (V1 k (X / 256))) % 256 = t2 (t1 (X % 256)) := by omega
    have c2 : (t2 (t1 (X % 256)) + 256 * V2 k (V1 k (X / 256))) / 256 = V2 k (V1 k (X / 256)) := by omega
    rw [V1_succ, V2_succ, b1, b2, V3_succ (by rw [c1]; exact a2) (by rw [c2]; exact V2_lo _ _), c1, c2, ih _ hY]
    rfl
theorem pc_le : ∀ D, D < 256 → pc D ≤ 8 := by decide +kernel
theorem cb_succ (k X : Nat) : cnt (fun i => X.testBit i) (8 + k) = pc (X % 256) + cnt (fun i => (X / 256).testBit i) k := by
  have tab : ∀ D, D < 256 → cnt (fun i => D.testBit i) 8 = pc D := by decide +kernel
  have e1 : cnt (fun i => X.testBit i) 8 = cnt (fun i => (X % 256).testBit i) 8 := cnt_congr fun t ht => by
    rw [show (256 : Nat) = 2 ^ 8 from rfl, Nat.testBit_mod_two_pow, decide_eq_true ht, Bool.true_and]
  have e2 : cnt (fun d => X.testBit (8 + d)) k = cnt (fun i => (X / 256).testBit i) k := cnt_congr fun t ht => by
    rw [show (256 : Nat) = 2 ^ 8 from rfl, Nat.testBit_div_two_pow, Nat.add_comm]
  rw [cnt_add, e1, tab _ (Nat.mod_lt _ (by omega)), e2]
theorem dv_s {v r Q m : Nat} (h : v = r + m * Q) (hr : r < m) : v / m = Q := by
  rw [h, Nat.add_mul_div_left _ _ (by omega), Nat.div_eq_of_lt hr, Nat.zero_add]
theorem sum8 {q0 q1 q2 q3 q4 q5 q6 q7 W v4 v5 v6 : Nat} (h0 : q0 ≤ 8) (h1 : q1 ≤ 8) (h2 : q2 ≤ 8) (h3 : q3 ≤ 8) (h4 : q4 ≤ 8) (h5 : q5 ≤ 8) (h6 : q6 ≤ 8) (h7 : q7 ≤ 8) (hW : W = q0 + 256 * q1 + 65536 * q2 + 16777216 * q3 + 4294967296 * q4 + 1099511627776 * q5 + 281474976710656 * q6 + 72057594037927936 * q7) (e4 : v4 = (W + W / 256) % 18446744073709551616) (e5 : v5 = (v4 + v4 / 65536) % 18446744073709551616) (e6 : v6 = (v5 + v5 / 4294967296) % 18446744073709551616) : v6 % 4294967296 % 128 = q0 + q1 + q2 + q3 + q4 + q5 + q6 + q7 := by
  have d4 : W / 256 = q1 + 256 * q2 + 65536 * q3 + 16777216 * q4 + 4294967296 * q5 + 1099511627776 * q6 + 281474976710656 * q7 := by
    refine dv_s (r := q0) ?_ ?_
    · clear e4 e5 e6
      omega
    · omega
  rw [d4] at e4
  have a4 : v4 = (q0 + q1) + 256 * (q1 + q2) + 65536 * (q2 + q3) + 16777216 * (q3 + q4) + 4294967296 * (q4 + q5) + 1099511627776 * (q5 + q6) + 281474976710656 * (q6 + q7) + 72057594037927936 * q7 := by
    rw [e4, hW, Nat.mod_eq_of_lt (by clear e4 e5 e6 d4 hW; omega)]
    clear e4 e5 e6 d4 hW
    omega
  clear e4 d4 hW
  have d5 : v4 / 65536 = (q2 + q3) + 256 * (q3 + q4) + 65536 * (q4 + q5) + 16777216 * (q5 + q6) + 4294967296 * (q6 + q7) + 1099511627776 * q7 := by
    refine dv_s (r := (q0 + q1) + 256 * (q1 + q2)) ?_ ?_
    · clear e5 e6
      omega
    · clear e5 e6 a4
      omega
  rw [d5] at e5
  have a5 : v5 = (q0 + q1 + q2 + q3) + 256 * (q1 + q2 + q3 + q4) + 65536 * (q2 + q3 + q4 + q5) + 16777216 * (q3 + q4 + q5 + q6) + 4294967296 * (q4 + q5 + q6 + q7) + 1099511627776 * (q5 + q6 + q7) + 281474976710656 * (q6 + q7) + 72057594037927936 * q7 := by
    rw [e5, a4, Nat.mod_eq_of_lt (by clear e5 e6 d5 a4; omega)]
    clear e5 e6 d5 a4
    omega
  clear e5 d5 a4
  have d6 : v5 / 4294967296 = (q4 + q5 + q6 + q7) + 256 * (q5 + q6 + q7) + 65536 * (q6 + q7) + 16777216 * q7 := by
    refine dv_s (r := (q0 + q1 + q2 + q3) + 256 * (q1 + q2 + q3 + q4) + 65536 * (q2 + q3 + q4 + q5) + 16777216 * (q3 + q4 + q5 + q6)) ?_ ?_
    · clear e6
      omega
    · clear e6 a5
      omega
  rw [d6] at e6
  have a6 : v6 = (q0 + q1 + q2 + q3 + q4 + q5 + q6 + q7) + 128 * (2 * ((q1 + q2 + q3 + q4 + q5 + q6 + q7) + 256 * (q2 + q3 + q4 + q5 + q6 + q7) + 65536 * (q3 + q4 + q5 + q6 + q7) + 16777216 * (q4 + q5 + q6 + q7) + 4294967296 * (q5 + q6 + q7) + 1099511627776 * (q6 + q7) + 281474976710656 * q7)) := by
    rw [e6, a5, Nat.mod_eq_of_lt (by clear e6 d6 a5; omega)]
    clear e6 d6 a5
    omega
  clear e6 d6 a5
  rw [Nat.mod_mod_of_dvd _ (show 128 ∣ 4294967296 from ⟨33554432, rfl⟩), a6, Nat.add_mul_mod_self_left]
  exact Nat.mod_eq_of_lt (by clear a6; omega)
end Bc
