/-! a float that is a number is a number as a double; numbers are equal to themselves -/
section Fl
theorem en64 {s : Bool} {c : Nat} {q : Int} (hc : c < 9007199254740992) (hq : q ≤ 971) : ∃ m, m ≤ 9218868437227405312 ∧ Jvm.FP.Core.encode Jvm.FP.Core.b64 (.fin s c q) = s.toNat * 9223372036854775808 + m := by
  have ht : Jvm.FP.Core.Fmt.tails Jvm.FP.Core.b64 = 4503599627370496 := by decide +kernel
  have hx : Jvm.FP.Core.Fmt.exps Jvm.FP.Core.b64 = 2048 := by decide +kernel
  have hm : Jvm.FP.Core.Fmt.qmin Jvm.FP.Core.b64 = -1074 := by decide +kernel
  have he : Jvm.FP.Core.encode Jvm.FP.Core.b64 (.fin s c q) = if c < Jvm.FP.Core.Fmt.tails Jvm.FP.Core.b64 then Jvm.FP.Core.assemble Jvm.FP.Core.b64 s 0 c else Jvm.FP.Core.assemble Jvm.FP.Core.b64 s ((q - Jvm.FP.Core.Fmt.qmin Jvm.FP.Core.b64).toNat + 1) (c - Jvm.FP.Core.Fmt.tails Jvm.FP.Core.b64) := rfl
  rw [he]
  unfold Jvm.FP.Core.assemble
  rw [ht, hx, hm]
  generalize s.toNat = b
  by_cases hc2 : c < 4503599627370496
  · rw [if_pos hc2]
    exact ⟨c, by omega, by omega⟩
  · rw [if_neg hc2]
    exact ⟨((q - -1074).toNat + 1) * 4503599627370496 + (c - 4503599627370496), by omega, by omega⟩
theorem rn64 (s : Bool) (c d : Nat) (e : Int) : ∃ m, m ≤ 9218868437227405312 ∧ Jvm.FP.Core.encode Jvm.FP.Core.b64 (Jvm.FP.Core.roundRatio Jvm.FP.Core.b64 s c d e) = s.toNat * 9223372036854775808 + m := by
  have ht : Jvm.FP.Core.Fmt.tails Jvm.FP.Core.b64 = 4503599627370496 := by decide +kernel
  have hp : 2 ^ Jvm.FP.Core.Fmt.p Jvm.FP.Core.b64 = 9007199254740992 := by decide +kernel
  have hm : Jvm.FP.Core.Fmt.qmin Jvm.FP.Core.b64 = -1074 := by decide +kernel
  have hM : Jvm.FP.Core.Fmt.qmax Jvm.FP.Core.b64 = 971 := by decide +kernel
  have hi : Jvm.FP.Core.encode Jvm.FP.Core.b64 (.inf s) = s.toNat * 9223372036854775808 + 9218868437227405312 := by cases s <;> decide +kernel
  have hb : ∀ (c : Nat) (q : Int), c < 9007199254740992 → ∃ m, m ≤ 9218868437227405312 ∧ Jvm.FP.Core.encode Jvm.FP.Core.b64 (Jvm.FP.Core.bound Jvm.FP.Core.b64 s c q) = s.toNat * 9223372036854775808 + m := by
    intro c q hc
    unfold Jvm.FP.Core.bound
    rw [hM]
    split
    · exact en64 hc (by omega)
    · exact ⟨_, Nat.le_refl _, hi⟩
  unfold Jvm.FP.Core.roundRatio
  split
  · rw [hm]
    exact en64 (by omega) (by omega)
  · unfold Jvm.FP.Core.roundAt Jvm.FP.Core.settle
    rw [hp]
    split
    · exact hb _ _ (by omega)
    · exact hb _ _ (by rw [ht]; omega)
theorem nan32 {x : UInt32} (h : x &&& 0x7fffffff ≤ 0x7f800000) : Jvm.FP.Core.decode Jvm.FP.Core.b32 x.toNat ≠ .nan := by
  have ht : Jvm.FP.Core.Fmt.tails Jvm.FP.Core.b32 = 8388608 := by decide +kernel
  have hx : Jvm.FP.Core.Fmt.exps Jvm.FP.Core.b32 = 256 := by decide +kernel
  rw [UInt32.le_iff_toNat_le, UInt32.toNat_and] at h
  have h1 : x.toNat &&& (2 ^ 31 - 1) ≤ 2139095040 := h
  rw [Nat.and_two_pow_sub_one_eq_mod] at h1
  unfold Jvm.FP.Core.decode Jvm.FP.Core.fieldE Jvm.FP.Core.fieldT
  rw [ht, hx]
  generalize x.toNat = n at h1 ⊢
  split
  · split
    · intro q; cases q
    · exfalso; omega
  · split
    · intro q; cases q
    · intro q; cases q
theorem nan64 {x : UInt64} (h : x &&& 0x7fffffffffffffff ≤ 0x7ff0000000000000) : Jvm.FP.Core.decode Jvm.FP.Core.b64 x.toNat ≠ .nan := by
  have ht : Jvm.FP.Core.Fmt.tails Jvm.FP.Core.b64 = 4503599627370496 := by decide +kernel
  have hx : Jvm.FP.Core.Fmt.exps Jvm.FP.Core.b64 = 2048 := by decide +kernel
  rw [UInt64.le_iff_toNat_le, UInt64.toNat_and] at h
  have h1 : x.toNat &&& (2 ^ 63 - 1) ≤ 9218868437227405312 := h
  rw [Nat.and_two_pow_sub_one_eq_mod] at h1
  unfold Jvm.FP.Core.decode Jvm.FP.Core.fieldE Jvm.FP.Core.fieldT
  rw [ht, hx]
  generalize x.toNat = n at h1 ⊢
  split
  · split
    · intro q; cases q
    · exfalso; omega
  · split
    · intro q; cases q
    · intro q; cases q
theorem f2d_n {x : UInt32} (h : x &&& 0x7fffffff ≤ 0x7f800000) : ms_f2d x = some (FP.f2d x) := by
  have h0 := nan32 h
  have hI : ∀ s : Bool, ∃ m, m ≤ 9218868437227405312 ∧ Jvm.FP.Core.encode Jvm.FP.Core.b64 (.inf s) = s.toNat * 9223372036854775808 + m := fun s => ⟨9218868437227405312, Nat.le_refl _, by cases s <;> decide +kernel⟩
  have hc : ∃ (s : Bool) (m : Nat), m ≤ 9218868437227405312 ∧ Jvm.FP.Core.convert Jvm.FP.Core.b32 Jvm.FP.Core.b64 x.toNat = s.toNat * 9223372036854775808 + m := by
    unfold Jvm.FP.Core.convert
    generalize Jvm.FP.Core.decode Jvm.FP.Core.b32 x.toNat = dd at h0 ⊢
    cases dd with
    | nan => exact absurd rfl h0
    | inf s => exact ⟨s, hI s⟩
    | fin s c q => exact ⟨s, rn64 s c 1 q⟩
  have hn : Jvm.FP.Core.fIsNaN x = false := by
    unfold Jvm.FP.Core.fIsNaN Jvm.FP.Core.isNaN
    exact decide_eq_false h0
  unfold ms_f2d
  refine if_pos ?_
  show (if Jvm.FP.Core.fIsNaN x then Jvm.FP.nanF2D x else Jvm.FP.Core.f2d x) &&& 0x7fffffffffffffff ≤ (0x7ff0000000000000 : UInt64)
  rw [hn, UInt64.le_iff_toNat_le, UInt64.toNat_and]
  show (UInt64.ofNat (Jvm.FP.Core.convert Jvm.FP.Core.b32 Jvm.FP.Core.b64 x.toNat)).toNat &&& (2 ^ 63 - 1) ≤ 9218868437227405312
  obtain ⟨s, m, h1, h2⟩ := hc
  rw [h2, UInt64.toNat_ofNat', Nat.and_two_pow_sub_one_eq_mod]
  cases s
  · show (0 * 9223372036854775808 + m) % 2 ^ 64 % 2 ^ 63 ≤ _
    omega
  · show (1 * 9223372036854775808 + m) % 2 ^ 64 % 2 ^ 63 ≤ _
    omega
theorem ord_same (d : Jvm.FP.Core.Datum) (h : d ≠ .nan) : Jvm.FP.Core.order d d = some .eq := by
  have hz : ∀ z : Int, compare z z = Ordering.eq := fun z => by
    show compareOfLessAndEq z z = _
    unfold compareOfLessAndEq
    rw [if_neg (Int.lt_irrefl z), if_pos rfl]
  cases d with
  | nan => exact absurd rfl h
  | inf s => exact congrArg some (hz _)
  | fin s c q => exact congrArg some (hz _)
theorem dcmp_same {x : UInt64} (h : x &&& 0x7fffffffffffffff ≤ 0x7ff0000000000000) : (Op.cmpValue (FP.dcmp x x) .l) = 0 := by
  have h1 : FP.dcmp x x = some .eq := ord_same _ (nan64 h)
  rw [h1]
  rfl
theorem f2d_cmp (b : UInt32) (h : ms_f2d b = some (FP.f2d b)) : (Op.cmpValue (FP.dcmp (FP.f2d b) (FP.f2d b)) .l) = 0 := by
  refine dcmp_same ?_
  unfold ms_f2d at h
  by_cases hc : FP.f2d b &&& 0x7fffffffffffffff ≤ 0x7ff0000000000000
  · exact hc
  · rw [if_neg hc] at h; cases h
/-! shortness answers a number -/
def EFl (r : (UInt32 ⊕ Nat) × MsSt) : Prop := ∀ v, r.1 = .inl v → v &&& 0x7fffffff ≤ 0x7f800000
theorem az_fdiv {α : Type} {P : α → Prop} {x y : UInt32} {f : UInt32 → Option α} (h : ∀ v, v &&& 0x7fffffff ≤ 0x7f800000 → AZ P (f v)) : AZ P ((ms_fdiv x y).bind f) := fun r hr => by
  obtain ⟨h1, h2⟩ := ms_fdiv_s hr
  exact h _ h1 r h2
theorem zf_shortness (σ : MsSt) (l0 : Nat) (l1 : Int32) : AZ EFl (f_X10_shortness σ l0 l1) := by
  unfold f_X10_shortness
  refine az_bt (m := 0) (z_needLine _ _ _) (az_bind fun _ => az_bind fun _ => az_if ?_ (az_fdiv fun v hv => ?_)) (fun e _ => ?_)
  · intro r hr v q
    cases hr
    cases q
    decide
  · intro r hr w q
    cases hr
    cases q
    exact hv
  · intro r hr w q
    cases hr
    cases q
end Fl
