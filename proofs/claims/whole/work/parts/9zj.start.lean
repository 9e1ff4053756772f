/-! the store behind the constructors -/
section St
variable {σ : MsSt}
def i0f (a k : Nat) : Int32 := if (a = 3 ∧ k = 5) ∨ (a = 140 ∧ k = 5) ∨ (a = 494 ∧ k = 1) then 1 else if (a = 1 ∧ k = 8) ∨ (a = 0 ∧ k = 13) ∨ (a = 493 ∧ k = 34) then -1 else 0
def w0 : Nat → Nat := fun k => if k = 1 then 1 else 0
theorem i0f_0 {a k : Nat} (h1 : ¬ ((a = 3 ∧ k = 5) ∨ (a = 140 ∧ k = 5) ∨ (a = 494 ∧ k = 1))) (h2 : ¬ ((a = 1 ∧ k = 8) ∨ (a = 0 ∧ k = 13) ∨ (a = 493 ∧ k = 34))) : i0f a k = 0 := by
  unfold i0f
  rw [if_neg h1, if_neg h2]
theorem row0 {r N : Nat} (h : ∀ a k, ms_i σ a k = i0f a k) (hr : RowAt r N) (h1 : r ≠ 3 ∧ r ≠ 140 ∧ r ≠ 494) : Rw cN σ r N ([] : List Nat) :=
  ⟨hr, Nat.zero_le _, by rw [h, i0f_0 (by omega) (by omega)]; rfl, fun k hk => absurd hk (Nat.not_lt_zero _)⟩
theorem inv0 (h : ∀ a k, ms_i σ a k = i0f a k) : InvF σ w0 := by
  have z : ∀ a k, ¬ ((a = 3 ∧ k = 5) ∨ (a = 140 ∧ k = 5) ∨ (a = 494 ∧ k = 1)) → ¬ ((a = 1 ∧ k = 8) ∨ (a = 0 ∧ k = 13) ∨ (a = 493 ∧ k = 34)) → ms_i σ a k = iZ ((0 : Nat) : Int) := fun a k h1 h2 => by rw [h, i0f_0 h1 h2]; rfl
  have e0 : w0 0 = 0 := rfl
  have hs : SgsOK w0 (w0 0) := ⟨Nat.zero_le _, fun s hs => absurd hs (Nat.not_lt_zero _), fun s t hs => absurd hs (Nat.not_lt_zero _)⟩
  have wz : ∀ k, k ≠ 1 → w0 k = 0 := fun k hk => if_neg hk
  have hln : ∀ l, ln w0 l = [] := fun l => List.eq_nil_of_length_eq_zero (by rw [ln_length, wz _ (by omega)])
  have hW : WF w0 := by
    refine ⟨hs, Nat.le_refl _, by decide, by decide, fun l hl => ?_, fun l hl _ => wz _ (by omega), fun l p hl hp => ?_⟩
    · rw [wz _ (by omega)]; exact Nat.zero_le _
    · rw [wz _ (by omega)] at hp
      exact absurd hp (Nat.not_lt_zero _)
  have hI : InvS σ w0 := by
    refine ⟨hW, ⟨⟨z _ _ (by omega) (by omega), fun s hs => absurd hs (Nat.not_lt_zero _)⟩, ?_, z _ _ (by omega) (by omega), fun l hl => ?_⟩, fun k hk => ?_⟩
    · rw [h]; rfl
    · rw [hln]
      exact row0 h (sc_line (a := 3) (Or.inl rfl) hl).2 (by omega)
    · rw [h]
      by_cases q : k = 1
      · rw [q]; rfl
      · rw [wz k q, i0f_0 (by omega) (by omega)]; rfl
  have hM : InvM σ w0 0 0 (fun _ => w0) 0 w0 := by
    refine ⟨hI, ⟨z _ _ (by omega) (by omega), z _ _ (by omega) (by omega), by omega, by omega, fun j hj => absurd hj (Nat.not_lt_zero _)⟩, ⟨z _ _ (by omega) (by omega), fun j k hj => absurd hj (Nat.not_lt_zero _)⟩, fun j hj => absurd hj (Nat.not_lt_zero _), ⟨z _ _ (by omega) (by omega), z _ _ (by omega) (by omega), by omega, fun g => absurd g (by decide)⟩⟩
  refine ⟨⟨0, 0, fun _ => w0, 0, w0, hM⟩, ⟨fun _ => 0, fun s hs => absurd hs (Nat.not_lt_zero _), fun s hs => absurd hs (Nat.not_lt_zero _), fun s k hs => absurd hs (Nat.not_lt_zero _)⟩, ⟨fun _ => 0, 0, z _ _ (by omega) (by omega), z _ _ (by omega) (by omega), by omega, fun k hk => absurd hk (Nat.not_lt_zero _)⟩, ⟨[], row0 h ⟨by decide +kernel, by decide +kernel, by omega⟩ (by omega), z _ _ (by omega) (by omega), fun k hk => absurd hk (Nat.not_lt_zero _)⟩, ?_, fun q hq => ⟨0, by omega, ?_⟩⟩
  · rw [h, h]; rfl
  · exact z _ _ (by rcases hq with ⟨s, hs, rfl⟩ | rfl <;> omega) (by rcases hq with ⟨s, hs, rfl⟩ | rfl <;> omega)
end St
