/-! a name for a large number that goes into a local -/
section MsLt2
variable {α : Type} {G : MG} {M : MM} {d mc ms cu su : Nat} {κ : α → MsRes} {pc : Nat} {lv : List (Nat × Value)} {rest : List Value} {σ : MsSt}
theorem ms_ltI {v : Int32} {f : Int32 → Option α} (k : ∀ x, TrO G M d mc ms cu su κ pc lv (.int x :: rest) σ (f x)) : TrO G M d mc ms cu su κ pc lv (.int v :: rest) σ (ms_nm v f) := k v
theorem ms_ltJ {v : Int64} {f : Int64 → Option α} (k : ∀ x, TrO G M d mc ms cu su κ pc lv (.long x :: rest) σ (f x)) : TrO G M d mc ms cu su κ pc lv (.long v :: rest) σ (ms_nm v f) := k v
end MsLt2
