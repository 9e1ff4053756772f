/-! both sides have recorded and changed a line; join -/
section Jn
variable {σ : MsSt} {w : Nat → Nat}
def FCls : Nat → Nat → Prop := fun a k => FScr a k ∨ (3 ≤ a ∧ a < 139)
def FRef : Nat → Nat → Prop := fun a k => FScr a k ∨ a = 494 ∨ a = 497 ∨ (a = 493 ∧ k = 6)
theorem fin_line {p n b p' : Nat} {H : Nat → Nat → Nat} {S u : Nat → Nat} {s1 σ1 σ2 : MsSt} (h : InvM σ w p n H b S) (c1 : HC s1 p' (pN n) (pH n H w)) (c2 : Fr (In 285 427) σ s1) (c3 : Fr FCls s1 σ1) (c4 : NowRep σ1 3 u) (m1 : HR σ2 (pN n) (pH n H w)) (m2 : Mw σ2 494 u) (m3 : Fr FRef σ1 σ2) (hW : WF u) (hS : SameSg w u) : InvM σ2 u p' (pN n) (pH n H w) b S ∧ Fr FMut σ σ2 := by
  obtain ⟨hI, hC, hR, hK, hSn⟩ := h
  have G : Fr FMut σ σ2 := ((c2.mono fun a k q => by have q1 := q.1; have q2 := q.2; unfold FMut; omega).trans (c3.mono fun a k q => by unfold FCls at q; unfold FMut; rcases q with q | q; exact Or.inl q; omega)).trans (m3.mono fun a k q => by unfold FRef at q; unfold FMut; rcases q with q | q; exact Or.inl q; omega)
  have G1 : Fr (fun a k => (285 ≤ a ∧ a < 427) ∨ FCls a k ∨ FRef a k) σ σ2 := ((c2.mono fun a k q => Or.inl ⟨q.1, q.2⟩).trans (c3.mono fun a k q => Or.inr (Or.inl q))).trans (m3.mono fun a k q => Or.inr (Or.inr q))
  refine ⟨⟨⟨hW, c4.frG m3 hW.1.1 (by unfold FRef FScr; intros; omega), m2⟩, (c1.frP c3 (by unfold FCls FScr; intros; omega)).frP m3 (by unfold FRef FScr; intros; omega), m1, pH_ok hC.2.2.2.1 hI.1 hS hK, (hSn.frP G1 (by unfold FCls FRef FScr; omega) (by unfold FCls FRef FScr; omega) (by unfold FCls FRef FScr; intros; omega) (by unfold FCls FRef FScr; intros; omega)).step hS⟩, G⟩
end Jn
