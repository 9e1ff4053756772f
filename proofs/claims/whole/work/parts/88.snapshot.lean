/-! saveSnapshot, restoreSnapshot -/
section Sn
variable {σ : MsSt} {w : Nat → Nat}
theorem q_saveSnapshot {p n b : Nat} {H : Nat → Nat → Nat} {S : Nat → Nat} (h : InvM σ w p n H b S) : ∃ σ1 σ2, f_X10_saveSnapshot σ 0 = some σ1 ∧ f_X12_saveSnapshot σ1 493 = some σ2 ∧ ms_i σ2 493 7 = 0 ∧ InvM σ2 w p n H 1 w ∧ Fr FMut σ σ2 := by
  obtain ⟨hI, hC, hR, hK, hS⟩ := h
  have h40 := hI.1.1.1
  have l4 : ms_ln 494 = 527 := m_ln.1
  have l6 : ms_ln 496 = 527 := m_ln.2.2.1
  obtain ⟨s1, a1, a2, a3⟩ := keep_s hI.1 hI.2.1 (a := 427) ⟨10, by omega, rfl⟩
  have G1 : Fr (fun a k => (427 ≤ a ∧ a < 441) ∨ (a = 0 ∧ k = 12)) σ (ms_si s1 0 12 1) := (a3.mono fun a k q => Or.inl ⟨q.1, q.2⟩).trans (Fr.si _ _ (Or.inr ⟨rfl, rfl⟩))
  have hMw : Mw (ms_si (ms_si s1 0 12 1) 493 7 0) 494 w := (hI.2.2.fr G1 (by intros; omega)).fr (Fr.si (P := fun a _ => a = 493) _ _ rfl) (by intros; omega)
  obtain ⟨s2, g1, g2, g3⟩ := m_copy (σ := ms_si (ms_si s1 0 12 1) 493 7 0) (c := 494) (d := 496) (A := 0) (B := 0) (by omega) (by omega) (by omega) (by omega) (Or.inl (by omega))
  have g1' : f_X12_copy (ms_si (ms_si s1 0 12 1) 493 7 0) 494 0 496 0 = some s2 := g1
  have G2 : Fr (fun a k => a = 496 ∨ (a = 493 ∧ (k = 7 ∨ k = 8))) (ms_si s1 0 12 1) (ms_si s2 493 8 1) := ((Fr.si (P := fun a k => a = 496 ∨ (a = 493 ∧ (k = 7 ∨ k = 8))) _ _ (Or.inr ⟨rfl, Or.inl rfl⟩)).trans (g3.mono fun a k q => Or.inl q.1)).trans (Fr.si _ _ (Or.inr ⟨rfl, Or.inr rfl⟩))
  have G : Fr (fun a k => (427 ≤ a ∧ a < 441) ∨ (a = 0 ∧ k = 12) ∨ a = 496 ∨ (a = 493 ∧ (k = 7 ∨ k = 8))) σ (ms_si s2 493 8 1) := (G1.mono fun a k q => by omega).trans (G2.mono fun a k q => by omega)
  refine ⟨ms_si s1 0 12 1, ms_si s2 493 8 1, ?_, ?_, ?_, ⟨⟨hI.1, hI.2.1.frG G h40 (by intros; omega), hI.2.2.fr G (by intros; omega)⟩, hC.frP G (by intros; omega), hR.frP G (by omega) (by intros; omega), hK, ?_, i_si_same _ _ _ _, Nat.le_refl _, fun _ => ⟨?_, ?_, hI.1, SameSg.rfl'⟩⟩, G.mono fun a k q => by unfold FMut FScr; omega⟩
  · unfold f_X10_saveSnapshot
    rw [x_rf5, x_rf1, a1, Option.bind_some, nm_s]
  · unfold f_X12_saveSnapshot
    rw [nm_s, m_rf0, m_rf2, g1', Option.bind_some, nm_s]
  · rw [i_si_ne (Or.inr (by omega)), g3.1 _ _ (by unfold FRow; omega), i_si_same]
  · rw [G2.1 _ _ (by omega), i_si_same]
    rfl
  · exact (a2.frP (Fr.si (P := fun a _ => a = 0) _ _ rfl) (by intros; omega)).frP G2 (by intros; omega)
  · intro k hk
    have := g2 k hk
    rw [show 527 * 0 + k = k from by omega] at this
    rw [i_si_ne (Or.inl (by omega)), this]
    exact hMw k hk
theorem q_restoreSnapshot {p n b : Nat} {H : Nat → Nat → Nat} {S : Nat → Nat} (h : InvM σ w p n H b S) : ∃ r σ1 b' σ2 w' n', f_X10_restoreSnapshot σ 0 = some (r, σ1) ∧ f_X12_restoreSnapshot σ1 493 = some (b', σ2) ∧ r = b' ∧ ms_i σ2 493 7 = 0 ∧ InvM σ2 w' p n' H b S ∧ SameSg w w' ∧ Fr FMut σ σ2 := by
  obtain ⟨hI, hC, hR, hK, hS⟩ := h
  have h40 := hI.1.1.1
  have l4 : ms_ln 494 = 527 := m_ln.1
  have l6 : ms_ln 496 = 527 := m_ln.2.2.1
  have hb1 := hS.2.2.1
  by_cases q : b = 0
  · refine ⟨0, σ, 0, ms_si σ 493 7 0, w, n, ?_, ?_, rfl, i_si_same _ _ _ _, InvM.fr ⟨hI, hC, hR, hK, hS⟩ (fr7 σ 0), SameSg.rfl', (fr7 σ 0).mono fun a k q => Or.inl q⟩
    · unfold f_X10_restoreSnapshot
      rw [ieqT hS.1 i0 (by omega)]
    · unfold f_X12_restoreSnapshot
      rw [nm_s, i_si_ne (Or.inr (by omega)), ieqT hS.2.1 i0 (by omega)]
  · obtain ⟨e1, e2, e3, e4⟩ := hS.2.2.2 (by omega)
    obtain ⟨s1, a1, a2, a3⟩ := giveBack_s hI.1 e3 e4 hI.2.1 (a := 427) ⟨10, by omega, rfl⟩ e1
    have G1 : Fr (fun a k => (3 ≤ a ∧ a < 139 ∧ ¬ (a < 125 ∧ k = 2)) ∨ (a = 285 ∧ k = 2)) σ (ms_si s1 285 2 0) := (a3.mono fun a k q => Or.inl q).trans (Fr.si _ _ (Or.inr ⟨rfl, rfl⟩))
    have hM6 : Mw (ms_si (ms_si s1 285 2 0) 493 7 0) 496 S := (e2.fr G1 (by intros; omega)).fr (Fr.si (P := fun a _ => a = 493) _ _ rfl) (by intros; omega)
    obtain ⟨s2, g1, g2, g3⟩ := m_copy (σ := ms_si (ms_si s1 285 2 0) 493 7 0) (c := 496) (d := 494) (A := 0) (B := 0) (by omega) (by omega) (by omega) (by omega) (Or.inl (by omega))
    have g1' : f_X12_copy (ms_si (ms_si s1 285 2 0) 493 7 0) 496 0 494 0 = some s2 := g1
    have G2 : Fr (fun a k => a = 494 ∨ (a = 493 ∧ (k = 7 ∨ k = 6))) (ms_si s1 285 2 0) (ms_si s2 493 6 0) := ((Fr.si (P := fun a k => a = 494 ∨ (a = 493 ∧ (k = 7 ∨ k = 6))) _ _ (Or.inr ⟨rfl, Or.inl rfl⟩)).trans (g3.mono fun a k q => Or.inl q.1)).trans (Fr.si _ _ (Or.inr ⟨rfl, Or.inr rfl⟩))
    have hN : NowRep (ms_si s1 285 2 0) 3 S := a2.frG (Fr.si (P := fun a _ => a = 285) _ _ rfl) e3.1.1 (by intros; omega)
    have hS2 : SnR (ms_si s2 493 6 0) w b S := (hS.frP G1 (by omega) (by omega) (by intros; omega) (by intros; omega)).frP G2 (by omega) (by omega) (by intros; omega) (by intros; omega)
    refine ⟨1, ms_si s1 285 2 0, 1, ms_si s2 493 6 0, S, 0, ?_, ?_, rfl, ?_, ⟨⟨e3, hN.frG G2 e3.1.1 (by intros; omega), fun k hk => ?_⟩, ⟨?_, ?_, hC.2.2.1, by omega, fun j hj => absurd hj (by omega)⟩, ⟨i_si_same _ _ _ _, fun j k hj => absurd hj (by omega)⟩, fun j hj => absurd hj (by omega), hS2.step e4⟩, e4, (G1.mono fun a k q => by unfold FMut; omega).trans (G2.mono fun a k q => by unfold FMut FScr; omega)⟩
    · unfold f_X10_restoreSnapshot f_X2_forget
      rw [ieqF hS.1 i0 (by omega) (by omega) (by omega) (by omega) (by omega), x_rf5, x_rf1, a1, Option.bind_some, x_rf4, nm_s, Option.bind_some]
    · unfold f_X12_restoreSnapshot
      rw [nm_s, i_si_ne (Or.inr (by omega)), ieqF ((G1.1 _ _ (by omega)).trans hS.2.1) i0 (by omega) (by omega) (by omega) (by omega) (by omega), m_rf2, m_rf0, g1', Option.bind_some, nm_s]
    · rw [i_si_ne (Or.inr (by omega)), g3.1 _ _ (by unfold FRow; omega), i_si_same]
    · have := g2 k hk
      rw [show 527 * 0 + k = k from by omega] at this
      rw [i_si_ne (Or.inl (by omega)), this]
      exact hM6 k hk
    · rw [G2.1 _ _ (by omega), G1.1 _ _ (by omega)]
      exact hC.1
    · rw [G2.1 _ _ (by omega), i_si_same]
      rfl
end Sn
