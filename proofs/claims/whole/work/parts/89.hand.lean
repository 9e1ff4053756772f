/-! both sides record; hand -/
section Ha
variable {σ : MsSt} {w : Nat → Nat}
theorem pH_ok {n : Nat} {H : Nat → Nat → Nat} {v : Nat → Nat} (hn : n ≤ 10) (hW : WF w) (hv : SameSg w v) (hK : ∀ j, j < n → WF (H j) ∧ SameSg w (H j)) : ∀ j, j < pN n → WF (pH n H w j) ∧ SameSg v (pH n H w j) := by
  intro j hj
  have hw : WF w ∧ SameSg v w := ⟨hW, hv.step SameSg.rfl'⟩
  have hk : ∀ i, i < n → WF (H i) ∧ SameSg v (H i) := fun i hi => ⟨(hK i hi).1, hv.step (hK i hi).2⟩
  unfold pN at hj
  unfold pH
  by_cases q : n = 10
  · rw [if_pos q] at hj ⊢
    by_cases q9 : j = 9
    · rw [if_pos q9]; exact hw
    · rw [if_neg q9]; exact hk _ (by omega)
  · rw [if_neg q] at hj ⊢
    by_cases qn : j = n
    · rw [if_pos qn]; exact hw
    · rw [if_neg qn]; exact hk _ (by omega)
section Lo
variable {i v : Nat}
theorem lo_Kd (hi : i < 247) : Kd (uw w i v) = Kd w := funext fun p => uw_ne (by omega)
theorem lo_Cl (hi : i < 247) : Cl (uw w i v) = Cl w := funext fun p => uw_ne (by omega)
theorem lo_sgF (hi : i < 247) (p f : Nat) : sgF (uw w i v) p f = sgF w p f := uw_ne (by omega)
theorem lo_exF (hi : i < 247) : ∀ (k p : Nat), exF (uw w i v) k p = exF w k p := by
  intro k
  induction k with
  | zero => intro p; rfl
  | succ k ih =>
    intro p
    unfold exF
    rw [lo_Kd hi, ih, lo_sgF hi, lo_sgF hi]
theorem lo_ex (hi : i < 247) : ex (uw w i v) = ex w := funext fun p => lo_exF hi p p
theorem lo_SgsOK (hi : i < 247) {n : Nat} (h : SgsOK w n) : SgsOK (uw w i v) n := by
  obtain ⟨h1, h2, h3⟩ := h
  refine ⟨h1, fun p hp => ?_, fun p t hp ht => ?_⟩
  · unfold SgOK
    rw [lo_Kd hi, lo_Cl hi, lo_sgF hi, lo_sgF hi, lo_sgF hi, lo_sgF hi, lo_ex hi]
    exact h2 p hp
  · rw [lo_Kd hi, lo_Cl hi, lo_sgF hi, lo_sgF hi]
    exact h3 p t hp ht
theorem lo_SgRep (hi : i < 247) {a s : Nat} (h : SgRep σ a w s) : SgRep σ a (uw w i v) s := by
  unfold SgRep
  rw [lo_Kd hi, lo_Cl hi, lo_sgF hi, lo_sgF hi, lo_sgF hi, lo_sgF hi, lo_ex hi]
  exact h
theorem lo_same (hi : i < 247) (h2 : 2 ≤ i) : SameSg w (uw w i v) := ⟨uw_ne (by omega), uw_ne (by omega), fun s _ => ⟨by rw [lo_Kd hi], fun f _ _ _ => lo_sgF hi s f, fun _ => lo_sgF hi s 5⟩⟩
end Lo
theorem q_hand {p n b : Nat} {H : Nat → Nat → Nat} {S : Nat → Nat} (h : InvM σ w p n H b S) (x : Int32) : ∃ r σ1 b' σ2 w' p' n' H', f_X10_hand σ 0 x = some (r, σ1) ∧ f_X12_hand σ1 493 x = some (b', σ2) ∧ Ok r (ms_i σ2 493 7) b' ∧ InvM σ2 w' p' n' H' b S ∧ SameSg w w' ∧ Fr FMut σ σ2 := by
  obtain ⟨z, z1, z2, rfl⟩ := iZ_of x
  obtain ⟨hI, hC, hR, hK, hS⟩ := h
  have h40 := hI.1.1.1
  have h4 := hI.1.2.2.1
  by_cases q : 0 ≤ z ∧ z ≤ (w 1 : Int) - 1
  · obtain ⟨l, rfl⟩ : ∃ l : Nat, z = (l : Int) := ⟨z.toNat, by omega⟩
    obtain ⟨s1, p', a1, a2, a3⟩ := c_record hI.1 hI.2.1 hC
    have hN1 := hI.2.1.away a3 h40 (by omega)
    have G1 : Fr (fun a k => (285 ≤ a ∧ a < 427) ∨ (a = 3 ∧ k = 6)) σ (ms_si s1 3 6 (iZ (l : Int))) := (a3.mono fun a k q => Or.inl ⟨q.1, q.2⟩).trans (Fr.si _ _ (Or.inr ⟨rfl, rfl⟩))
    have G2 : Fr (fun a k => a = 493 ∧ k = 7) (ms_si s1 3 6 (iZ (l : Int))) (ms_si (ms_si s1 3 6 (iZ (l : Int))) 493 7 0) := Fr.si _ _ ⟨rfl, rfl⟩
    have hMw := (hI.2.2.fr G1 (by intros; omega)).fr G2 (by intros; omega)
    obtain ⟨s2, b1, b2, b3⟩ := m_record hMw ((hR.frP G1 (by omega) (by intros; omega)).frP G2 (by omega) (by intros; omega)) hC.2.2.2.1
    have hM2 : Mw s2 494 w := hMw.fr b3 (by unfold FHis; intros; omega)
    have hg : ms_ald s2 494 2 = some (iZ (w 2 : Int)) := mw_get hM2 (Or.inl rfl) (z := 2) (k := 2) rfl (by omega)
    have hst : ms_ast s2 494 2 (iZ (l : Int)) = some (ms_si s2 494 2 (iZ (l : Int))) := ast_iZ (k := 2) (by rw [m_ln.1]; omega) (by rw [m_ln.1]; omega)
    have G3 : Fr (fun a k => a = 494 ∨ a = 497 ∨ (a = 493 ∧ (k = 6 ∨ k = 7))) (ms_si s1 3 6 (iZ (l : Int))) (ms_si s2 494 2 (iZ (l : Int))) := ((G2.mono fun a k q => by omega).trans (b3.mono fun a k q => by unfold FHis at q; omega)).trans (Fr.si _ _ (Or.inl rfl))
    have hN2 : NowRep (ms_si s1 3 6 (iZ (l : Int))) 3 (uw w 2 l) := by
      obtain ⟨⟨g1, g2⟩, g3, g4, g5⟩ := hN1
      have G : Fr (In 3 4) s1 (ms_si s1 3 6 (iZ (l : Int))) := Fr.si _ _ ⟨Nat.le_refl _, by omega⟩
      refine ⟨⟨?_, fun s hs => lo_SgRep (by omega) ((g2 s (by rw [uw_ne (by omega)] at hs; exact hs)).away G (by omega))⟩, ?_, ?_, fun t ht => ?_⟩
      · rw [i_si_ne (Or.inr (by omega)), uw_ne (by omega)]; exact g1
      · rw [i_si_ne (Or.inr (by omega)), uw_ne (by omega)]; exact g3
      · rw [i_si_same, uw_eq]
      · have e : ln (uw w 2 l) t = ln w t := by
          unfold ln
          rw [uw_ne (by omega)]
          exact List.map_congr_left fun p _ => uw_ne (by omega)
        rw [e]
        exact (g5 t ht).away G (by omega)
    have hW2 : WF (uw w 2 l) := by
      obtain ⟨w1, w2, w3, w4, w5, w6, w7⟩ := hI.1
      have e : ∀ k, k ≠ 2 → uw w 2 l k = w k := fun k hk => uw_ne hk
      refine ⟨by rw [e 0 (by omega)]; exact lo_SgsOK (by omega) w1, by rw [e 1 (by omega)]; exact w2, by rw [e 1 (by omega)]; exact w3, by rw [e 1 (by omega), uw_eq]; omega, fun t ht => by rw [e _ (by omega)]; exact w5 t ht, fun t ht => by rw [e 1 (by omega), e _ (by omega)]; exact w6 t ht, fun t p ht hp => ?_⟩
      rw [e _ (by omega)] at hp
      rw [e 0 (by omega), e _ (by omega)]
      exact w7 t p ht hp
    have hSm : SameSg w (uw w 2 l) := lo_same (by omega) (Nat.le_refl _)
    refine ⟨.inl (iZ (w 2 : Int)), ms_si s1 3 6 (iZ (l : Int)), iZ (w 2 : Int), ms_si s2 494 2 (iZ (l : Int)), uw w 2 l, p', pN n, pH n H w, ?_, ?_, ⟨?_, rfl⟩, ⟨⟨hW2, hN2.frG G3 (by rw [uw_ne (by omega)]; exact h40) (by intros; omega), fun k hk => ?_⟩, (a2.frP (Fr.si (P := fun a _ => a = 3) _ _ rfl) (by intros; omega)).frP G3 (by intros; omega), b2.frP (Fr.si (P := fun a _ => a = 494) _ _ rfl) (by omega) (by intros; omega), pH_ok hC.2.2.2.1 hI.1 hSm hK, ((hS.frP G1 (by omega) (by omega) (by intros; omega) (by intros; omega)).frP G3 (by omega) (by omega) (by intros; omega) (by intros; omega)).step hSm⟩, hSm, (G1.mono fun a k q => by unfold FMut; omega).trans (G3.mono fun a k q => by unfold FMut FScr; omega)⟩
    · unfold f_X10_hand
      rw [needLine_s hI z1 z2, btT q, x_rf4, x_rf1, a1, Option.bind_some, nm_s, hN1.2.2.1]
    · have hn := m_noLine (hI.2.2.fr G1 (by intros; omega)) h4 z1 z2
      rw [lnE0 q] at hn
      unfold f_X12_hand
      rw [hn, b2_s, if_pos rfl, b1, Option.bind_some, m_rf0, hg, Option.bind_some, hst, Option.bind_some]
    · rw [i_si_ne (Or.inl (by omega)), b3.1 _ _ (by unfold FHis; omega), i_si_same]
    · rw [ms_i_si]
      by_cases g : k = 2
      · rw [if_pos ⟨rfl, g⟩, g, uw_eq]
      · rw [if_neg (by omega), uw_ne g]
        exact hM2 k hk
  · refine ⟨.inr 0, σ, 0, ms_si σ 493 7 1, w, p, n, H, ?_, ?_, i_si_same _ _ _ _, InvM.fr ⟨hI, hC, hR, hK, hS⟩ (fr7 σ 1), SameSg.rfl', (fr7 σ 1).mono fun a k q => Or.inl q⟩
    · unfold f_X10_hand
      rw [needLine_s hI z1 z2, btF q]
    · unfold f_X12_hand
      rw [m_noLineF hI z1 z2 q, b2_s, if_neg (by decide)]
end Ha
