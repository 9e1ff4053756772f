/-! setSpare -/
section Ss
variable {σ : MsSt} {w : Nat → Nat}
section Us
variable {s v : Nat}
theorem us_Kd : Kd (uw w (247 + 7 * s + 5) v) = Kd w := funext fun p => uw_ne (by omega)
theorem us_Cl : Cl (uw w (247 + 7 * s + 5) v) = Cl w := funext fun p => uw_ne (by omega)
theorem us_sgF (p f : Nat) (hf : f < 7) (h5 : f ≠ 5) : sgF (uw w (247 + 7 * s + 5) v) p f = sgF w p f := uw_ne (by omega)
theorem us_5 (p : Nat) : sgF (uw w (247 + 7 * s + 5) v) p 5 = if p = s then v else sgF w p 5 := by
  by_cases q : p = s
  · rw [if_pos q, q]
    exact uw_eq
  · rw [if_neg q]
    exact uw_ne (by omega)
theorem us_exF : ∀ (k p : Nat), exF (uw w (247 + 7 * s + 5) v) k p = exF w k p := by
  intro k
  induction k with
  | zero => intro p; rfl
  | succ k ih =>
    intro p
    unfold exF
    rw [us_Kd, ih, us_sgF p 3 (by omega) (by omega), us_sgF p 4 (by omega) (by omega)]
theorem us_ex : ex (uw w (247 + 7 * s + 5) v) = ex w := funext fun p => us_exF p p
theorem us_SgsOK {n : Nat} (h : SgsOK w n) (hk : Kd w s = 2) (hv : v ≤ 1) : SgsOK (uw w (247 + 7 * s + 5) v) n := by
  obtain ⟨h1, h2, h3⟩ := h
  refine ⟨h1, fun p hp => ?_, fun p t hp ht => ?_⟩
  · obtain ⟨⟨a1, a2, a3, a4⟩, a5⟩ := h2 p hp
    have e3 := us_sgF (w := w) (s := s) (v := v) p 3 (by omega) (by omega)
    have e4 := us_sgF (w := w) (s := s) (v := v) p 4 (by omega) (by omega)
    have e6 := us_sgF (w := w) (s := s) (v := v) p 6 (by omega) (by omega)
    have e5 : Kd w p ≠ 2 → sgF (uw w (247 + 7 * s + 5) v) p 5 = sgF w p 5 := by
      intro g
      rw [us_5, if_neg]
      intro e
      rw [e] at g
      exact g hk
    refine ⟨⟨?_, ?_, ?_, ?_⟩, ?_⟩
    · rw [us_Kd]; exact a1
    · rw [us_Kd, us_Cl, e3, e4, e6]
      intro q
      rw [e5 (by omega)]
      exact a2 q
    · rw [us_Kd, us_Cl, e3, e4, e6]
      intro q
      rw [e5 (by omega)]
      exact a3 q
    · rw [us_Kd, us_Cl, e3, e4, us_5]
      intro q
      obtain ⟨b1, b2, b3, b4, b5, b6⟩ := a4 q
      refine ⟨b1, b2, b3, b4, b5, ?_⟩
      split <;> omega
    · rw [us_ex]
      exact a5
  · rw [us_Kd, us_Cl, us_sgF p 6 (by omega) (by omega), us_sgF t 6 (by omega) (by omega)]
    exact h3 p t hp ht
theorem us_WF (h : WF w) (hk : Kd w s = 2) (hv : v ≤ 1) : WF (uw w (247 + 7 * s + 5) v) := by
  obtain ⟨h1, h2, h3, h4, h5, h6, h7⟩ := h
  have e : ∀ k, k < 247 → uw w (247 + 7 * s + 5) v k = w k := fun k hk => uw_ne (by omega)
  refine ⟨?_, by rw [e 1 (by omega)]; exact h2, by rw [e 1 (by omega)]; exact h3, by rw [e 1 (by omega), e 2 (by omega)]; exact h4, fun l hl => by rw [e (3 + l) (by omega)]; exact h5 l hl, fun l hl => by rw [e 1 (by omega), e (3 + l) (by omega)]; exact h6 l hl, fun l p hl hp => ?_⟩
  · rw [e 0 (by omega)]
    exact us_SgsOK h1 hk hv
  · rw [e (3 + l) (by omega)] at hp
    have := h5 l hl
    rw [e 0 (by omega), e (7 + 60 * l + p) (by omega)]
    exact h7 l p hl hp
theorem us_ln (h : WF w) {l : Nat} (hl : l < 4) : ln (uw w (247 + 7 * s + 5) v) l = ln w l := by
  have h5 := h.2.2.2.2.1 l hl
  have e : uw w (247 + 7 * s + 5) v (3 + l) = w (3 + l) := uw_ne (by omega)
  unfold ln
  rw [e]
  refine List.map_congr_left fun p hp => ?_
  have := List.mem_range.mp hp
  exact uw_ne (by omega)
theorem us_same (hk : Kd w s = 2) : SameSg w (uw w (247 + 7 * s + 5) v) := ⟨uw_ne (by omega), uw_ne (by omega), fun t _ => ⟨by rw [us_Kd], fun f hf _ h5 => us_sgF t f hf h5, fun q => by
  rw [us_5, if_neg]
  intro e
  rw [e] at q
  exact q hk⟩⟩
theorem spr_SgRep {t : Nat} (hk : Kd w s = 2) (h : SgRep σ 3 w t) : SgRep (ms_si σ (3 + 2 + 3 * s) 13 (iZ (v : Int))) 3 (uw w (247 + 7 * s + 5) v) t := by
  obtain ⟨g1, g2, g3, g4, g5, g6, g7, g8⟩ := h
  have ne : ∀ k, k ≠ 13 → ms_i (ms_si σ (3 + 2 + 3 * s) 13 (iZ (v : Int))) (3 + 2 + 3 * t) k = ms_i σ (3 + 2 + 3 * t) k := fun k k1 => i_si_ne (Or.inr k1)
  have e3 := us_sgF (w := w) (s := s) (v := v) t 3 (by omega) (by omega)
  have e4 := us_sgF (w := w) (s := s) (v := v) t 4 (by omega) (by omega)
  have e6 := us_sgF (w := w) (s := s) (v := v) t 6 (by omega) (by omega)
  unfold SgRep
  rw [us_Kd, us_ex, us_Cl, e3, e4, us_5, e6, ne 1 (by omega), ne 3 (by omega), ne 4 (by omega), ne 6 (by omega), ne 7 (by omega), ne 8 (by omega), ne 9 (by omega), ne 10 (by omega), ne 5 (by omega), ne 11 (by omega), ne 12 (by omega)]
  by_cases q : t = s
  · subst q
    rw [if_pos rfl, i_si_same]
    refine ⟨g1, g2, g3, g4.si (by omega) (by omega), fun c => absurd hk c, fun c => by omega, fun c => by omega, fun c => ⟨(g8 c).1, (g8 c).2.1, rfl⟩⟩
  · rw [if_neg q, i_si_ne (Or.inl (by omega))]
    exact ⟨g1, g2, g3, g4.si (by omega) (by omega), g5, g6, g7, g8⟩
end Us
end Ss
