/-! setClass: the class's store -/
section Sc
variable {σ : MsSt} {w : Nat → Nat}
theorem cls_SgRep {s c t : Nat} (hk : Kd w s = 1) (h : SgRep σ 3 w t) : SgRep (ms_si σ (3 + 2 + 3 * s) 4 (iZ (c : Int))) 3 (uw w (247 + 7 * s + 1) c) t := by
  obtain ⟨g1, g2, g3, g4, g5, g6, g7, g8⟩ := h
  have ne : ∀ k, k ≠ 4 → ms_i (ms_si σ (3 + 2 + 3 * s) 4 (iZ (c : Int))) (3 + 2 + 3 * t) k = ms_i σ (3 + 2 + 3 * t) k := fun k k1 => i_si_ne (Or.inr k1)
  have e3 := uc_sgF (w := w) (s := s) (v := c) t 3 (by omega) (by omega)
  have e4 := uc_sgF (w := w) (s := s) (v := c) t 4 (by omega) (by omega)
  have e5 := uc_sgF (w := w) (s := s) (v := c) t 5 (by omega) (by omega)
  have e6 := uc_sgF (w := w) (s := s) (v := c) t 6 (by omega) (by omega)
  unfold SgRep
  rw [uc_Kd, uc_ex, uc_Cl, e3, e4, e5, e6, ne 1 (by omega), ne 3 (by omega), ne 6 (by omega), ne 7 (by omega), ne 13 (by omega), ne 8 (by omega), ne 9 (by omega), ne 10 (by omega), ne 5 (by omega), ne 11 (by omega), ne 12 (by omega)]
  refine ⟨g1, g2, ?_, g4.si (by omega) (by omega), g5, g6, g7, g8⟩
  by_cases q : t = s
  · rw [if_pos q, q, i_si_same]
  · rw [if_neg q, i_si_ne (Or.inl (by omega))]
    exact g3
end Sc
