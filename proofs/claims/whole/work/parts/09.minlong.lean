/-! the least of two long numbers -/
section MsMinL
variable {α : Type} {G : MG} {M : MM} {d mc ms cu su : Nat} {κ : α → MsRes} {pc : Nat} {lv : List (Nat × Value)} {rest : List Value} {σ : MsSt} {o : Option α}
theorem tr_mminJ {x y : Int64} {idx : Nat} (hw : Cond.methodLink M.1 idx Lib.MathLoose.min_long.x ∈ lw_tbl) (hst : Cond.static Lib.MathLoose.min_long.x ∈ lw_tbl) (hin : Cond.initialized "java/lang/Math" ∈ lw_tbl) (hco : Cond.code Lib.MathLoose.min_long.x Lib.MathLoose.min_long.code 4 (some .long) ∈ lw_tbl) (hdd : 1 ≤ d) (hs8 : (rest.map fun v => v.category).sum ≤ 8) (hc1 : cu ≤ mc) (hs1 : su ≤ ms) (hd : decode M.2.1 pc = .ok (.invokestatic idx, 3)) (kk : TrO G M d mc ms cu su κ (pc + 3) lv (.long (if y < x then y else x) :: rest) σ o) : TrO G M d mc ms cu su κ pc lv (.long y :: .long x :: rest) σ o := by
  intro r hr p e R s m args below meth c H locs cells slots ls X hR hc hs hP hL hl
  exact va_mmin_long X.1 X.2.1 (X.2.2.2.2.1.trans hl.1.symm) X.2.2.2.2.2.1 (X.2.2.2.2.2.2.1.w hw rfl) (X.2.2.2.2.2.2.1.w hst rfl) (X.2.2.2.2.2.2.1.w hin rfl) (X.2.2.2.2.2.2.1.w hco rfl) (Nat.le_trans hdd hR.1) (by have h1 := hR.2.1; rw [ms_sumcat]; omega) (by have h1 := hR.2.2.1; omega) (by have h1 := hR.2.2.2; omega) hd (kk r hr p e R s m args below meth c H locs cells slots ls X hR hc hs hP hL hl)
end MsMinL
/-! of what class an answer is -/
theorem ra_X6_told {σ : MsSt} {l0 : Nat} {l1 : Int32} {v : Nat} (h0 : ms_kd l0 = 7) (e : f_X6_told σ l0 l1 = some v) : ms_kd v = 8 := by
  unfold f_X6_told at e
  by_cases c1 : l1 < 0
  · rw [if_pos c1] at e
    cases e
    exact rk_6_2 h0
  · rw [if_neg c1] at e
    by_cases c2 : l1 < Int32.ofNat (ms_ln (ms_rf l0 0))
    · rw [if_pos c2] at e
      obtain ⟨x, e1, e2⟩ := ms_bind_s e
      cases e2
      exact re_24 (rk_6_0 h0) e1
    · rw [if_neg c2] at e
      cases e
      exact rk_6_2 h0
theorem ra_X6_lineAt {σ : MsSt} {l0 : Nat} {l1 : Int32} {v : Nat} (h0 : ms_kd l0 = 7) (e : f_X6_lineAt σ l0 l1 = some v) : ms_kd v = 6 := by
  unfold f_X6_lineAt at e
  by_cases c1 : l1 < 0
  · rw [if_pos c1] at e
    cases e
    exact rk_6_3 h0
  · rw [if_neg c1] at e
    by_cases c2 : l1 < Int32.ofNat (ms_ln (ms_rf l0 1))
    · rw [if_pos c2] at e
      obtain ⟨x, e1, e2⟩ := ms_bind_s e
      cases e2
      exact re_25 (rk_6_1 h0) e1
    · rw [if_neg c2] at e
      cases e
      exact rk_6_3 h0
theorem ra_X2_memoryAt {σ : MsSt} {l0 : Nat} {l1 : Int32} {v : Nat} (h0 : ms_kd l0 = 3) (e : f_X2_memoryAt σ l0 l1 = some (some v)) : ms_kd v = 4 := by
  unfold f_X2_memoryAt at e
  by_cases c1 : l1 < 0
  · rw [if_pos c1] at e
    cases e
  · rw [if_neg c1] at e
    by_cases c2 : l1 < Int32.ofNat (ms_ln (ms_rf l0 0))
    · rw [if_pos c2] at e
      obtain ⟨x, e1, e2⟩ := ms_bind_s e
      cases e2
      exact re_26 (rk_2_0 h0) e1
    · rw [if_neg c2] at e
      cases e
theorem ms_b2_s {α β γ : Type} {x : Option (β × γ)} {f : β → γ → Option α} {r : α} (h : ms_b2 x f = some r) : ∃ a b, x = some (a, b) ∧ f a b = some r := by
  unfold ms_b2 at h
  obtain ⟨v, e1, e2⟩ := ms_bind_s h
  exact ⟨v.1, v.2, e1, e2⟩
theorem ra_X8_beginSign {σ : MsSt} {l0 : Nat} {l1 : Int32} {v : Nat} {g : MsSt} (h0 : ms_kd l0 = 9) (e : f_X8_beginSign σ l0 l1 = some (v, g)) : ms_kd v = 8 := by
  unfold f_X8_beginSign at e
  obtain ⟨s1, e1, e⟩ := ms_bind_s e
  obtain ⟨v2, e2, e⟩ := ms_bind_s e
  obtain ⟨v3, s4, e3, e⟩ := ms_b2_s e
  obtain ⟨s5, e4, e⟩ := ms_bind_s e
  cases e
  exact ra_X6_told (rk_8_1 h0) e2
theorem ra_X10_rowOf {σ : MsSt} {l0 : Nat} {l1 l2 : Int32} {v : Nat} {g : MsSt} (h0 : ms_kd l0 = 11) (e : f_X10_rowOf σ l0 l1 l2 = some (v, g)) : ms_kd v = 6 := by
  unfold f_X10_rowOf at e
  obtain ⟨v1, e1, e⟩ := ms_bind_s e
  by_cases c1 : l2 = 0
  · rw [if_pos c1] at e
    cases e
    exact ra_X6_lineAt (rk_10_1 h0) e1
  · rw [if_neg c1] at e
    obtain ⟨s2, e2, e⟩ := ms_bind_s e
    by_cases c2 : l2 = 1
    · rw [if_pos c2] at e
      cases e
      exact rk_1_2 (rk_10_6 h0)
    · rw [if_neg c2] at e
      cases e
      exact rk_1_3 (rk_10_6 h0)
