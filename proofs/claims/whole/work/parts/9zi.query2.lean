/-! query, under the whole invariant -/
section Qa
variable {σ τ : MsSt} {w : Nat → Nat}
theorem InvF.other {σ' : MsSt} (h : InvF σ w) (e : σ'.1 = σ.1) : InvF σ' w := by
  obtain ⟨a, b⟩ := σ
  obtain ⟨a', b'⟩ := σ'
  cases e
  exact h
theorem needLen2 {z : Int} {e : Nat} (he : ms_i σ 1 1 = iZ (e : Int)) (heM : e ≤ 5000) (z1 : -2147483648 ≤ z) (z2 : z < 2147483648) : f_X10_needLength σ 0 (iZ z) 200 = some (if 0 ≤ z ∧ z ≤ (if 200 < (e : Int) then 200 else (e : Int)) then none else some 1) := by
  unfold f_X10_needLength
  by_cases g : z < 0
  · rw [iltT rfl i0 (by omega) g (by omega), if_neg (by omega)]
  · rw [iltF rfl i0 (by omega) (by omega) (by omega)]
    by_cases g2 : 200 < z
    · rw [iltT (x := 200) (a := 200) rfl rfl (by omega) g2 (by omega), if_neg (by split <;> omega)]
    · rw [iltF (x := 200) (a := 200) rfl rfl (by omega) (by omega) (by omega), x_rf0]
      by_cases g3 : (e : Int) < z
      · rw [iltT he rfl (by omega) g3 (by omega), if_neg (by split <;> omega)]
      · rw [iltF he rfl (by omega) (by omega) (by omega), if_pos ⟨by omega, by split <;> omega⟩]
theorem q_query (h : InvF σ w) (x : Int32) : ∃ r σ1 b σ2, f_X10_query σ 0 x = some (r, σ1) ∧ f_X12_query σ1 493 x = some (b, σ2) ∧ OkL r (ms_i σ2 493 7) b ∧ InvF σ2 w := by
  obtain ⟨z, z1, z2, rfl⟩ := iZ_of x
  have h0 := h
  obtain ⟨⟨p, n, H, b', S, hM⟩, hN, ⟨B, e, u1, u2, u3, u4⟩, hFt, hE1, hE2⟩ := h
  have h40 := hM.1.1.1.1
  have hneed := needLen2 u1 (by omega) z1 z2
  have e200 : ∀ s : MsSt, ms_i s 493 27 = iZ (e : Int) → (if (200 : Int32) < ms_i s 493 27 then (200 : Int32) else ms_i s 493 27) = iZ (if 200 < (e : Int) then 200 else (e : Int)) := fun s hs => by
    by_cases g : 200 < (e : Int)
    · rw [iltT (x := 200) (a := 200) rfl hs (by omega) g (by omega), if_pos g]; rfl
    · rw [iltF (x := 200) (a := 200) rfl hs (by omega) (by omega) (by omega), if_neg g, hs]
  have hc1 : (if 200 < (e : Int) then (200 : Int) else (e : Int)) ≤ 900 := by split <;> omega
  have hc2 : (0 : Int) ≤ (if 200 < (e : Int) then (200 : Int) else (e : Int)) := by split <;> omega
  by_cases q : 0 ≤ z ∧ z ≤ (if 200 < (e : Int) then (200 : Int) else (e : Int))
  · obtain ⟨E, rfl⟩ : ∃ E : Nat, z = (E : Int) := ⟨z.toNat, by omega⟩
    have hE2' : E ≤ 200 ∧ E ≤ e := by
      have := q.2
      split at this <;> omega
    obtain ⟨a, s7, c1, c2, c3⟩ := c_query (σ := σ) (w := w) (B := B) (E := E) hM.1 hE2'.1 (fun k hk => ⟨(u4 k (by omega)).1, (u4 k (by omega)).2.1⟩) (fun k hk => (u4 k (by omega)).2.2)
    have e8 : ms_i (ms_si s7 1 1 0) 1 8 = ms_i s7 1 8 := i_si_ne (Or.inr (by omega))
    obtain ⟨σ1, hσ1⟩ : ∃ σ1, σ1 = ms_si (ms_si s7 1 1 0) 0 13 (ms_i s7 1 8) := ⟨_, rfl⟩
    have e7c : ms_i σ1 1 7 = ms_i s7 1 7 := by rw [hσ1, i_si_ne (Or.inl (by omega)), i_si_ne (Or.inr (by omega))]
    have F1 : Fr (fun a k => a = 1 ∨ (277 ≤ a ∧ a < 285) ∨ (a = 0 ∧ k = 13)) σ σ1 := by
      rw [hσ1]
      exact ((c2.mono fun a k g => by unfold FTc at g; omega).trans (Fr.si _ _ (Or.inl rfl))).trans (Fr.si _ _ (Or.inr (Or.inr ⟨rfl, rfl⟩)))
    have G0 : Fr (fun a k => a = 493 ∧ k = 7) σ1 (ms_si σ1 493 7 0) := Fr.si _ _ ⟨rfl, rfl⟩
    obtain ⟨b, τ', d1, d2, d3, d4, dj, d5⟩ := c3 (ms_si σ1 493 7 0) (fun k hk => by rw [G0.1 _ _ (by omega), F1.1 _ _ (by omega)]; exact (u4 k (by omega)).2.2) ((hM.1.frZ F1 (by intros; omega) (by intros; omega)).frZ G0 (by intros; omega) (by intros; omega))
    have e27' : ms_i (ms_si σ1 493 7 0) 493 27 = iZ (e : Int) := by rw [i_si_ne (Or.inr (by omega)), F1.1 _ _ (by omega), u2]
    have href : f_X12_query σ1 493 (iZ (E : Int)) = some (b, τ') := by
      unfold f_X12_query
      rw [nm_s, e200 _ e27', inRz z1 z2 (by omega) (by omega), Option.bind_some, ibT q]
      exact d1
    -- what is left of the store
    have FR : Fr (fun a k => a = 1 ∨ (277 ≤ a ∧ a < 285) ∨ (a = 0 ∧ k = 13) ∨ (a = 493 ∧ (k = 7 ∨ (27 ≤ k ∧ k ≤ 35) ∨ k = 40)) ∨ a = 515) σ (τ'.1, σ1.2) := by
      refine ⟨fun a k g => ?_, F1.2⟩
      show ms_i τ' a k = _
      rw [d5 a k (by unfold FQr FQp FTm; omega), G0.1 _ _ (by omega), F1.1 _ _ (by omega)]
    have e7 : ms_i τ' 493 7 = 0 := by rw [d5 _ _ (by unfold FQr FQp FTm; omega), i_si_same]
    have e34 : ms_i τ' 493 34 = ms_i s7 1 8 := by
      by_cases g : okT s7
      · exact (d2 g).2
      · exact (d3 g).2
    have hInv : InvF (τ'.1, σ1.2) w := by
      refine ⟨⟨p, n, H, b', S, hM.frZ FR (by intros; omega) (by intros; omega)⟩, hN.fr h40 FR (by intros; omega) (by intros; omega), ⟨B, 0, ?_, d4, by omega, fun k hk => absurd hk (Nat.not_lt_zero _)⟩, hFt.fr FR (by omega) (by intros; omega) (by intros; omega) (by intros; omega), ?_, hE2.fr FR (by intros; omega)⟩
      · show ms_i τ' 1 1 = _
        rw [d5 _ _ (by unfold FQr FQp FTm; omega), G0.1 _ _ (by omega), hσ1, i_si_ne (Or.inl (by omega)), i_si_same]
        rfl
      · show ms_i τ' 0 13 = ms_i τ' 493 34
        rw [d5 _ _ (by unfold FQr FQp FTm; omega), G0.1 _ _ (by omega), hσ1, i_si_same, e34]
    have hcls : f_X10_query σ 0 (iZ (E : Int)) = if ms_i s7 1 7 = 0 then some (.inl a, σ1) else some (.inl ((-1000000000) - ms_i s7 1 7), σ1) := by
      unfold f_X10_query
      rw [hneed, btT q, x_rf3, c1, b2_s, x_rf0, nm_s, e8, nm_s, ← hσ1, e7c]
    by_cases g : okT s7
    · have g' : ms_i s7 1 7 = 0 := g
      exact ⟨.inl a, σ1, b, τ', by rw [hcls, if_pos g'], href, ⟨e7, (d2 g).1.symm⟩, hInv.other rfl⟩
    · have g' : ¬ ms_i s7 1 7 = 0 := g
      exact ⟨.inl ((-1000000000) - ms_i s7 1 7), σ1, b, τ', by rw [hcls, if_neg g'], href, ⟨e7, (d3 g).1.symm⟩, hInv.other rfl⟩
  · have hb : OkL (.inr 1) (ms_i (ms_si (ms_si σ 493 7 0) 493 7 1) 493 7) 0 := ⟨rfl, i_si_same _ _ _ _⟩
    have e27 : ms_i (ms_si σ 493 7 0) 493 27 = iZ (e : Int) := by rw [i_si_ne (Or.inr (by omega)), u2]
    refine ⟨.inr 1, σ, 0, ms_si (ms_si σ 493 7 0) 493 7 1, ?_, ?_, hb, h0.scr ((fr7 σ 0).trans (fr7 _ 1))⟩
    · unfold f_X10_query
      rw [hneed, btF q]
    · unfold f_X12_query
      rw [nm_s, e200 _ e27, inRz z1 z2 (by omega) (by omega), Option.bind_some, ibF q, raise_s, b2_s]
end Qa
