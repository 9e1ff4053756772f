/-! query, whatever the long numbers hold -/
section An
theorem k_query {σ : MsSt} (hv : IV σ) (x : Int32) : ∃ r σ1, f_X10_query σ 0 x = some (r, σ1) ∧ ∀ y, ∃ b σ2, f_X12_query (ph y σ1) 493 x = some (b, σ2) ∧ OkL r (ms_i σ2 493 7) b ∧ IV σ2 ∧ LJ (ph y σ1) σ2 := by
  obtain ⟨w, h⟩ := hv
  obtain ⟨z, z1, z2, rfl⟩ := iZ_of x
  have h0 := h
  obtain ⟨⟨p, n, H, b', S, hM⟩, hN, ⟨B, e, u1, u2, u3, u4⟩, hFt, hE1, hE2⟩ := h
  have h40 := hM.1.1.1.1
  have hneed := needLen2 u1 (by omega) z1 z2
  have e200 : ∀ s : MsSt, ms_i s 493 27 = iZ (e : Int) → (if (200 : Int32) < ms_i s 493 27 then (200 : Int32) else ms_i s 493 27) = iZ (if 200 < (e : Int) then 200 else (e : Int)) := fun s hs => by
    by_cases g : 200 < (e : Int)
    · rw [iltT (x := 200) (a := 200) rfl hs (by omega) g (by omega), if_pos g]; rfl
    · rw [iltF (x := 200) (a := 200) rfl hs (by omega) (by omega) (by omega), if_neg g, hs]
  have hc1 : (if 200 < (e : Int) then (200 : Int) else (e : Int)) ≤ 900 := by split <;> omega
  have hc2 : (0 : Int) ≤ (if 200 < (e : Int) then (200 : Int) else (e : Int)) := by split <;> omega
  by_cases q : 0 ≤ z ∧ z ≤ (if 200 < (e : Int) then (200 : Int) else (e : Int))
  · obtain ⟨E, rfl⟩ : ∃ E : Nat, z = (E : Int) := ⟨z.toNat, by omega⟩
    have hE2' : E ≤ 200 ∧ E ≤ e := by
      have := q.2
      split at this <;> omega
    obtain ⟨a, s7, c1, c2, c3⟩ := c_query (σ := σ) (w := w) (B := B) (E := E) hM.1 hE2'.1 (fun k hk => ⟨(u4 k (by omega)).1, (u4 k (by omega)).2.1⟩) (fun k hk => (u4 k (by omega)).2.2)
    have e8 : ms_i (ms_si s7 1 1 0) 1 8 = ms_i s7 1 8 := i_si_ne (Or.inr (by omega))
    obtain ⟨σ1, hσ1⟩ : ∃ σ1, σ1 = ms_si (ms_si s7 1 1 0) 0 13 (ms_i s7 1 8) := ⟨_, rfl⟩
    have e7c : ms_i σ1 1 7 = ms_i s7 1 7 := by rw [hσ1, i_si_ne (Or.inl (by omega)), i_si_ne (Or.inr (by omega))]
    have F1 : Fr (fun a k => a = 1 ∨ (277 ≤ a ∧ a < 285) ∨ (a = 0 ∧ k = 13)) σ σ1 := by
      rw [hσ1]
      exact ((c2.mono fun a k g => by unfold FTc at g; omega).trans (Fr.si _ _ (Or.inl rfl))).trans (Fr.si _ _ (Or.inr (Or.inr ⟨rfl, rfl⟩)))
    have ref : ∀ y, ∃ b τ', f_X12_query (ph y σ1) 493 (iZ (E : Int)) = some (b, τ') ∧ (okT s7 → b = a) ∧ (¬ okT s7 → b = (-1000000000) - ms_i s7 1 7) ∧ ms_i τ' 493 7 = 0 ∧ InvF τ' w ∧ LJ (ph y σ1) τ' := by
      intro y
      have G0 : Fr (fun a k => a = 493 ∧ k = 7) (ph y σ1) (ms_si (ph y σ1) 493 7 0) := Fr.si _ _ ⟨rfl, rfl⟩
      obtain ⟨b, τ', d1, d2, d3, d4, dj, d5⟩ := c3 (ms_si (ph y σ1) 493 7 0) (fun k hk => by rw [G0.1 _ _ (by omega), ph_i, F1.1 _ _ (by omega)]; exact (u4 k (by omega)).2.2) (((hM.1.frZ F1 (by intros; omega) (by intros; omega)).other (σ' := ph y σ1) rfl).frZ G0 (by intros; omega) (by intros; omega))
      have e27' : ms_i (ms_si (ph y σ1) 493 7 0) 493 27 = iZ (e : Int) := by rw [i_si_ne (Or.inr (by omega)), ph_i, F1.1 _ _ (by omega), u2]
      have href : f_X12_query (ph y σ1) 493 (iZ (E : Int)) = some (b, τ') := by
        unfold f_X12_query
        rw [nm_s, e200 _ e27', inRz z1 z2 (by omega) (by omega), Option.bind_some, ibT q]
        exact d1
      have FR : Fr (fun a k => a = 1 ∨ (277 ≤ a ∧ a < 285) ∨ (a = 0 ∧ k = 13) ∨ (a = 493 ∧ (k = 7 ∨ (27 ≤ k ∧ k ≤ 35) ∨ k = 40)) ∨ a = 515) σ (τ'.1, σ1.2) := by
        refine ⟨fun a k g => ?_, F1.2⟩
        show ms_i τ' a k = _
        rw [d5 a k (by unfold FQr FQp FTm; omega), G0.1 _ _ (by omega), ph_i, F1.1 _ _ (by omega)]
      have e7 : ms_i τ' 493 7 = 0 := by rw [d5 _ _ (by unfold FQr FQp FTm; omega), i_si_same]
      have e34 : ms_i τ' 493 34 = ms_i s7 1 8 := by
        by_cases g : okT s7
        · exact (d2 g).2
        · exact (d3 g).2
      have hInv : InvF (τ'.1, σ1.2) w := by
        refine ⟨⟨p, n, H, b', S, hM.frZ FR (by intros; omega) (by intros; omega)⟩, hN.fr h40 FR (by intros; omega) (by intros; omega), ⟨B, 0, ?_, d4, by omega, fun k hk => absurd hk (Nat.not_lt_zero _)⟩, hFt.fr FR (by omega) (by intros; omega) (by intros; omega) (by intros; omega), ?_, hE2.fr FR (by intros; omega)⟩
        · show ms_i τ' 1 1 = _
          rw [d5 _ _ (by unfold FQr FQp FTm; omega), G0.1 _ _ (by omega), ph_i, hσ1, i_si_ne (Or.inl (by omega)), i_si_same]
          rfl
        · show ms_i τ' 0 13 = ms_i τ' 493 34
          rw [d5 _ _ (by unfold FQr FQp FTm; omega), G0.1 _ _ (by omega), ph_i, hσ1, i_si_same, e34]
      exact ⟨b, τ', href, fun g => (d2 g).1, fun g => (d3 g).1, e7, hInv.other rfl, (LJ.of rfl).trans dj⟩
    have hcls : f_X10_query σ 0 (iZ (E : Int)) = if ms_i s7 1 7 = 0 then some (.inl a, σ1) else some (.inl ((-1000000000) - ms_i s7 1 7), σ1) := by
      unfold f_X10_query
      rw [hneed, btT q, x_rf3, c1, b2_s, x_rf0, nm_s, e8, nm_s, ← hσ1, e7c]
    by_cases g : okT s7
    · have g' : ms_i s7 1 7 = 0 := g
      refine ⟨.inl a, σ1, by rw [hcls, if_pos g'], fun y => ?_⟩
      obtain ⟨b, τ', r1, r2, r3, r4, r5, r6⟩ := ref y
      exact ⟨b, τ', r1, ⟨r4, (r2 g).symm⟩, ⟨w, r5⟩, r6⟩
    · have g' : ¬ ms_i s7 1 7 = 0 := g
      refine ⟨.inl ((-1000000000) - ms_i s7 1 7), σ1, by rw [hcls, if_neg g'], fun y => ?_⟩
      obtain ⟨b, τ', r1, r2, r3, r4, r5, r6⟩ := ref y
      exact ⟨b, τ', r1, ⟨r4, (r3 g).symm⟩, ⟨w, r5⟩, r6⟩
  · refine ⟨.inr 1, σ, ?_, fun y => ?_⟩
    · unfold f_X10_query
      rw [hneed, btF q]
    · have hb : OkL (.inr 1) (ms_i (ms_si (ms_si (ph y σ) 493 7 0) 493 7 1) 493 7) 0 := ⟨rfl, i_si_same _ _ _ _⟩
      have e27 : ms_i (ms_si (ph y σ) 493 7 0) 493 27 = iZ (e : Int) := by rw [i_si_ne (Or.inr (by omega)), ph_i, u2]
      refine ⟨0, ms_si (ms_si (ph y σ) 493 7 0) 493 7 1, ?_, hb, ⟨w, ((h0.other (σ' := ph y σ) rfl).scr ((fr7 _ 0).trans (fr7 _ 1)))⟩, LJ.of rfl⟩
      unfold f_X12_query
      rw [nm_s, e200 _ e27, inRz z1 z2 (by omega) (by omega), Option.bind_some, ibF q, raise_s, b2_s]
end An
