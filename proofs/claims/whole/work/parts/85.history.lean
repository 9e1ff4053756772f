/-! the history: a ring of memories beside rows that move down -/
section Hi
variable {σ : MsSt} {w : Nat → Nat}
def HC (σ : MsSt) (p n : Nat) (H : Nat → Nat → Nat) : Prop := ms_i σ 285 1 = iZ (p : Int) ∧ ms_i σ 285 2 = iZ (n : Int) ∧ p < 10 ∧ n ≤ 10 ∧ ∀ j, j < n → MemRep σ (287 + 14 * ((p + 10 - n + j) % 10)) (H j)
def HR (σ : MsSt) (n : Nat) (H : Nat → Nat → Nat) : Prop := ms_i σ 493 6 = iZ (n : Int) ∧ ∀ j k, j < n → k < 527 → ms_i σ 497 (527 * j + k) = iZ (H j k : Int)
def pN (n : Nat) : Nat := if n = 10 then 10 else n + 1
def pH (n : Nat) (H : Nat → Nat → Nat) (w : Nat → Nat) : Nat → Nat → Nat := fun j => if n = 10 then (if j = 9 then w else H (j + 1)) else (if j = n then w else H j)
theorem hi_refs : ms_rf 285 0 = 286 ∧ ms_ln 286 = 10 ∧ ∀ j, j < 10 → ms_rf 286 j = 287 + 14 * j := by decide +kernel
theorem c_record {p n : Nat} {H : Nat → Nat → Nat} (hW : WF w) (hN : NowRep σ 3 w) (hH : HC σ p n H) : ∃ σ' p', f_X2_record σ 285 3 = some σ' ∧ HC σ' p' (pN n) (pH n H w) ∧ Fr (In 285 427) σ σ' := by
  obtain ⟨h1, h2, hp, hn, hM⟩ := hH
  obtain ⟨r0, r1, r2⟩ := hi_refs
  obtain ⟨s1, a1, a2, a3⟩ := keep_s hW hN (a := 287 + 14 * p) ⟨p, by omega, rfl⟩
  have k1 : ms_i s1 285 1 = iZ (p : Int) := by rw [a3.at (by omega)]; exact h1
  have k2 : ms_i s1 285 2 = iZ (n : Int) := by rw [a3.at (by omega)]; exact h2
  have hq : ∀ q, q < 10 → q ≠ p → ∀ x, MemRep σ (287 + 14 * q) x → MemRep s1 (287 + 14 * q) x := fun q h1 h2 x hx => hx.away a3 (by omega)
  have h10 : Int32.ofNat (ms_ln (ms_rf 285 0)) = iZ 10 := by rw [r0, r1]; rfl
  have fin : ∀ p' : Nat, p' < 10 → p' = (p + 1) % 10 → ∃ σ', f_X2_record_43 s1 285 (iZ (p' : Int)) 285 = some σ' ∧ HC σ' p' (pN n) (pH n H w) ∧ Fr (In 285 427) σ σ' := by
    intro p' hp' ep
    have e2 : (if Int32.ofNat (ms_ln (ms_rf 285 0)) < ms_i (ms_si s1 285 1 (iZ (p' : Int))) 285 2 + 1 then Int32.ofNat (ms_ln (ms_rf 285 0)) else ms_i (ms_si s1 285 1 (iZ (p' : Int))) 285 2 + 1) = iZ (pN n : Int) := by
      have e3 : ms_i (ms_si s1 285 1 (iZ (p' : Int))) 285 2 + 1 = iZ ((n : Int) + 1) := by rw [i_si_ne (Or.inr (by omega)), k2, i1, iZ_add]
      rw [ilt h10 e3 (by omega) (by omega) (by omega) (by omega), h10, e3]
      unfold pN
      by_cases q : n = 10
      · rw [if_pos q, if_pos (by omega)]
        rfl
      · rw [if_neg q, if_neg (by omega)]
        rfl
    have G1 : Fr (In 285 286) s1 (ms_si s1 285 1 (iZ (p' : Int))) := Fr.si _ _ ⟨Nat.le_refl _, by omega⟩
    have G2 : Fr (In 285 286) s1 (ms_si (ms_si s1 285 1 (iZ (p' : Int))) 285 2 (iZ (pN n : Int))) := G1.trans (Fr.si _ _ ⟨Nat.le_refl _, by omega⟩)
    refine ⟨ms_si (ms_si s1 285 1 (iZ (p' : Int))) 285 2 (iZ (pN n : Int)), ?_, ⟨?_, i_si_same _ _ _ _, hp', ?_, fun j hj => ?_⟩, (a3.widen (by omega) (by omega)).trans (G2.widen (by omega) (by omega))⟩
    · unfold f_X2_record_43
      rw [nm_s, nm_s, e2]
    · rw [i_si_ne (Or.inr (by omega)), i_si_same]
    · unfold pN; split <;> omega
    · have hx : MemRep s1 (287 + 14 * ((p' + 10 - pN n + j) % 10)) (pH n H w j) := by
        by_cases q : n = 10
        · have eN : pN n = 10 := if_pos q
          rw [eN] at hj ⊢
          by_cases q9 : j = 9
          · have eH : pH n H w j = w := by unfold pH; rw [if_pos q, if_pos q9]
            have ei : (p' + 10 - 10 + j) % 10 = p := by omega
            rw [eH, ei]
            exact a2
          · have eH : pH n H w j = H (j + 1) := by unfold pH; rw [if_pos q, if_neg q9]
            have ei : (p' + 10 - 10 + j) % 10 = (p + 10 - n + (j + 1)) % 10 := by omega
            rw [eH, ei]
            exact hq _ (by omega) (by omega) _ (hM (j + 1) (by omega))
        · have eN : pN n = n + 1 := if_neg q
          rw [eN] at hj ⊢
          by_cases qn : j = n
          · have eH : pH n H w j = w := by unfold pH; rw [if_neg q, if_pos qn]
            have ei : (p' + 10 - (n + 1) + j) % 10 = p := by omega
            rw [eH, ei]
            exact a2
          · have eH : pH n H w j = H j := by unfold pH; rw [if_neg q, if_neg qn]
            have ei : (p' + 10 - (n + 1) + j) % 10 = (p + 10 - n + j) % 10 := by omega
            rw [eH, ei]
            exact hq _ (by omega) (by omega) _ (hM j (by omega))
      exact hx.away G2 (by omega)
  have hmem : f_X2_memoryAt σ 285 (iZ (p : Int)) = some (some (287 + 14 * p)) := by
    unfold f_X2_memoryAt
    rw [iltF rfl i0 (by omega) (by omega) (by omega), iltT rfl h10 (by omega) (by omega) (by omega), r0, ala_iZ (by omega) (by omega), Option.bind_some, r2 p hp]
  have e1 : ms_i s1 285 1 + 1 = iZ ((p : Int) + 1) := by rw [k1, i1, iZ_add]
  by_cases q : p + 1 < 10
  · obtain ⟨σ', c1, c2⟩ := fin (p + 1) q (by omega)
    refine ⟨σ', p + 1, ?_, c2⟩
    unfold f_X2_record f_X2_record_18
    rw [h1, hmem, bq_s, a1, Option.bind_some, iltT e1 h10 (by omega) (by omega) (by omega), e1]
    exact c1
  · obtain ⟨σ', c1, c2⟩ := fin 0 (by omega) (by omega)
    refine ⟨σ', 0, ?_, c2⟩
    unfold f_X2_record f_X2_record_18
    rw [h1, hmem, bq_s, a1, Option.bind_some, iltF e1 h10 (by omega) (by omega) (by omega)]
    exact c1
end Hi
