/-! query: the answer -/
section Q8
variable {σ τ : MsSt} {B w : Nat → Nat} {E : Nat}
theorem least {P : Nat → Bool} : ∀ n, (∃ p, p < n ∧ P p = true) → ∃ p, p < n ∧ P p = true ∧ ∀ i, i < p → P i = false := by
  intro n
  induction n with
  | zero => rintro ⟨p, h, _⟩; omega
  | succ n ih =>
    rintro ⟨p, h1, h2⟩
    by_cases g : ∃ p, p < n ∧ P p = true
    · obtain ⟨q, q1, q2, q3⟩ := ih g
      exact ⟨q, by omega, q2, q3⟩
    · refine ⟨p, h1, h2, fun i hi => Bool.eq_false_iff.mpr fun e => g ⟨i, by omega, e⟩⟩
theorem cnt_none : ∀ n, cnt (fun _ => false) n = 0 := by
  intro n
  induction n with
  | zero => rfl
  | succ n ih => rw [cnt_succ, ih, if_neg (by decide)]
theorem mk_cnt {h : Int64} {f : Nat → Bool} {n : Nat} (hm : MkIs h f n) (hn : n ≤ 60) : cnt (fun i => mb h i) 64 = cnt f n := by
  have e1 : cnt (fun i => mb h i) n = cnt f n := cnt_congr fun t ht => by rw [hm t (by omega), decide_eq_true ht, Bool.true_and]
  have e2 : cnt (fun d => mb h (n + d)) (64 - n) = cnt (fun _ => false) (64 - n) := cnt_congr fun t ht => by rw [hm (n + t) (by omega), decide_eq_false (by omega), Bool.false_and]
  rw [show 64 = n + (64 - n) by omega, cnt_add, e1, e2, cnt_none]
  rfl
theorem lg_zero (m : Int64) : (lg_cmp m 0 = 0) = (m = 0) := by
  unfold lg_cmp
  apply propext
  constructor
  · intro h
    by_cases g : m > 0
    · simp [g] at h
    · by_cases g2 : m = 0
      · exact g2
      · simp [g, g2] at h
  · intro h
    subst h
    decide
theorem ntz_tot (m : Int64) (h : m ≠ 0) : ∃ p, p < 64 ∧ mb m p = true ∧ (∀ i, i < p → mb m i = false) ∧ f_J13_numberOfTrailingZeros_95d88 σ m = some (iZ (p : Int)) := by
  have hex : ∃ p, p < 64 ∧ mb m p = true := by
    by_cases g : ∃ p, p < 64 ∧ mb m p = true
    · exact g
    · exact absurd (mb_ext fun d hd => by rw [mb_zero]; exact Bool.eq_false_iff.mpr fun e => g ⟨d, hd, e⟩) h
  obtain ⟨p, p1, p2, p3⟩ := least (P := fun i => mb m i) 64 hex
  exact ⟨p, p1, p2, p3, ntz64 p1 p2 p3⟩
/-- what the class answers from its row of bits -/
def ansC (σ : MsSt) (v : Int32) (h : Int64) : Option (Int32 × MsSt) := if v = 0 then (if lg_cmp h 0 = 0 then some (-1, σ) else (f_J13_numberOfTrailingZeros_95d88 σ h).bind fun v8 => some (v8, σ)) else (f_J13_bitCount_95d88 σ h).bind fun v9 => some (v9, σ)
theorem ans_tot (v : Int32) (h : Int64) : ∃ a, ansC σ v h = some (a, σ) := by
  unfold ansC
  by_cases g : v = 0
  · rw [if_pos g]
    by_cases g2 : h = 0
    · rw [if_pos (by rw [lg_zero]; exact g2)]
      exact ⟨_, rfl⟩
    · obtain ⟨p, -, -, -, e⟩ := ntz_tot (σ := σ) h g2
      rw [if_neg (by rw [lg_zero]; exact g2), e, Option.bind_some]
      exact ⟨_, rfl⟩
  · rw [if_neg g, bits_s, Option.bind_some]
    exact ⟨_, rfl⟩
theorem ans_many {v : Int32} {h : Int64} {f : Nat → Bool} {n : Nat} (hv : ¬ v = 0) (hm : MkIs h f n) (hn : n ≤ 60) : ansC σ v h = some (iZ (cnt f n : Int), σ) := by
  unfold ansC
  rw [if_neg hv, bits_s, Option.bind_some, mk_cnt hm hn]
theorem ans_first {v : Int32} {h : Int64} {f : Nat → Bool} {n : Nat} (hv : v = 0) (hm : MkIs h f n) (hn : n ≤ 60) : (∃ p, p < n ∧ f p = true ∧ (∀ i, i < p → f i = false) ∧ ansC σ v h = some (iZ (p : Int), σ)) ∨ ((∀ i, i < n → f i = false) ∧ ansC σ v h = some (-1, σ)) := by
  unfold ansC
  rw [if_pos hv]
  by_cases g2 : h = 0
  · right
    rw [if_pos (by rw [lg_zero]; exact g2)]
    refine ⟨fun i hi => ?_, rfl⟩
    have := hm i (by omega)
    rw [g2, mb_zero, decide_eq_true hi, Bool.true_and] at this
    exact this.symm
  · left
    obtain ⟨p, p1, p2, p3, e⟩ := ntz_tot (σ := σ) h g2
    rw [if_neg (by rw [lg_zero]; exact g2), e, Option.bind_some]
    have hp := hm p p1
    rw [p2] at hp
    have hpn : p < n := by
      by_cases g : p < n
      · exact g
      · rw [decide_eq_false g, Bool.false_and] at hp
        cases hp
    rw [decide_eq_true hpn, Bool.true_and] at hp
    refine ⟨p, hpn, hp.symm, fun i hi => ?_, rfl⟩
    have := hm i (by omega)
    rw [p3 i hi, decide_eq_true (show i < n by omega), Bool.true_and] at this
    exact this.symm
/-- the reference goes from place to place -/
theorem m_places {c : List Int} {f : Nat → Bool} {l2 : Int32} (hR : RunsV w c (fun k => if f k = true then 1 else 0)) (hI : InvS τ w) (hM : ms_i τ 493 40 = iZ (c.length : Int)) (hM2 : c.length ≤ 200) (hc : CodeAt τ 0 c) : ∃ b τ', f_X12_query_126 ms_fuel τ 493 l2 0 0 = some (b, τ') ∧ (τ'.1 = τ.1 ∧ LJ τ τ') ∧ (l2 = 0 → b = iZ (cnt f (qL w).length : Int)) ∧ (¬ l2 = 0 → (∀ p, p < (qL w).length → f p = true → (∀ i, i < p → f i = false) → b = iZ (p : Int)) ∧ ((∀ i, i < (qL w).length → f i = false) → b = -1)) := by
  obtain ⟨k2, k60, klt⟩ := qL_ok hI.1
  have hlen : (qL w).length = w (3 + w 2) := ln_length w (w 2)
  have key : ∃ r : Int32 × MsSt, f_X12_query_126 ms_fuel τ 493 l2 0 0 = some r ∧ ((r.2.1 = τ.1 ∧ LJ τ r.2) ∧ (l2 = 0 → r.1 = iZ (cnt f (qL w).length : Int)) ∧ (¬ l2 = 0 → (∀ p, p < (qL w).length → f p = true → (∀ i, i < p → f i = false) → r.1 = iZ (p : Int)) ∧ ((∀ i, i < (qL w).length → f i = false) → r.1 = -1))) := by
    refine lp0 (S := MsSt × Int32 × Int32) (β := Int32 × MsSt) (f := fun n t => f_X12_query_126 n t.1 493 l2 t.2.1 t.2.2) (Q := fun r => (r.2.1 = τ.1 ∧ LJ τ r.2) ∧ (l2 = 0 → r.1 = iZ (cnt f (qL w).length : Int)) ∧ (¬ l2 = 0 → (∀ p, p < (qL w).length → f p = true → (∀ i, i < p → f i = false) → r.1 = iZ (p : Int)) ∧ ((∀ i, i < (qL w).length → f i = false) → r.1 = -1)))
      (fun i t => t.2.2 = iZ (i : Int) ∧ i ≤ (qL w).length ∧ (t.1.1 = τ.1 ∧ LJ τ t.1) ∧ (l2 = 0 → t.2.1 = iZ (cnt f i : Int)) ∧ (¬ l2 = 0 → ∀ j, j < i → f j = false)) (qL w).length (s := (τ, 0, 0)) ⟨rfl, Nat.zero_le _, ⟨rfl, LJ.of rfl⟩, fun _ => rfl, fun _ j hj => absurd hj (by omega)⟩ (by omega) ?_ ?_
    · rintro i ⟨t, y, x⟩ ⟨hx, hi, ⟨ht, hj⟩, h1, h2⟩ hlt
      dsimp only at hx ht hj h1 h2 ⊢
      subst hx
      have hIt := hI.other ht
      have g1 : ms_ald t 494 2 = some (iZ (w 2 : Int)) := mw_get hIt.2.2 (Or.inl rfl) (z := 2) (k := 2) rfl (by omega)
      have g2 : ms_ald t 494 (3 + iZ (w 2 : Int)) = some (iZ ((qL w).length : Int)) := by
        rw [show (3 : Int32) = iZ 3 from rfl, iZ_add, mw_get hIt.2.2 (Or.inl rfl) (k := 3 + w 2) (by omega) (by omega), hlen]
      obtain ⟨t', a1, a2, a3⟩ := m_holds hR hIt ((i_other ht _ _).trans hM) hM2 (hc.eq _ _ fun k _ => i_other ht _ _) hlt
      have e1 : iZ (i : Int) + 1 = iZ ((i + 1 : Nat) : Int) := by rw [i1, iZ_add]; rfl
      have hst : ∀ n, f_X12_query_126 (n + 1) t 493 l2 y (iZ (i : Int)) = if f i = true then (if l2 = 0 then f_X12_query_126 n t' 493 l2 (y + 1) (iZ ((i + 1 : Nat) : Int)) else some (iZ (i : Int), t')) else f_X12_query_126 n t' 493 l2 y (iZ ((i + 1 : Nat) : Int)) := by
        intro n
        show (ms_ald t (ms_rf 493 0) 2).bind _ = _
        rw [m_rf0, g1, Option.bind_some, g2, Option.bind_some, iltT rfl rfl (by omega) (by omega) (by omega), a1, b2_s, ib01, e1]
      by_cases q : f i = true
      · by_cases ql : l2 = 0
        · left
          refine ⟨(t', iZ (cnt f (i + 1) : Int), iZ ((i + 1 : Nat) : Int)), ⟨rfl, hlt, ⟨a2.trans ht, hj.trans a3⟩, fun _ => rfl, fun g => absurd ql g⟩, fun n => ?_⟩
          have ey : y + 1 = iZ (cnt f (i + 1) : Int) := by
            rw [h1 ql, i1, iZ_add, cnt_succ, if_pos q]
            rfl
          rw [hst, if_pos q, if_pos ql, ey]
        · right
          refine ⟨(iZ (i : Int), t'), ⟨⟨a2.trans ht, hj.trans a3⟩, fun g => absurd g ql, fun _ => ⟨fun p p1 p2 p3 => ?_, fun g => ?_⟩⟩, fun n => by rw [hst, if_pos q, if_neg ql]⟩
          · have : p = i := by
              by_cases g : p < i
              · rw [h2 ql p g] at p2; cases p2
              · by_cases g2 : i < p
                · rw [p3 i g2] at q; cases q
                · omega
            rw [this]
          · rw [g i hlt] at q; cases q
      · left
        refine ⟨(t', y, iZ ((i + 1 : Nat) : Int)), ⟨rfl, hlt, ⟨a2.trans ht, hj.trans a3⟩, fun g => ?_, fun g j hj => ?_⟩, fun n => by rw [hst, if_neg q]⟩
        · rw [cnt_succ, if_neg q, Nat.add_zero]
          exact h1 g
        · by_cases qj : j = i
          · rw [qj]; exact Bool.eq_false_iff.mpr q
          · exact h2 g j (by omega)
    · rintro ⟨t, y, x⟩ ⟨hx, hi, ⟨ht, hj⟩, h1, h2⟩
      dsimp only at hx ht hj h1 h2 ⊢
      subst hx
      have hIt := hI.other ht
      have g1 : ms_ald t 494 2 = some (iZ (w 2 : Int)) := mw_get hIt.2.2 (Or.inl rfl) (z := 2) (k := 2) rfl (by omega)
      have g2 : ms_ald t 494 (3 + iZ (w 2 : Int)) = some (iZ ((qL w).length : Int)) := by
        rw [show (3 : Int32) = iZ 3 from rfl, iZ_add, mw_get hIt.2.2 (Or.inl rfl) (k := 3 + w 2) (by omega) (by omega), hlen]
      have hst : ∀ n, f_X12_query_126 (n + 1) t 493 l2 y (iZ ((qL w).length : Int)) = if l2 = 0 then some (y, t) else some (-1, t) := by
        intro n
        show (ms_ald t (ms_rf 493 0) 2).bind _ = _
        rw [m_rf0, g1, Option.bind_some, g2, Option.bind_some, iltF rfl rfl (by omega) (by omega) (by omega)]
      by_cases ql : l2 = 0
      · exact ⟨(y, t), ⟨⟨ht, hj⟩, h1, fun g => absurd ql g⟩, fun n => by rw [hst, if_pos ql]⟩
      · refine ⟨(-1, t), ⟨⟨ht, hj⟩, fun g => absurd g ql, fun _ => ⟨fun p p1 p2 p3 => ?_, fun _ => rfl⟩⟩, fun n => by rw [hst, if_neg ql]⟩
        rw [h2 ql p p1] at p2
        cases p2
  obtain ⟨⟨b, t⟩, k1, k2', k3, k4⟩ := key
  exact ⟨b, t, k1, k2', k3, k4⟩
end Q8
