/-! clashes -/
def anyF (P : Nat → Bool) : Nat → Nat → Bool
  | _, 0 => false
  | k, d + 1 => P k || anyF P (k + 1) d
theorem any_loop {β : Type} {f : Nat → Nat → β} {P : Nat → Bool} {o1 o2 : β} (N : Nat) (hs : ∀ n k, k < N → f (n + 1) k = if P k = true then o1 else f n (k + 1)) (he : ∀ n, f (n + 1) N = o2) : ∀ d k n, k + d = N → d < n → f n k = if anyF P k d = true then o1 else o2 := by
  intro d
  induction d with
  | zero =>
    intro k n hk hn
    obtain ⟨m, rfl⟩ : ∃ m, n = m + 1 := ⟨n - 1, by omega⟩
    have : k = N := by omega
    subst this
    rw [he, if_neg (by simp [anyF])]
  | succ d ih =>
    intro k n hk hn
    obtain ⟨m, rfl⟩ : ∃ m, n = m + 1 := ⟨n - 1, by omega⟩
    rw [hs m k (by omega)]
    by_cases q : P k = true
    · rw [if_pos q, if_pos (by simp [anyF, q])]
    · rw [if_neg q, ih (k + 1) m (by omega) (by omega)]
      have : anyF P k (d + 1) = anyF P (k + 1) d := by simp [anyF, q]
      rw [this]
/-- a loop whose outcome is known -/
theorem lpx {S β : Type} {f : Nat → S → β} {o : β} (I : Nat → S → Prop) (N : Nat) (hs : ∀ i s, I i s → i < N → ∃ s', I (i + 1) s' ∧ ∀ n, f (n + 1) s = f n s') (he : ∀ s, I N s → ∀ n, f (n + 1) s = o) : ∀ (k i : Nat) (s : S) (n : Nat), I i s → i + k = N → k < n → f n s = o := by
  intro k
  induction k with
  | zero =>
    intro i s n hi hN hn
    obtain ⟨m, rfl⟩ : ∃ m, n = m + 1 := ⟨n - 1, by omega⟩
    have hiN : i = N := by omega
    subst hiN
    exact he s hi m
  | succ k ih =>
    intro i s n hi hN hn
    obtain ⟨m, rfl⟩ : ∃ m, n = m + 1 := ⟨n - 1, by omega⟩
    obtain ⟨s', h1, h2⟩ := hs i s hi (by omega)
    rw [h2]
    exact ih (i + 1) s' m h1 (by omega) (by omega)
def ovB (w : Nat → Nat) (D : List Nat) (c i k : Nat) : Bool := decide (bxL w D c i < bxR w D (c + 1) k + (obf w D c 3 : Int)) && (decide (bxL w D (c + 1) k + (obf w D c 3 : Int) < bxR w D c i) && (decide (bxB w D c i < bxT w D (c + 1) k) && decide (bxB w D (c + 1) k < bxT w D c i)))
def clB (w : Nat → Nat) (D : List Nat) (c : Nat) : Bool := anyF (fun i => anyF (fun k => ovB w D c i k) 0 (mks w D (c + 1))) 0 (mks w D c)
theorem row_in {α : Type} {e : α → Int} {σ : MsSt} {r N j k : Nat} {f : Nat → α} (h : Rw e σ r N (upTo f j)) (hk : k < j) : f_X5_get σ r (iZ (k : Int)) = some (iZ (e (f k))) := by
  rw [get_in h (by rw [upTo_length]; exact hk), upTo_get]
section Cl2
variable {σ : MsSt} {w : Nat → Nat} {n c : Nat} {D : List Nat}
theorem c_overlapsAt (hs : SgsOK w n) (hD : ∀ y ∈ D, y < n ∧ Kd w y ≤ 1 ∧ Cl w y ≤ 60) (hcc : c + 1 < (bg w D).length) (h65 : mks w D c ≤ 66) (h65' : mks w D (c + 1) ≤ 66) (hA : BxR σ 467 w D c) (hB : BxR σ 478 w D (c + 1)) {i k : Nat} (hi : i < mks w D c) (hk : k < mks w D (c + 1)) :
    f_X0_overlapsAt σ 467 (iZ (i : Int)) 478 (iZ (k : Int)) (iZ (obf w D c 3 : Int)) = some (b01 (ovB w D c i k = true)) := by
  obtain ⟨q0, q1, q2, q3, q4, q5⟩ := bx_refs (a := 467) (Or.inl rfl)
  obtain ⟨p0, p1, p2, p3, p4, p5⟩ := bx_refs (a := 478) (Or.inr rfl)
  obtain ⟨a1, a2, a3, a4, a5, _⟩ := hA
  obtain ⟨b1, b2, b3, b4, b5, _⟩ := hB
  have hx := bx_bd hs hD (c := c) (by omega) hi (by omega)
  have hy := bx_bd hs hD hcc hk (by omega)
  have o3 := obf_le' hs hD (c := c) (by omega) (f := 3) (by omega) (by omega)
  have e1 : f_X5_get σ (467 + 3) (iZ (i : Int)) = some (iZ (bxL w D c i)) := row_in a2 hi
  have e2 : f_X5_get σ (467 + 5) (iZ (i : Int)) = some (iZ (bxR w D c i)) := row_in a3 hi
  have e3 : f_X5_get σ (467 + 7) (iZ (i : Int)) = some (iZ (bxB w D c i)) := row_in a4 hi
  have e4 : f_X5_get σ (467 + 9) (iZ (i : Int)) = some (iZ (bxT w D c i)) := row_in a5 hi
  have g1 : f_X5_get σ (478 + 3) (iZ (k : Int)) = some (iZ (bxL w D (c + 1) k)) := row_in b2 hk
  have g2 : f_X5_get σ (478 + 5) (iZ (k : Int)) = some (iZ (bxR w D (c + 1) k)) := row_in b3 hk
  have g3 : f_X5_get σ (478 + 7) (iZ (k : Int)) = some (iZ (bxB w D (c + 1) k)) := row_in b4 hk
  have g4 : f_X5_get σ (478 + 9) (iZ (k : Int)) = some (iZ (bxT w D (c + 1) k)) := row_in b5 hk
  unfold f_X0_overlapsAt
  rw [q2, q3, q4, q5, p2, p3, p4, p5, e1, Option.bind_some, g2, Option.bind_some, iZ_add, ilt rfl rfl (by omega) (by omega) (by omega) (by omega)]
  by_cases z1 : bxL w D c i < bxR w D (c + 1) k + (obf w D c 3 : Int)
  · rw [if_pos z1, g1, Option.bind_some, e2, Option.bind_some, iZ_add, ilt rfl rfl (by omega) (by omega) (by omega) (by omega)]
    by_cases z2 : bxL w D (c + 1) k + (obf w D c 3 : Int) < bxR w D c i
    · rw [if_pos z2, e3, Option.bind_some, g4, Option.bind_some, ilt rfl rfl (by omega) (by omega) (by omega) (by omega)]
      by_cases z3 : bxB w D c i < bxT w D (c + 1) k
      · rw [if_pos z3, g3, Option.bind_some, e4, Option.bind_some, ilt rfl rfl (by omega) (by omega) (by omega) (by omega)]
        by_cases z4 : bxB w D (c + 1) k < bxT w D c i
        · rw [if_pos z4]
          unfold b01
          rw [if_pos (by simp [ovB, z1, z2, z3, z4])]
        · rw [if_neg z4]
          unfold b01
          rw [if_neg (by simp [ovB, z4])]
      · rw [if_neg z3]
        unfold b01
        rw [if_neg (by simp [ovB, z3])]
    · rw [if_neg z2]
      unfold b01
      rw [if_neg (by simp [ovB, z2])]
  · rw [if_neg z1]
    unfold b01
    rw [if_neg (by simp [ovB, z1])]
theorem c_overlaps (hs : SgsOK w n) (hD : ∀ y ∈ D, y < n ∧ Kd w y ≤ 1 ∧ Cl w y ≤ 60) (hcc : c + 1 < (bg w D).length) (h65 : mks w D c ≤ 66) (h65' : mks w D (c + 1) ≤ 66) (hA : BxR σ 467 w D c) (hB : BxR σ 478 w D (c + 1)) :
    f_X0_overlaps σ 467 478 (iZ (obf w D c 3 : Int)) = some (b01 (clB w D c = true)) := by
  obtain ⟨q0, q1, q2, q3, q4, q5⟩ := bx_refs (a := 467) (Or.inl rfl)
  obtain ⟨p0, p1, p2, p3, p4, p5⟩ := bx_refs (a := 478) (Or.inr rfl)
  have cA := hA.1.cnt
  have cB := hB.1.cnt
  rw [upTo_length] at cA cB
  have inner : ∀ (k2 : Nat → Nat → Int32 → Int32 → Option Int32) (i : Nat), i < mks w D c → f_X0_overlaps_16 σ k2 ms_fuel 467 478 (iZ (obf w D c 3 : Int)) (iZ (i : Int)) 0 = if anyF (fun k => ovB w D c i k) 0 (mks w D (c + 1)) = true then some 1 else k2 467 478 (iZ (obf w D c 3 : Int)) (iZ (i : Int) + 1) := by
    intro k2 i hi
    have := any_loop (f := fun n k => f_X0_overlaps_16 σ k2 n 467 478 (iZ (obf w D c 3 : Int)) (iZ (i : Int)) (iZ (k : Int))) (P := fun k => ovB w D c i k) (o1 := some 1) (o2 := k2 467 478 (iZ (obf w D c 3 : Int)) (iZ (i : Int) + 1)) (mks w D (c + 1)) ?_ ?_ (mks w D (c + 1)) 0 ms_fuel (by omega) (by show _ < 100000; omega)
    · exact this
    · intro n' k hk
      show (if iZ (k : Int) < ms_i σ (ms_rf 478 1) 1 then _ else _) = _
      rw [p1, iltT rfl cB (by omega) (by omega) (by omega), c_overlapsAt hs hD hcc h65 h65' hA hB hi hk, Option.bind_some, ib01, i1, iZ_add]
      rfl
    · intro n'
      show (if iZ (mks w D (c + 1) : Int) < ms_i σ (ms_rf 478 1) 1 then _ else _) = _
      rw [p1, iltF rfl cB (by omega) (by omega) (by omega)]
  have := any_loop (f := fun n i => f_X0_overlaps_2 σ n 467 478 (iZ (obf w D c 3 : Int)) (iZ (i : Int))) (P := fun i => anyF (fun k => ovB w D c i k) 0 (mks w D (c + 1))) (o1 := some 1) (o2 := some 0) (mks w D c) ?_ ?_ (mks w D c) 0 ms_fuel (by omega) (by show _ < 100000; omega)
  · unfold f_X0_overlaps
    refine this.trans ?_
    unfold b01 clB
    split <;> rfl
  · intro n' i hi
    show (if iZ (i : Int) < ms_i σ (ms_rf 467 1) 1 then _ else _) = _
    rw [q1, iltT rfl cA (by omega) (by omega) (by omega), inner _ i hi, i1, iZ_add]
    rfl
  · intro n'
    show (if iZ (mks w D c : Int) < ms_i σ (ms_rf 467 1) 1 then _ else _) = _
    rw [q1, iltF rfl cA (by omega) (by omega) (by omega)]
theorem m_doOverlap (hs : SgsOK w n) (hD : ∀ y ∈ D, y < n ∧ Kd w y ≤ 1 ∧ Cl w y ≤ 60) (hcc : c + 1 < (bg w D).length) (h65 : mks w D c ≤ 66) (h65' : mks w D (c + 1) ≤ 66) (hA : MbW σ 505 w D c (mks w D c)) (hB : MbW σ 507 w D (c + 1) (mks w D (c + 1))) {i k : Nat} (hi : i < mks w D c) (hk : k < mks w D (c + 1)) :
    f_X12_doOverlap σ 493 (iZ (i : Int)) (iZ (k : Int)) (iZ (obf w D c 3 : Int)) = some (b01 (ovB w D c i k = true)) := by
  obtain ⟨a1, a2, a3, a4⟩ := hA.1 i hi
  obtain ⟨b1, b2, b3, b4⟩ := hB.1 k hk
  have hx := bx_bd hs hD (c := c) (by omega) hi (by omega)
  have hy := bx_bd hs hD hcc hk (by omega)
  have o3 := obf_le' hs hD (c := c) (by omega) (f := 3) (by omega) (by omega)
  have l6 : ms_ln 506 = 1444 := m_ln.2.2.2.2.2.2.2.2.2.2.2.1
  have l8 : ms_ln 508 = 1444 := m_ln.2.2.2.2.2.2.2.2.2.2.2.2.1
  have ei : (4 : Int32) * iZ (i : Int) = iZ (4 * (i : Int)) := by rw [i4, iZ_mul]
  have ek : (4 : Int32) * iZ (k : Int) = iZ (4 * (k : Int)) := by rw [i4, iZ_mul]
  have e1 : ∀ z : Int, iZ z + 1 = iZ (z + 1) := fun z => by rw [i1, iZ_add]
  have e2 : ∀ z : Int, iZ z + 2 = iZ (z + 2) := fun z => by rw [i2, iZ_add]
  have e3 : ∀ z : Int, iZ z + 3 = iZ (z + 3) := fun z => by rw [i3, iZ_add]
  have A0 : ms_ald σ 506 (iZ (4 * (i : Int))) = some (iZ (bxL w D c i)) := by rw [ald_z (k := 4 * i) (by omega) (by omega) (by omega), a1]
  have A1 : ms_ald σ 506 (iZ (4 * (i : Int) + 1)) = some (iZ (bxR w D c i)) := by rw [ald_z (k := 4 * i + 1) (by omega) (by omega) (by omega), a2]
  have A2 : ms_ald σ 506 (iZ (4 * (i : Int) + 2)) = some (iZ (bxB w D c i)) := by rw [ald_z (k := 4 * i + 2) (by omega) (by omega) (by omega), a3]
  have A3 : ms_ald σ 506 (iZ (4 * (i : Int) + 3)) = some (iZ (bxT w D c i)) := by rw [ald_z (k := 4 * i + 3) (by omega) (by omega) (by omega), a4]
  have B0 : ms_ald σ 508 (iZ (4 * (k : Int))) = some (iZ (bxL w D (c + 1) k)) := by rw [ald_z (k := 4 * k) (by omega) (by omega) (by omega), b1]
  have B1 : ms_ald σ 508 (iZ (4 * (k : Int) + 1)) = some (iZ (bxR w D (c + 1) k)) := by rw [ald_z (k := 4 * k + 1) (by omega) (by omega) (by omega), b2]
  have B2 : ms_ald σ 508 (iZ (4 * (k : Int) + 2)) = some (iZ (bxB w D (c + 1) k)) := by rw [ald_z (k := 4 * k + 2) (by omega) (by omega) (by omega), b3]
  have B3 : ms_ald σ 508 (iZ (4 * (k : Int) + 3)) = some (iZ (bxT w D (c + 1) k)) := by rw [ald_z (k := 4 * k + 3) (by omega) (by omega) (by omega), b4]
  unfold f_X12_doOverlap
  rw [m_rf18, m_rf19, m_rfB, m_rfC, ei, ek, e1, e1, A0, Option.bind_some, B1, Option.bind_some, iZ_add, ilt rfl rfl (by omega) (by omega) (by omega) (by omega)]
  unfold f_X12_doOverlap_60
  by_cases z1 : bxL w D c i < bxR w D (c + 1) k + (obf w D c 3 : Int)
  · rw [if_pos z1, B0, Option.bind_some, A1, Option.bind_some, iZ_add, ilt rfl rfl (by omega) (by omega) (by omega) (by omega)]
    by_cases z2 : bxL w D (c + 1) k + (obf w D c 3 : Int) < bxR w D c i
    · rw [if_pos z2]
      unfold f_X12_doOverlap_61
      rw [if_neg (by decide), ei, ek, e2, e2, e3, e3, A2, Option.bind_some, B3, Option.bind_some, ilt rfl rfl (by omega) (by omega) (by omega) (by omega)]
      by_cases z3 : bxB w D c i < bxT w D (c + 1) k
      · rw [if_pos z3, B2, Option.bind_some, A3, Option.bind_some, ilt rfl rfl (by omega) (by omega) (by omega) (by omega)]
        by_cases z4 : bxB w D (c + 1) k < bxT w D c i
        · rw [if_pos z4]
          unfold b01
          rw [if_pos (by simp [ovB, z1, z2, z3, z4])]
        · rw [if_neg z4]
          unfold b01
          rw [if_neg (by simp [ovB, z4])]
      · rw [if_neg z3]
        unfold b01
        rw [if_neg (by simp [ovB, z3])]
    · rw [if_neg z2]
      unfold f_X12_doOverlap_61
      rw [if_pos rfl]
      unfold b01
      rw [if_neg (by simp [ovB, z2])]
  · rw [if_neg z1]
    unfold f_X12_doOverlap_61
    rw [if_pos rfl]
    unfold b01
    rw [if_neg (by simp [ovB, z1])]
theorem m_isClash (h : LcS σ w n D) (hcc : c + 1 < (bg w D).length) (h65 : ∀ c, c < (bg w D).length → mks w D c ≤ 66) :
    ∃ σ', f_X12_isClash σ 493 (iZ (c : Int)) = some (b01 (clB w D c = true), σ') ∧ Fr (fun a k => (505 ≤ a ∧ a ≤ 508)) σ σ' := by
  have hs := h.2.2.1
  have hD := h.2.2.2.1
  have hc0 : c < (bg w D).length := by omega
  obtain ⟨s1, a1, a2, a3⟩ := m_layBoxes (b := 505) (Or.inl rfl) h hc0 (h65 c hc0)
  have h1 : LcS s1 w n D := h.fr a3 (by unfold FMb; intros; omega) (by unfold FMb; intros; omega) (by unfold FMb; intros; omega) (by unfold FMb; omega) (by unfold FMb; omega)
  obtain ⟨s2, b1, b2, b3⟩ := m_layBoxes (b := 507) (Or.inr rfl) h1 hcc (h65 _ hcc)
  have h2 : LcS s2 w n D := h1.fr b3 (by unfold FMb; intros; omega) (by unfold FMb; intros; omega) (by unfold FMb; intros; omega) (by unfold FMb; omega) (by unfold FMb; omega)
  have hA : MbW s2 505 w D c (mks w D c) := a2.fr b3 (by unfold FMb; intros; omega) (by unfold FMb; intros; omega)
  have hm := h65 c hc0
  have hm' := h65 _ hcc
  have F : Fr (fun a k => (505 ≤ a ∧ a ≤ 508)) σ s2 := (a3.mono fun a k q => by unfold FMb at q; omega).trans (b3.mono fun a k q => by unfold FMb at q; omega)
  refine ⟨s2, ?_, F⟩
  have inner : ∀ (k29 : MsSt → Nat → Int32 → Int32 → Option (Int32 × MsSt)) (i : Nat), i < mks w D c → f_X12_isClash_43 k29 ms_fuel s2 493 (iZ (obf w D c 3 : Int)) (iZ (i : Int)) 0 = if anyF (fun k => ovB w D c i k) 0 (mks w D (c + 1)) = true then some (1, s2) else k29 s2 493 (iZ (obf w D c 3 : Int)) (iZ (i : Int) + 1) := by
    intro k29 i hi
    have := any_loop (f := fun n k => f_X12_isClash_43 k29 n s2 493 (iZ (obf w D c 3 : Int)) (iZ (i : Int)) (iZ (k : Int))) (P := fun k => ovB w D c i k) (o1 := some (1, s2)) (o2 := k29 s2 493 (iZ (obf w D c 3 : Int)) (iZ (i : Int) + 1)) (mks w D (c + 1)) ?_ ?_ (mks w D (c + 1)) 0 ms_fuel (by omega) (by show _ < 100000; omega)
    · exact this
    · intro n' k hk
      show (if iZ (k : Int) < ms_i s2 (ms_rf 493 19) 1 then _ else _) = _
      rw [m_rf19, iltT rfl b2.2.1 (by omega) (by omega) (by omega), m_doOverlap hs hD hcc hm hm' hA b2 hi hk, Option.bind_some, ib01, i1, iZ_add]
      rfl
    · intro n'
      show (if iZ (mks w D (c + 1) : Int) < ms_i s2 (ms_rf 493 19) 1 then _ else _) = _
      rw [m_rf19, iltF rfl b2.2.1 (by omega) (by omega) (by omega)]
  have key := any_loop (f := fun n i => f_X12_isClash_29 n s2 493 (iZ (obf w D c 3 : Int)) (iZ (i : Int))) (P := fun i => anyF (fun k => ovB w D c i k) 0 (mks w D (c + 1))) (o1 := some (1, s2)) (o2 := some (0, s2)) (mks w D c) ?_ ?_ (mks w D c) 0 ms_fuel (by omega) (by show _ < 100000; omega)
  · have b0 : f_X12_ofBase s2 493 (iZ (c : Int)) 3 = some (iZ (obf w D c 3 : Int)) := m_ofBase h2 hc0 (f := 3) (by omega)
    have e1 : iZ (c : Int) + 1 = iZ ((c + 1 : Nat) : Int) := by rw [i1, iZ_add]; rfl
    unfold f_X12_isClash
    rw [m_rf18, m_rf19, a1, Option.bind_some, e1, b1, Option.bind_some, b0, Option.bind_some]
    refine key.trans ?_
    unfold b01 clB
    split <;> rfl
  · intro n' i hi
    show (if iZ (i : Int) < ms_i s2 (ms_rf 493 18) 1 then _ else _) = _
    rw [m_rf18, iltT rfl hA.2.1 (by omega) (by omega) (by omega), inner _ i hi, i1, iZ_add]
    rfl
  · intro n'
    show (if iZ (mks w D c : Int) < ms_i s2 (ms_rf 493 18) 1 then _ else _) = _
    rw [m_rf18, iltF rfl hA.2.1 (by omega) (by omega) (by omega)]
end Cl2
