/-! the reference's rows -/
section Mh
variable {σ : MsSt} {w : Nat → Nat}
def FRow (d B : Nat) : Nat → Nat → Prop := fun a k => a = d ∧ 527 * B ≤ k ∧ k < 527 * B + 527
theorem i527 : (527 : Int32) = iZ 527 := rfl
theorem m_copy {c d A B : Nat} (h1 : 527 * A + 527 ≤ ms_ln c) (h2 : ms_ln c ≤ 100000) (h3 : 527 * B + 527 ≤ ms_ln d) (h4 : ms_ln d ≤ 100000) (h5 : c ≠ d ∨ A ≠ B) : ∃ σ', f_X12_copy σ c (iZ (A : Int)) d (iZ (B : Int)) = some σ' ∧ (∀ k, k < 527 → ms_i σ' d (527 * B + k) = ms_i σ c (527 * A + k)) ∧ Fr (FRow d B) σ σ' := by
  unfold f_X12_copy
  refine lp0 (S := MsSt × Int32) (f := fun n t => f_X12_copy_3 n t.1 c (iZ (A : Int)) d (iZ (B : Int)) t.2) (Q := fun σ' => (∀ k, k < 527 → ms_i σ' d (527 * B + k) = ms_i σ c (527 * A + k)) ∧ Fr (FRow d B) σ σ')
    (fun i t => t.2 = iZ (i : Int) ∧ i ≤ 527 ∧ (∀ k, k < i → ms_i t.1 d (527 * B + k) = ms_i σ c (527 * A + k)) ∧ Fr (FRow d B) σ t.1) 527 (s := (σ, 0)) ⟨rfl, by omega, fun k hk => absurd hk (by omega), Fr.refl _ _⟩ (by omega) ?_ ?_
  · rintro i ⟨t, x⟩ ⟨hx, hi, hk, hF⟩ hlt
    dsimp only at hx hk hF ⊢
    subst hx
    left
    have e1 : (527 : Int32) * iZ (A : Int) + iZ (i : Int) = iZ ((527 * A + i : Nat) : Int) := by rw [i527, iZ_mul, iZ_add]; congr 1
    have e2 : (527 : Int32) * iZ (B : Int) + iZ (i : Int) = iZ ((527 * B + i : Nat) : Int) := by rw [i527, iZ_mul, iZ_add]; congr 1
    have ev : ms_i t c (527 * A + i) = ms_i σ c (527 * A + i) := hF.1 _ _ (by unfold FRow; omega)
    refine ⟨(ms_si t d (527 * B + i) (ms_i t c (527 * A + i)), iZ ((i + 1 : Nat) : Int)), ⟨rfl, hlt, fun k hk2 => ?_, hF.trans (Fr.si _ _ ⟨rfl, by omega, by omega⟩)⟩, fun n' => ?_⟩
    · rw [ms_i_si]
      by_cases q : k = i
      · rw [if_pos ⟨rfl, by omega⟩, q, ev]
      · rw [if_neg (by omega), hk k (by omega)]
    · show (if iZ (i : Int) < (527 : Int32) then _ else _) = _
      rw [iltT rfl i527 (by omega) (by omega) (by omega), e1, ald_iZ (by omega) (by omega), Option.bind_some, e2, ast_iZ (by omega) (by omega), Option.bind_some, i1, iZ_add]
      rfl
  · rintro ⟨t, x⟩ ⟨hx, hi, hk, hF⟩
    dsimp only at hx hk hF ⊢
    subst hx
    refine ⟨t, ⟨hk, hF⟩, fun n' => ?_⟩
    show (if iZ ((527 : Nat) : Int) < (527 : Int32) then _ else _) = _
    rw [iltF rfl i527 (by omega) (by omega) (by omega)]
def FHis : Nat → Nat → Prop := fun a k => a = 497 ∨ (a = 493 ∧ k = 6)
theorem m_rec48 {n : Nat} {H : Nat → Nat → Nat} (hw : Mw σ 494 w) (hH : HR σ n H) (hn : n < 10) : ∃ σ', f_X12_record_48 σ 493 = some σ' ∧ HR σ' (n + 1) (fun j => if j = n then w else H j) ∧ Fr FHis σ σ' := by
  have l4 : ms_ln 494 = 527 := m_ln.1
  have l7 : ms_ln 497 = 5270 := m_ln.2.2.2.1
  obtain ⟨s1, a1, a2, a3⟩ := m_copy (σ := σ) (c := 494) (d := 497) (A := 0) (B := n) (by omega) (by omega) (by omega) (by omega) (Or.inl (by omega))
  have e6 : ms_i s1 493 6 = iZ (n : Int) := by rw [a3.1 _ _ (by unfold FRow; omega), hH.1]
  refine ⟨ms_si s1 493 6 (iZ ((n + 1 : Nat) : Int)), ?_, ⟨i_si_same _ _ _ _, fun j k hj hk => ?_⟩, (a3.mono fun a k q => Or.inl q.1).trans (Fr.si _ _ (Or.inr ⟨rfl, rfl⟩))⟩
  · have a1' : f_X12_copy σ 494 0 497 (iZ (n : Int)) = some s1 := a1
    unfold f_X12_record_48
    rw [m_rf0, m_rf3, hH.1, a1', Option.bind_some, nm_s, e6, i1, iZ_add]
    rfl
  · rw [i_si_ne (Or.inl (by omega))]
    show ms_i s1 497 (527 * j + k) = iZ (((if j = n then w else H j) k : Nat) : Int)
    by_cases q : j = n
    · rw [if_pos q, q, a2 k hk]
      have := hw (527 * 0 + k) (by omega)
      rw [this, show 527 * 0 + k = k from by omega]
    · rw [if_neg q, a3.1 _ _ (by unfold FRow; omega), hH.2 j k (by omega) hk]
theorem m_record {n : Nat} {H : Nat → Nat → Nat} (hw : Mw σ 494 w) (hH : HR σ n H) (hn : n ≤ 10) : ∃ σ', f_X12_record σ 493 = some σ' ∧ HR σ' (pN n) (pH n H w) ∧ Fr FHis σ σ' := by
  have l7 : ms_ln 497 = 5270 := m_ln.2.2.2.1
  have i10 : (10 : Int32) = iZ 10 := rfl
  by_cases q : n = 10
  · subst q
    have key : ∃ σ', f_X12_record_11 ms_fuel σ 493 1 = some σ' ∧ HR σ' 10 (pH 10 H w) ∧ Fr FHis σ σ' := by
      refine lp0 (S := MsSt × Int32) (f := fun n t => f_X12_record_11 n t.1 493 t.2) (Q := fun σ' => HR σ' 10 (pH 10 H w) ∧ Fr FHis σ σ')
        (fun i t => t.2 = iZ ((i + 1 : Nat) : Int) ∧ i ≤ 9 ∧ (∀ j k, j < 10 → k < 527 → ms_i t.1 497 (527 * j + k) = iZ (H (if j < i then j + 1 else j) k : Int)) ∧ Fr (fun a _ => a = 497) σ t.1) 9 (s := (σ, 1)) ⟨rfl, by omega, fun j k hj hk => by rw [if_neg (by omega)]; exact hH.2 j k hj hk, Fr.refl _ _⟩ (by omega) ?_ ?_
      · rintro i ⟨t, x⟩ ⟨hx, hi, hr, hF⟩ hlt
        dsimp only at hx hr hF ⊢
        subst hx
        left
        obtain ⟨s1, a1, a2, a3⟩ := m_copy (σ := t) (c := 497) (d := 497) (A := i + 1) (B := i) (by omega) (by omega) (by omega) (by omega) (Or.inr (by omega))
        have e1 : iZ ((i + 1 : Nat) : Int) - 1 = iZ (i : Int) := by rw [i1, iZ_sub]; congr 1; omega
        have e2 : iZ ((i + 1 : Nat) : Int) + 1 = iZ ((i + 1 + 1 : Nat) : Int) := by rw [i1, iZ_add]; rfl
        refine ⟨(s1, iZ ((i + 1 + 1 : Nat) : Int)), ⟨rfl, hlt, fun j k hj hk => ?_, hF.trans (a3.mono fun a k q => q.1)⟩, fun n' => ?_⟩
        · by_cases g : j = i
          · rw [g, a2 k hk, hr (i + 1) k (by omega) hk, if_neg (by omega), if_pos (by omega)]
          · rw [a3.1 _ _ (by unfold FRow; omega), hr j k hj hk]
            by_cases g2 : j < i
            · rw [if_pos g2, if_pos (by omega)]
            · rw [if_neg g2, if_neg (by omega)]
        · show (if iZ ((i + 1 : Nat) : Int) < (10 : Int32) then _ else _) = _
          rw [iltT rfl i10 (by omega) (by omega) (by omega), m_rf3, e1, a1, Option.bind_some, e2]
      · rintro ⟨t, x⟩ ⟨hx, hi, hr, hF⟩
        dsimp only at hx hr hF ⊢
        subst hx
        have e6 : ms_i t 493 6 = iZ ((10 : Nat) : Int) := by rw [hF.1 _ _ (by omega), hH.1]
        have e7 : ms_i t 493 6 - 1 = iZ ((9 : Nat) : Int) := by rw [e6]; rfl
        have hw2 : Mw (ms_si t 493 6 (iZ ((9 : Nat) : Int))) 494 w := (hw.fr hF (by intros; omega)).fr (Fr.si (P := fun a _ => a = 493) _ _ rfl) (by intros; omega)
        have hH2 : HR (ms_si t 493 6 (iZ ((9 : Nat) : Int))) 9 (fun j => H (j + 1)) := ⟨i_si_same _ _ _ _, fun j k hj hk => by rw [i_si_ne (Or.inl (by omega)), hr j k (by omega) hk, if_pos hj]⟩
        obtain ⟨u, b1, b2, b3⟩ := m_rec48 hw2 hH2 (by omega)
        refine ⟨u, ⟨b2, ((hF.mono fun a k q => Or.inl q).trans (Fr.si _ _ (Or.inr ⟨rfl, rfl⟩))).trans b3⟩, fun n' => ?_⟩
        show (if iZ ((9 + 1 : Nat) : Int) < (10 : Int32) then _ else _) = _
        rw [iltF rfl i10 (by omega) (by omega) (by omega), nm_s, e7, b1]
    obtain ⟨u, b1, b2, b3⟩ := key
    refine ⟨u, ?_, b2, b3⟩
    unfold f_X12_record
    rw [ieqT hH.1 i10 rfl, b1]
  · obtain ⟨u, b1, b2, b3⟩ := m_rec48 hw hH (by omega)
    refine ⟨u, ?_, ?_, b3⟩
    · unfold f_X12_record
      rw [ieqF hH.1 i10 (by omega) (by omega) (by omega) (by omega) (by omega), b1]
    · have eN : pN n = n + 1 := if_neg q
      have eH : pH n H w = fun j => if j = n then w else H j := funext fun j => if_neg q
      rw [eN, eH]
      exact b2
end Mh
