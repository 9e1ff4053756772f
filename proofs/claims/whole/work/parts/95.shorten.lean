/-! the reference: a line shortened, a line written; erase -/
section Sh
variable {σ : MsSt} {w u : Nat → Nat} {l m : Nat}
theorem m_shorten (hl : l < 4) (hm : m ≤ 60) (h : Mw σ 494 u) : ∃ σ', f_X12_shorten σ 493 (iZ (l : Int)) (iZ (m : Int)) = some σ' ∧ (∃ v, Mw σ' 494 v ∧ v (3 + l) = m ∧ ∀ k, k ≠ 3 + l → (k < 7 + 60 * l + m ∨ 67 + 60 * l ≤ k) → v k = u k) ∧ Fr (fun a _ => a = 494) σ σ' := by
  have l4 : ms_ln 494 = 527 := m_ln.1
  unfold f_X12_shorten
  refine lp0 (S := MsSt × Int32) (f := fun n t => f_X12_shorten_2 n t.1 493 (iZ (l : Int)) (iZ (m : Int)) t.2) (Q := fun σ' => (∃ v, Mw σ' 494 v ∧ v (3 + l) = m ∧ ∀ k, k ≠ 3 + l → (k < 7 + 60 * l + m ∨ 67 + 60 * l ≤ k) → v k = u k) ∧ Fr (fun a _ => a = 494) σ σ')
    (fun i t => t.2 = iZ ((m + i : Nat) : Int) ∧ i ≤ 60 - m ∧ (∃ v, Mw t.1 494 v ∧ ∀ k, (k < 7 + 60 * l + m ∨ 67 + 60 * l ≤ k) → v k = u k) ∧ Fr (fun a _ => a = 494) σ t.1) (60 - m) (s := (σ, iZ (m : Int))) ⟨rfl, Nat.zero_le _, ⟨u, h, fun _ _ => rfl⟩, Fr.refl _ _⟩ (by omega) ?_ ?_
  · rintro i ⟨t, x⟩ ⟨hx, hi, ⟨v, hv1, hv2⟩, hF⟩ hlt
    dsimp only at hx hv1 hF ⊢
    subst hx
    left
    have e2 : iZ ((m + i : Nat) : Int) + 1 = iZ ((m + (i + 1) : Nat) : Int) := by rw [i1, iZ_add]; rfl
    refine ⟨(ms_si t 494 (7 + 60 * l + (m + i)) 0, iZ ((m + (i + 1) : Nat) : Int)), ⟨rfl, hlt, ⟨uw v (7 + 60 * l + (m + i)) 0, mw_up hv1 rfl, fun k hk => by rw [uw_ne (by omega)]; exact hv2 k hk⟩, hF.trans (Fr.si _ _ rfl)⟩, fun n' => ?_⟩
    show (if iZ ((m + i : Nat) : Int) < (60 : Int32) then _ else _) = _
    rw [iltT rfl i60 (by omega) (by omega) (by omega), spot_s, Option.bind_some, m_rf0, ast_z (k := 7 + 60 * l + (m + i)) (by omega) (by omega) (by omega), Option.bind_some, e2]
  · rintro ⟨t, x⟩ ⟨hx, hi, ⟨v, hv1, hv2⟩, hF⟩
    dsimp only at hx hv1 hF ⊢
    subst hx
    have e2 : (3 : Int32) + iZ (l : Int) = iZ (3 + (l : Int)) := by rw [i3, iZ_add]
    refine ⟨ms_si t 494 (3 + l) (iZ (m : Int)), ⟨⟨uw v (3 + l) m, mw_up hv1 rfl, uw_eq, fun k hk hk2 => by rw [uw_ne hk]; exact hv2 k hk2⟩, hF.trans (Fr.si _ _ rfl)⟩, fun n' => ?_⟩
    show (if iZ ((m + (60 - m) : Nat) : Int) < (60 : Int32) then _ else _) = _
    rw [iltF rfl i60 (by omega) (by omega) (by omega), e2, m_rf0, ast_z (k := 3 + l) (by omega) (by omega) (by omega), Option.bind_some]
/-- what lies in a row is written over a line, which is shortened then -/
theorem m_write7 {L : List Nat} {c : Nat} (hl : l < 4) (hL : L.length ≤ 60) (hc : c ≠ 494) (hc1 : L.length ≤ ms_ln c) (hc2 : ms_ln c ≤ 100000) (h : Mw σ 494 w) (hA : Aw σ c L) : ∃ σ', f_X12_write_7 ms_fuel σ 493 (iZ (l : Int)) c (iZ (L.length : Int)) 0 = some σ' ∧ (∃ v, Mw σ' 494 v ∧ LU w l L v) ∧ Fr (fun a _ => a = 494) σ σ' := by
  have l4 : ms_ln 494 = 527 := m_ln.1
  refine lp0 (S := MsSt × Int32) (f := fun n t => f_X12_write_7 n t.1 493 (iZ (l : Int)) c (iZ (L.length : Int)) t.2) (Q := fun σ' => (∃ v, Mw σ' 494 v ∧ LU w l L v) ∧ Fr (fun a _ => a = 494) σ σ')
    (fun i t => t.2 = iZ (i : Int) ∧ i ≤ L.length ∧ (∃ v, Mw t.1 494 v ∧ (∀ k, (k < 7 + 60 * l ∨ 67 + 60 * l ≤ k) → v k = w k) ∧ ∀ p (hp : p < L.length), p < i → v (7 + 60 * l + p) = L[p]) ∧ Fr (fun a _ => a = 494) σ t.1) L.length (s := (σ, 0)) ⟨rfl, Nat.zero_le _, ⟨w, h, fun _ _ => rfl, fun p _ hp => absurd hp (by omega)⟩, Fr.refl _ _⟩ (by omega) ?_ ?_
  · rintro i ⟨t, x⟩ ⟨hx, hi, ⟨v, hv1, hv2, hv3⟩, hF⟩ hlt
    dsimp only at hx hv1 hF ⊢
    subst hx
    left
    have hr : ms_ald t c (iZ (i : Int)) = some (iZ (L[i] : Int)) := by rw [ald_iZ (by omega) hc2, hF.1 _ _ hc, hA i hlt]
    have e2 : iZ (i : Int) + 1 = iZ ((i + 1 : Nat) : Int) := by rw [i1, iZ_add]; rfl
    refine ⟨(ms_si t 494 (7 + 60 * l + i) (iZ (L[i] : Int)), iZ ((i + 1 : Nat) : Int)), ⟨rfl, hlt, ⟨uw v (7 + 60 * l + i) L[i], mw_up hv1 rfl, fun k hk => by rw [uw_ne (by omega)]; exact hv2 k hk, fun p hp hpi => ?_⟩, hF.trans (Fr.si _ _ rfl)⟩, fun n' => ?_⟩
    · by_cases g : p = i
      · subst g; rw [uw_eq]
      · rw [uw_ne (by omega)]; exact hv3 p hp (by omega)
    · show (if iZ (i : Int) < iZ (L.length : Int) then _ else _) = _
      rw [iltT rfl rfl (by omega) (by omega) (by omega), spot_s, Option.bind_some, hr, Option.bind_some, m_rf0, ast_z (k := 7 + 60 * l + i) (by omega) (by omega) (by omega), Option.bind_some, e2]
  · rintro ⟨t, x⟩ ⟨hx, hi, ⟨v, hv1, hv2, hv3⟩, hF⟩
    dsimp only at hx hv1 hF ⊢
    subst hx
    obtain ⟨s2, a1, ⟨v', b1, b2, b3⟩, a3⟩ := m_shorten hl hL hv1
    refine ⟨s2, ⟨⟨v', b1, fun k hk hk2 => ?_, b2, fun p hp => ?_⟩, hF.trans a3⟩, fun n' => ?_⟩
    · rw [b3 k hk (by omega)]
      exact hv2 k hk2
    · rw [b3 _ (by omega) (by omega)]
      exact hv3 p hp hp
    · show (if iZ (L.length : Int) < iZ (L.length : Int) then _ else _) = _
      rw [iltF rfl rfl (by omega) (by omega) (by omega), a1, Option.bind_some]
def FWr : Nat → Nat → Prop := fun a k => a = 494 ∨ a = 497 ∨ (a = 493 ∧ k = 6)
theorem m_write {L : List Nat} {c n : Nat} {H : Nat → Nat → Nat} (hl : l < 4) (hL : L.length ≤ 60) (hc : c ≠ 494 ∧ c ≠ 497 ∧ c ≠ 493) (hc1 : L.length ≤ ms_ln c) (hc2 : ms_ln c ≤ 100000) (h : Mw σ 494 w) (hA : Aw σ c L) (hH : HR σ n H) (hn : n ≤ 10) : ∃ σ' v, f_X12_write σ 493 (iZ (l : Int)) c (iZ (L.length : Int)) = some σ' ∧ HR σ' (pN n) (pH n H w) ∧ Mw σ' 494 v ∧ LU w l L v ∧ Fr FWr σ σ' := by
  obtain ⟨s1, a1, a2, a3⟩ := m_record h hH hn
  have h1 : Mw s1 494 w := h.fr a3 (by unfold FHis; intros; omega)
  have hA1 : Aw s1 c L := hA.fr a3 (by unfold FHis; intros; omega)
  obtain ⟨s2, b1, ⟨v, b2, b3⟩, b4⟩ := m_write7 hl hL hc.1 hc1 hc2 h1 hA1
  refine ⟨s2, v, ?_, a2.frP b4 (by omega) (by intros; omega), b2, b3, (a3.mono fun a k q => by unfold FHis at q; unfold FWr; omega).trans (b4.mono fun a k q => Or.inl q)⟩
  unfold f_X12_write
  rw [a1, Option.bind_some, b1]
theorem m_isPlaceM (h : Mw σ 494 w) (hW : WF w) (hl : l < 4) (q : 0 ≤ (l : Int) ∧ (l : Int) ≤ (w 1 : Int) - 1) {k : Int} (k1 : -2147483648 ≤ k) (k2 : k < 2147483648) : f_X12_isPlace σ 493 (iZ (l : Int)) (iZ k) = some (b01 (0 ≤ k ∧ k ≤ (w (3 + l) : Int) - 1)) := by
  have h4 := hW.2.2.1
  have h60 := hW.2.2.2.2.1 l hl
  have e : (3 : Int32) + iZ (l : Int) = iZ (3 + (l : Int)) := by rw [i3, iZ_add]
  have e2 : iZ (w (3 + l) : Int) - 1 = iZ ((w (3 + l) : Int) - 1) := by rw [i1, iZ_sub]
  unfold f_X12_isPlace
  rw [m_isLine h h4 (by omega) (by omega), Option.bind_some, ibT q, e, m_rf0, mw_get h (Or.inl rfl) (z := 3 + (l : Int)) (k := 3 + l) (by omega) (by omega), Option.bind_some, e2, inRz k1 k2 (by omega) (by omega), Option.bind_some]
  by_cases g : 0 ≤ k ∧ k ≤ (w (3 + l) : Int) - 1
  · rw [ibT g]; unfold b01; rw [if_pos g]
  · rw [ibF g]; unfold b01; rw [if_neg g]
theorem m_isPlaceT (h : InvS σ w) (hl : l < 4) (q : 0 ≤ (l : Int) ∧ (l : Int) ≤ (w 1 : Int) - 1) {k : Int} (k1 : -2147483648 ≤ k) (k2 : k < 2147483648) : f_X12_isPlace σ 493 (iZ (l : Int)) (iZ k) = some (b01 (0 ≤ k ∧ k ≤ (w (3 + l) : Int) - 1)) := m_isPlaceM h.2.2 h.1 hl q k1 k2
theorem m_isPlaceF (h : InvS σ w) {z : Int} {y : Int32} (z1 : -2147483648 ≤ z) (z2 : z < 2147483648) (q : ¬ (0 ≤ z ∧ z ≤ (w 1 : Int) - 1)) : f_X12_isPlace σ 493 (iZ z) y = some 0 := by
  unfold f_X12_isPlace
  rw [m_isLine h.2.2 h.1.2.2.1 z1 z2, Option.bind_some, ibF q]
/-- the reference cuts the places i to j -/
theorem m_eraseL {i j : Nat} (hW : WF w) (hl : l < 4) (hij : i ≤ j) (hj : j < w (3 + l)) (h : Mw σ 494 w) : ∃ σ', f_X12_erase_72 ms_fuel σ 493 (iZ (l : Int)) (iZ ((j - i + 1 : Nat) : Int)) (iZ ((w (3 + l) - (j - i + 1) : Nat) : Int)) (iZ (i : Int)) = some (iZ ((w (3 + l) - (j - i + 1) : Nat) : Int), σ') ∧ (∃ v, Mw σ' 494 v ∧ LU w l (cutL (ln w l) i j) v) ∧ Fr (fun a _ => a = 494) σ σ' := by
  have l4 : ms_ln 494 = 527 := m_ln.1
  have h60 := hW.2.2.2.2.1 l hl
  have eA := ln_length w l
  have hcl := cutL_length (L := ln w l) hij (by omega)
  have key := lp0 (S := MsSt × Int32) (f := fun n t => f_X12_erase_72 n t.1 493 (iZ (l : Int)) (iZ ((j - i + 1 : Nat) : Int)) (iZ ((w (3 + l) - (j - i + 1) : Nat) : Int)) t.2) (Q := fun r => r.1 = iZ ((w (3 + l) - (j - i + 1) : Nat) : Int) ∧ (∃ v, Mw r.2 494 v ∧ LU w l (cutL (ln w l) i j) v) ∧ Fr (fun a _ => a = 494) σ r.2)
    (fun q t => t.2 = iZ ((i + q : Nat) : Int) ∧ q ≤ w (3 + l) - (j - i + 1) - i ∧ (∃ v, Mw t.1 494 v ∧ (∀ k, (k < 7 + 60 * l + i ∨ 7 + 60 * l + i + q ≤ k) → v k = w k) ∧ ∀ p, p < q → v (7 + 60 * l + i + p) = w (7 + 60 * l + i + p + (j - i + 1))) ∧ Fr (fun a _ => a = 494) σ t.1) (w (3 + l) - (j - i + 1) - i) (s := (σ, iZ (i : Int))) ⟨rfl, Nat.zero_le _, ⟨w, h, fun _ _ => rfl, fun p hp => absurd hp (by omega)⟩, Fr.refl _ _⟩ (by omega) ?_ ?_
  · obtain ⟨⟨r1, r2⟩, g1, g2, g3, g4⟩ := key
    dsimp only at g2 g3 g4
    subst g2
    exact ⟨r2, g1, g3, g4⟩
  · rintro q ⟨t, x⟩ ⟨hx, hq, ⟨v, hv1, hv2, hv3⟩, hF⟩ hlt
    dsimp only at hx hv1 hF ⊢
    subst hx
    left
    have e1 : iZ ((i + q : Nat) : Int) + iZ ((j - i + 1 : Nat) : Int) = iZ ((i + q + (j - i + 1) : Nat) : Int) := by rw [iZ_add]; rfl
    have e2 : iZ ((i + q : Nat) : Int) + 1 = iZ ((i + (q + 1) : Nat) : Int) := by rw [i1, iZ_add]; rfl
    have hr : ms_ald t 494 (iZ (7 + 60 * (l : Int) + ((i + q + (j - i + 1) : Nat) : Int))) = some (iZ (w (7 + 60 * l + i + q + (j - i + 1)) : Int)) := by
      rw [mw_get hv1 (Or.inl rfl) (k := 7 + 60 * l + i + q + (j - i + 1)) (by omega) (by omega), hv2 _ (by omega)]
    refine ⟨(ms_si t 494 (7 + 60 * l + i + q) (iZ (w (7 + 60 * l + i + q + (j - i + 1)) : Int)), iZ ((i + (q + 1) : Nat) : Int)), ⟨rfl, hlt, ⟨uw v (7 + 60 * l + i + q) (w (7 + 60 * l + i + q + (j - i + 1))), mw_up hv1 rfl, fun k hk => by rw [uw_ne (by omega)]; exact hv2 k (by omega), fun p hp => ?_⟩, hF.trans (Fr.si _ _ rfl)⟩, fun n' => ?_⟩
    · by_cases g : p = q
      · subst g; rw [uw_eq]
      · rw [uw_ne (by omega)]; exact hv3 p (by omega)
    · show (if iZ ((i + q : Nat) : Int) < iZ ((w (3 + l) - (j - i + 1) : Nat) : Int) then _ else _) = _
      rw [iltT rfl rfl (by omega) (by omega) (by omega), spot_s, Option.bind_some, e1, spot_s, Option.bind_some, m_rf0, hr, Option.bind_some, ast_z (k := 7 + 60 * l + i + q) (by omega) (by omega) (by omega), Option.bind_some, e2]
  · rintro ⟨t, x⟩ ⟨hx, hq, ⟨v, hv1, hv2, hv3⟩, hF⟩
    dsimp only at hx hv1 hF ⊢
    subst hx
    obtain ⟨s2, a1, ⟨v', b1, b2, b3⟩, a3⟩ := m_shorten (m := w (3 + l) - (j - i + 1)) hl (by omega) hv1
    refine ⟨(iZ ((w (3 + l) - (j - i + 1) : Nat) : Int), s2), ⟨rfl, ⟨v', b1, fun k hk hk2 => ?_, by rw [b2, hcl, eA], fun p hp => ?_⟩, hF.trans a3⟩, fun n' => ?_⟩
    · rw [b3 k hk (by omega)]
      exact hv2 k (by omega)
    · have hp' := hp
      rw [hcl, eA] at hp'
      rw [cutL_get hij (by omega) hp, b3 _ (by omega) (by omega)]
      by_cases g : p < i
      · rw [if_pos g, ln_getD (by omega), hv2 _ (by omega)]
      · rw [if_neg g, ln_getD (by omega)]
        have := hv3 (p - i) (by omega)
        rw [show 7 + 60 * l + i + (p - i) = 7 + 60 * l + p from by omega] at this
        rw [this]
        congr 1
        omega
    · show (if iZ ((i + (w (3 + l) - (j - i + 1) - i) : Nat) : Int) < iZ ((w (3 + l) - (j - i + 1) : Nat) : Int) then _ else _) = _
      rw [iltF rfl rfl (by omega) (by omega) (by omega), a1, Option.bind_some]
end Sh
