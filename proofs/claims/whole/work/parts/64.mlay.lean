/-! the reference lays the boxes of a cluster -/
def MbAt (b : Nat) : Prop := b = 505 ∨ b = 507
theorem mb_refs {b : Nat} (h : MbAt b) : ms_rf b 0 = b + 1 ∧ ms_ln (b + 1) = 1444 := by
  rcases h with rfl | rfl <;> exact ⟨by decide +kernel, by decide +kernel⟩
theorem mb_lo {b : Nat} (h : MbAt b) : 505 ≤ b ∧ b ≤ 507 := by rcases h with rfl | rfl <;> omega
def MbW (σ : MsSt) (b : Nat) (w : Nat → Nat) (D : List Nat) (c j : Nat) : Prop :=
  (∀ k, k < j → ms_i σ (b + 1) (4 * k) = iZ (bxL w D c k) ∧ ms_i σ (b + 1) (4 * k + 1) = iZ (bxR w D c k) ∧ ms_i σ (b + 1) (4 * k + 2) = iZ (bxB w D c k) ∧ ms_i σ (b + 1) (4 * k + 3) = iZ (bxT w D c k)) ∧
    ms_i σ b 1 = iZ (mks w D c : Int) ∧ ms_i σ b 2 = iZ (bS w D c j).1 ∧ ms_i σ b 3 = iZ (bS w D c j).2.1 ∧ ms_i σ b 4 = iZ (bS w D c j).2.2.1 ∧ ms_i σ b 5 = iZ (bS w D c j).2.2.2
def FMb (b : Nat) : Nat → Nat → Prop := fun a k => a = b + 1 ∨ (a = b ∧ 1 ≤ k ∧ k ≤ 5)
theorem MbW.fr {σ σ' : MsSt} {b : Nat} {w : Nat → Nat} {D : List Nat} {c j : Nat} {P : Nat → Nat → Prop} (h : MbW σ b w D c j) (hF : Fr P σ σ') (h1 : ∀ k, ¬ P (b + 1) k) (h2 : ∀ k, ¬ P b k) : MbW σ' b w D c j := by
  obtain ⟨g1, g2, g3, g4, g5, g6⟩ := h
  exact ⟨fun k hk => ⟨(hF.1 _ _ (h1 _)).trans (g1 k hk).1, (hF.1 _ _ (h1 _)).trans (g1 k hk).2.1, (hF.1 _ _ (h1 _)).trans (g1 k hk).2.2.1, (hF.1 _ _ (h1 _)).trans (g1 k hk).2.2.2⟩, (hF.1 _ _ (h2 _)).trans g2, (hF.1 _ _ (h2 _)).trans g3, (hF.1 _ _ (h2 _)).trans g4, (hF.1 _ _ (h2 _)).trans g5, (hF.1 _ _ (h2 _)).trans g6⟩
theorem m_lb220 {σ : MsSt} {w : Nat → Nat} {n b c j : Nat} {D : List Nat} (hb : MbAt b) (h : LcS σ w n D) (hcc : c < (bg w D).length) (hj : j < mks w D c) (h65 : mks w D c ≤ 66) (hM : MbW σ b w D c j) :
    ∃ σ', (∀ k54 l1 l3 l4 l5 t0, f_X12_layBoxes_220 k54 σ 493 l1 b l3 l4 l5 (iZ (j : Int)) (iZ (bxm w D c j : Int)) (iZ (sgF w (bxm w D c j) 4 : Int)) (iZ (bxL w D c j)) (iZ (bxB w D c j)) t0 = k54 σ' 493 l1 b l3 l4 l5 t0 (iZ (j : Int) + 1)) ∧ MbW σ' b w D c (j + 1) ∧ Fr (FMb b) σ σ' := by
  obtain ⟨r0, r1⟩ := mb_refs hb
  have hlo := mb_lo hb
  have hs := h.2.2.1
  have hD := h.2.2.2.1
  have h40 := hs.1
  obtain ⟨q1, q2, q3, q4, q5, q6, q7, q8, q9⟩ := bxm_ok hs hD hcc hj
  have hx := bx_bd hs hD hcc hj (by omega)
  have hS := bS_bd hs hD hcc (by omega) j (by omega)
  obtain ⟨g1, g2, g3, g4, g5, g6⟩ := hM
  have eS : bS w D c (j + 1) = (if bxL w D c j < (bS w D c j).1 then bxL w D c j else (bS w D c j).1, if (bS w D c j).2.1 < bxR w D c j then bxR w D c j else (bS w D c j).2.1, if (bS w D c j).2.2.1 < bxT w D c j then bxT w D c j else (bS w D c j).2.2.1, if bxB w D c j < (bS w D c j).2.2.2 then bxB w D c j else (bS w D c j).2.2.2) := rfl
  generalize hs1 : ms_si σ (b + 1) (4 * j) (iZ (bxL w D c j)) = s1
  generalize hs2 : ms_si s1 (b + 1) (4 * j + 1) (iZ (bxR w D c j)) = s2
  generalize hs3 : ms_si s2 (b + 1) (4 * j + 2) (iZ (bxB w D c j)) = s3
  generalize hs4 : ms_si s3 (b + 1) (4 * j + 3) (iZ (bxT w D c j)) = s4
  have F1 : Fr (fun a k => a = b + 1 ∧ k = 4 * j) σ s1 := by rw [← hs1]; exact Fr.si _ _ ⟨rfl, rfl⟩
  have F2 : Fr (fun a k => a = b + 1 ∧ k = 4 * j + 1) s1 s2 := by rw [← hs2]; exact Fr.si _ _ ⟨rfl, rfl⟩
  have F3 : Fr (fun a k => a = b + 1 ∧ k = 4 * j + 2) s2 s3 := by rw [← hs3]; exact Fr.si _ _ ⟨rfl, rfl⟩
  have F4 : Fr (fun a k => a = b + 1 ∧ k = 4 * j + 3) s3 s4 := by rw [← hs4]; exact Fr.si _ _ ⟨rfl, rfl⟩
  have G4 : Fr (fun a k => a = b + 1 ∧ 4 * j ≤ k ∧ k ≤ 4 * j + 3) σ s4 := (((F1.mono fun a k q => by omega).trans (F2.mono fun a k q => by omega)).trans (F3.mono fun a k q => by omega)).trans (F4.mono fun a k q => by omega)
  have fb : ∀ k, ms_i s4 b k = ms_i σ b k := fun k => G4.1 b k (by omega)
  have hw1 : Mw s1 494 w := h.1.fr F1 (by intros; omega)
  have hw4 : Mw s4 494 w := h.1.fr G4 (by intros; omega)
  refine ⟨ms_si (ms_si (ms_si (ms_si s4 b 2 (iZ (bS w D c (j + 1)).1)) b 3 (iZ (bS w D c (j + 1)).2.1)) b 4 (iZ (bS w D c (j + 1)).2.2.1)) b 5 (iZ (bS w D c (j + 1)).2.2.2), fun k54 l1 l3 l4 l5 t0 => ?_, ⟨fun k hk => ?_, ?_, ?_, ?_, ?_, ?_⟩, ?_⟩
  · unfold f_X12_layBoxes_220
    have hw25 : Mw (ms_si s4 b 2 (iZ (bS w D c (j + 1)).1)) 494 w := hw4.fr (Fr.si (P := fun a _ => a = b) _ _ rfl) (by intros; omega)
    have e4 : (4 : Int32) * iZ (j : Int) = iZ (4 * (j : Int)) := by rw [i4, iZ_mul]
    have e41 : iZ (4 * (j : Int)) + 1 = iZ (4 * (j : Int) + 1) := by rw [i1, iZ_add]
    have e42 : iZ (4 * (j : Int)) + 2 = iZ (4 * (j : Int) + 2) := by rw [i2, iZ_add]
    have e43 : iZ (4 * (j : Int)) + 3 = iZ (4 * (j : Int) + 3) := by rw [i3, iZ_add]
    have eR : iZ (bxL w D c j) + iZ (w (247 + 7 * bxm w D c j + 3) : Int) = iZ (bxR w D c j) := by rw [iZ_add]; rfl
    have eT : iZ (bxB w D c j) + iZ (sgF w (bxm w D c j) 4 : Int) = iZ (bxT w D c j) := by rw [iZ_add]; rfl
    rw [r0, m_rf0, e4, e41, e42, e43, ast_z (k := 4 * j) (by omega) (by omega) (by omega), Option.bind_some, hs1, of_3, Option.bind_some, mw_get hw1 (Or.inl rfl) (k := 247 + 7 * bxm w D c j + 3) (by omega) (by omega), Option.bind_some, eR, ast_z (k := 4 * j + 1) (by omega) (by omega) (by omega), Option.bind_some, hs2, ast_z (k := 4 * j + 2) (by omega) (by omega) (by omega), Option.bind_some, hs3, eT, ast_z (k := 4 * j + 3) (by omega) (by omega) (by omega), Option.bind_some, hs4]
    rw [ilt_iZ (a := bxL w D c j) (b := (bS w D c j).1) (c := bxL w D c j) (d := (bS w D c j).1) rfl ((fb 2).trans g3) rfl ((fb 2).trans g3) (by omega) (by omega) (by omega) (by omega), nm_s]
    rw [show iZ (if bxL w D c j < (bS w D c j).1 then bxL w D c j else (bS w D c j).1) = iZ (bS w D c (j + 1)).1 from by rw [eS]]
    rw [of_3, Option.bind_some, mw_get hw25 (Or.inl rfl) (k := 247 + 7 * bxm w D c j + 3) (by omega) (by omega), Option.bind_some, eR]
    rw [ilt_iZ (a := (bS w D c j).2.1) (b := bxR w D c j) (c := bxR w D c j) (d := (bS w D c j).2.1) (by rw [i_si_ne (Or.inr (by omega)), fb, g4]) rfl rfl (by rw [i_si_ne (Or.inr (by omega)), fb, g4]) (by omega) (by omega) (by omega) (by omega), nm_s]
    rw [ilt_iZ (a := (bS w D c j).2.2.1) (b := bxT w D c j) (c := bxT w D c j) (d := (bS w D c j).2.2.1) (by rw [i_si_ne (Or.inr (by omega)), i_si_ne (Or.inr (by omega)), fb, g5]) rfl rfl (by rw [i_si_ne (Or.inr (by omega)), i_si_ne (Or.inr (by omega)), fb, g5]) (by omega) (by omega) (by omega) (by omega), nm_s]
    rw [ilt_iZ (a := bxB w D c j) (b := (bS w D c j).2.2.2) (c := bxB w D c j) (d := (bS w D c j).2.2.2) rfl (by rw [i_si_ne (Or.inr (by omega)), i_si_ne (Or.inr (by omega)), i_si_ne (Or.inr (by omega)), fb, g6]) rfl (by rw [i_si_ne (Or.inr (by omega)), i_si_ne (Or.inr (by omega)), i_si_ne (Or.inr (by omega)), fb, g6]) (by omega) (by omega) (by omega) (by omega), nm_s, eS]
  · rw [i_si_ne (Or.inl (by omega)), i_si_ne (Or.inl (by omega)), i_si_ne (Or.inl (by omega)), i_si_ne (Or.inl (by omega)), i_si_ne (Or.inl (by omega)), i_si_ne (Or.inl (by omega)), i_si_ne (Or.inl (by omega)), i_si_ne (Or.inl (by omega)), i_si_ne (Or.inl (by omega)), i_si_ne (Or.inl (by omega)), i_si_ne (Or.inl (by omega)), i_si_ne (Or.inl (by omega)), i_si_ne (Or.inl (by omega)), i_si_ne (Or.inl (by omega)), i_si_ne (Or.inl (by omega)), i_si_ne (Or.inl (by omega))]
    by_cases e : k = j
    · subst e
      refine ⟨?_, ?_, ?_, ?_⟩
      · rw [F4.1 _ _ (by omega), F3.1 _ _ (by omega), F2.1 _ _ (by omega), ← hs1, i_si_same]
      · rw [F4.1 _ _ (by omega), F3.1 _ _ (by omega), ← hs2, i_si_same]
      · rw [F4.1 _ _ (by omega), ← hs3, i_si_same]
      · rw [← hs4, i_si_same]
    · have hk' : k < j := by omega
      rw [G4.1 _ _ (by omega), G4.1 _ _ (by omega), G4.1 _ _ (by omega), G4.1 _ _ (by omega)]
      exact g1 k hk'
  · rw [i_si_ne (Or.inr (by omega)), i_si_ne (Or.inr (by omega)), i_si_ne (Or.inr (by omega)), i_si_ne (Or.inr (by omega)), fb, g2]
  · rw [i_si_ne (Or.inr (by omega)), i_si_ne (Or.inr (by omega)), i_si_ne (Or.inr (by omega)), i_si_same]
  · rw [i_si_ne (Or.inr (by omega)), i_si_ne (Or.inr (by omega)), i_si_same]
  · rw [i_si_ne (Or.inr (by omega)), i_si_same]
  · rw [i_si_same]
  · exact ((((G4.mono fun a k q => Or.inl q.1).trans (Fr.si _ _ (Or.inr ⟨rfl, by omega, by omega⟩))).trans (Fr.si _ _ (Or.inr ⟨rfl, by omega, by omega⟩))).trans (Fr.si _ _ (Or.inr ⟨rfl, by omega, by omega⟩))).trans (Fr.si _ _ (Or.inr ⟨rfl, by omega, by omega⟩))
theorem m_layBoxes {σ : MsSt} {w : Nat → Nat} {n b c : Nat} {D : List Nat} (hb : MbAt b) (h : LcS σ w n D) (hcc : c < (bg w D).length) (h65 : mks w D c ≤ 66) :
    ∃ σ', f_X12_layBoxes σ 493 (iZ (c : Int)) b = some σ' ∧ MbW σ' b w D c (mks w D c) ∧ Fr (FMb b) σ σ' := by
  obtain ⟨r0, r1⟩ := mb_refs hb
  have hlo := mb_lo hb
  have hs := h.2.2.1
  have hD := h.2.2.2.1
  have h40 := hs.1
  have hfm := fm_le hcc
  have hbe := be_lt hcc
  have o3 := obf_le' hs hD hcc (f := 3) (by omega) (by omega)
  have o4 := obf_le' hs hD hcc (f := 4) (by omega) (by omega)
  have ob : ∀ (s : MsSt), LcS s w n D → ∀ f : Nat, f < 7 → f_X12_ofBase s 493 (iZ (c : Int)) (iZ (f : Int)) = some (iZ (obf w D c f : Int)) := fun s hs f hf => m_ofBase hs hcc hf
  generalize hs0 : ms_si (ms_si (ms_si (ms_si (ms_si σ b 1 (iZ (mks w D c : Int))) b 2 0) b 3 (iZ (obf w D c 3 : Int))) b 4 (iZ (obf w D c 4 : Int))) b 5 0 = s0
  have F0 : Fr (fun a k => a = b ∧ 1 ≤ k ∧ k ≤ 5) σ s0 := by
    rw [← hs0]
    exact ((((Fr.si _ _ ⟨rfl, by omega, by omega⟩).trans (Fr.si _ _ ⟨rfl, by omega, by omega⟩)).trans (Fr.si _ _ ⟨rfl, by omega, by omega⟩)).trans (Fr.si _ _ ⟨rfl, by omega, by omega⟩)).trans (Fr.si _ _ ⟨rfl, by omega, by omega⟩)
  have hM0 : MbW s0 b w D c 0 := by
    rw [← hs0]
    refine ⟨fun k hk => absurd hk (Nat.not_lt_zero _), ?_, ?_, ?_, ?_, ?_⟩
    · rw [i_si_ne (Or.inr (by omega)), i_si_ne (Or.inr (by omega)), i_si_ne (Or.inr (by omega)), i_si_ne (Or.inr (by omega)), i_si_same]
    · rw [i_si_ne (Or.inr (by omega)), i_si_ne (Or.inr (by omega)), i_si_ne (Or.inr (by omega)), i_si_same]; rfl
    · rw [i_si_ne (Or.inr (by omega)), i_si_ne (Or.inr (by omega)), i_si_same]; rfl
    · rw [i_si_ne (Or.inr (by omega)), i_si_same]; rfl
    · rw [i_si_same]; rfl
  have key := lp0 (S := MsSt × Int32 × Int32 × Int32) (f := fun n' s => f_X12_layBoxes_54 n' s.1 493 (iZ (c : Int)) b (iZ (obf w D c 4 : Int)) (iZ (obf w D c 3 : Int)) s.2.1 s.2.2.1 s.2.2.2) (Q := fun σ' => MbW σ' b w D c (mks w D c) ∧ Fr (FMb b) σ σ')
    (fun j s => s.2.2.2 = iZ (j : Int) ∧ j ≤ mks w D c ∧ MbW s.1 b w D c j ∧ s.2.1 = iZ (tb w D c j).1 ∧ s.2.2.1 = iZ (tb w D c j).2 ∧ Fr (FMb b) σ s.1) (mks w D c) (s := (s0, iZ (obf w D c 4 : Int), 0, 0)) ⟨rfl, Nat.zero_le _, hM0, rfl, rfl, F0.mono fun a k q => Or.inr q⟩ (by omega) ?_ ?_
  · obtain ⟨x, h1, h2⟩ := key
    refine ⟨x, ?_, h2⟩
    have b4 : f_X12_ofBase σ 493 (iZ (c : Int)) 4 = some (iZ (obf w D c 4 : Int)) := ob σ h 4 (by omega)
    have b3 : f_X12_ofBase σ 493 (iZ (c : Int)) 3 = some (iZ (obf w D c 3 : Int)) := ob σ h 3 (by omega)
    have hm : f_X12_marksOf σ 493 (iZ (c : Int)) = some (iZ (mks w D c : Int)) := m_marksOf h hcc
    unfold f_X12_layBoxes
    rw [b4, Option.bind_some, b3, Option.bind_some, hm, Option.bind_some, nm_s, nm_s, nm_s, nm_s, nm_s, hs0]
    exact h1
  · rintro j ⟨s, l5, l6, x⟩ ⟨hx, hj, hM, h5, h6, hFi⟩ hlt
    dsimp only at hx hM h5 h6 hFi ⊢
    subst hx; subst h5; subst h6
    left
    have hL : LcS s w n D := h.fr hFi (by unfold FMb; intros; omega) (by unfold FMb; intros; omega) (by unfold FMb; intros; omega) (by unfold FMb; omega) (by unfold FMb; omega)
    obtain ⟨q1, q2, q3, q4, q5, q6, q7, q8, q9⟩ := bxm_ok hs hD hcc hlt
    have hx := bx_bd hs hD hcc hlt (by omega)
    have hT := tb_bd hs hD hcc j (by omega)
    obtain ⟨s', d1, d2, d3⟩ := m_lb220 hb hL hcc hlt h65 hM
    have e6 : (tb w D c (j + 1)).1 = if sgF w (bxm w D c j) 6 = 0 then (tb w D c j).1 + 1 + (sgF w (bxm w D c j) 4 : Int) else (tb w D c j).1 := rfl
    have e7 : (tb w D c (j + 1)).2 = if sgF w (bxm w D c j) 6 = 1 then (tb w D c j).2 - 1 - (sgF w (bxm w D c j) 4 : Int) else (tb w D c j).2 := rfl
    refine ⟨(s', iZ (tb w D c (j + 1)).1, iZ (tb w D c (j + 1)).2, iZ ((j : Int) + 1)), ⟨by push_cast; rfl, hlt, d2, rfl, rfl, hFi.trans d3⟩, fun n' => ?_⟩
    show (if iZ (j : Int) < ms_i s b 1 then _ else _) = _
    have hsg : ms_ald s 501 (iZ (fm w D c : Int) + iZ (j : Int)) = some (iZ (bxm w D c j : Int)) := by
      rw [iZ_add]
      exact m_sgn hL q1
    rw [iltT rfl hM.2.1 (by omega) (by omega) (by omega), m_firstMark hL hcc, Option.bind_some, m_rf10, hsg, Option.bind_some, of_6, Option.bind_some, m_rf0, mw_get hL.1 (Or.inl rfl) (k := 247 + 7 * bxm w D c j + 6) (by omega) (by omega), Option.bind_some, of_4, Option.bind_some, mw_get hL.1 (Or.inl rfl) (k := 247 + 7 * bxm w D c j + 4) (by omega) (by omega), Option.bind_some]
    have b5 : f_X12_ofBase s 493 (iZ (c : Int)) 5 = some (iZ (obf w D c 5 : Int)) := ob s hL 5 (by omega)
    have b6 : f_X12_ofBase s 493 (iZ (c : Int)) 6 = some (iZ (obf w D c 6 : Int)) := ob s hL 6 (by omega)
    have eL : ∀ z, bxA w D c j = z → iZ z - iZ (w (247 + 7 * bxm w D c j + 5) : Int) = iZ (bxL w D c j) := fun z hz => by rw [iZ_sub, ← hz]; rfl
    -- from the left edge on
    have h139 : ∀ z, bxA w D c j = z → f_X12_layBoxes_139 (f_X12_layBoxes_54 n') s 493 (iZ (c : Int)) b (iZ (obf w D c 4 : Int)) (iZ (obf w D c 3 : Int)) (iZ (tb w D c j).1) (iZ (tb w D c j).2) (iZ (j : Int)) (iZ (bxm w D c j : Int)) (iZ (sgF w (bxm w D c j) 6 : Int)) (iZ (sgF w (bxm w D c j) 4 : Int)) (iZ z) = f_X12_layBoxes_54 n' s' 493 (iZ (c : Int)) b (iZ (obf w D c 4 : Int)) (iZ (obf w D c 3 : Int)) (iZ (tb w D c (j + 1)).1) (iZ (tb w D c (j + 1)).2) (iZ ((j : Int) + 1)) := by
      intro z hz
      have h188 : f_X12_layBoxes_188 (f_X12_layBoxes_54 n') s 493 (iZ (c : Int)) b (iZ (obf w D c 4 : Int)) (iZ (obf w D c 3 : Int)) (iZ (tb w D c j).1) (iZ (tb w D c j).2) (iZ (j : Int)) (iZ (bxm w D c j : Int)) (iZ (sgF w (bxm w D c j) 6 : Int)) (iZ (sgF w (bxm w D c j) 4 : Int)) (iZ (bxL w D c j)) (iZ (bxB w D c j)) = f_X12_layBoxes_54 n' s' 493 (iZ (c : Int)) b (iZ (obf w D c 4 : Int)) (iZ (obf w D c 3 : Int)) (iZ (tb w D c (j + 1)).1) (iZ (tb w D c (j + 1)).2) (iZ ((j : Int) + 1)) := by
        have ej : iZ ((j : Int) + 1) = iZ (j : Int) + 1 := by rw [i1, iZ_add]
        unfold f_X12_layBoxes_188 f_X12_layBoxes_205
        by_cases z0 : sgF w (bxm w D c j) 6 = 0
        · have eB : bxB w D c j = (tb w D c j).1 + 1 := by unfold bxB; rw [if_pos z0]
          rw [ieqT rfl i0 (by omega), ieqF rfl i1 (by omega) (by omega) (by omega) (by omega) (by omega), d1, ej, e6, if_pos z0, e7, if_neg (by omega), iZ_add, eB]
        · rw [ieqF rfl i0 (by omega) (by omega) (by omega) (by omega) (by omega)]
          by_cases z1 : sgF w (bxm w D c j) 6 = 1
          · have eB : bxB w D c j = (tb w D c j).2 - 1 - (sgF w (bxm w D c j) 4 : Int) := by unfold bxB; rw [if_neg z0, if_pos z1]
            rw [ieqT rfl i1 (by omega), d1, ej, e6, if_neg z0, e7, if_pos z1, eB]
          · rw [ieqF rfl i1 (by omega) (by omega) (by omega) (by omega) (by omega), d1, ej, e6, if_neg z0, e7, if_neg z1]
      unfold f_X12_layBoxes_139
      rw [of_5, Option.bind_some, m_rf0, mw_get hL.1 (Or.inl rfl) (k := 247 + 7 * bxm w D c j + 5) (by omega) (by omega), Option.bind_some, eL z hz]
      by_cases z0 : sgF w (bxm w D c j) 6 = 0
      · have eB : bxB w D c j = (tb w D c j).1 + 1 := by unfold bxB; rw [if_pos z0]
        rw [ieqT rfl i0 (by omega), i1, iZ_add, ← eB]
        exact h188
      · rw [ieqF rfl i0 (by omega) (by omega) (by omega) (by omega) (by omega)]
        by_cases z1 : sgF w (bxm w D c j) 6 = 1
        · have eB : bxB w D c j = (tb w D c j).2 - 1 - (sgF w (bxm w D c j) 4 : Int) := by unfold bxB; rw [if_neg z0, if_pos z1]
          rw [ieqT rfl i1 (by omega), i1, iZ_sub, iZ_sub, ← eB]
          exact h188
        · have eB : bxB w D c j = ((obf w D c 4 / 2 : Nat) : Int) := by unfold bxB; rw [if_neg z0, if_neg z1]
          rw [ieqF rfl i1 (by omega) (by omega) (by omega) (by omega) (by omega), idiv2 (by omega), Option.bind_some, ← eB]
          exact h188
    have g6 : (w (247 + 7 * bxm w D c j + 6)) = sgF w (bxm w D c j) 6 := rfl
    have g4 : (w (247 + 7 * bxm w D c j + 4)) = sgF w (bxm w D c j) 4 := rfl
    rw [g6, g4]
    by_cases z0 : sgF w (bxm w D c j) 6 = 0
    · rw [ieqT rfl i0 (by omega), b5, Option.bind_some]
      exact h139 _ (by unfold bxA; rw [if_pos z0])
    · rw [ieqF rfl i0 (by omega) (by omega) (by omega) (by omega) (by omega)]
      by_cases z1 : sgF w (bxm w D c j) 6 = 1
      · rw [ieqT rfl i1 (by omega), b6, Option.bind_some]
        exact h139 _ (by unfold bxA; rw [if_neg z0, if_pos z1])
      · rw [ieqF rfl i1 (by omega) (by omega) (by omega) (by omega) (by omega), idiv2 (by omega), Option.bind_some]
        exact h139 _ (by unfold bxA; rw [if_neg z0, if_neg z1])
  · rintro ⟨s, l5, l6, x⟩ ⟨hx, hj, hM, h5, h6, hFi⟩
    dsimp only at hx hM h5 h6 hFi ⊢
    subst hx
    refine ⟨s, ⟨hM, hFi⟩, fun n' => ?_⟩
    show (if iZ (mks w D c : Int) < ms_i s b 1 then _ else _) = _
    rw [iltF rfl hM.2.1 (by omega) (by omega) (by omega)]
