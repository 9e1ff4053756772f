/-! setClass: the class's store -/
section Sc
variable {σ : MsSt} {w : Nat → Nat}
theorem cls_SgRep {s c t : Nat} (hk : Kd w s = 1) (h : SgRep σ 3 w t) : SgRep (ms_si σ (3 + 2 + 3 * s) 4 (iZ (c : Int))) 3 (uw w (247 + 7 * s + 1) c) t := by
  obtain ⟨g1, g2, g3, g4, g5, g6, g7, g8⟩ := h
  have ne : ∀ k, k ≠ 4 → ms_i (ms_si σ (3 + 2 + 3 * s) 4 (iZ (c : Int))) (3 + 2 + 3 * t) k = ms_i σ (3 + 2 + 3 * t) k := fun k k1 => i_si_ne (Or.inr k1)
  have e3 := uc_sgF (w := w) (s := s) (v := c) t 3 (by omega) (by omega)
  have e4 := uc_sgF (w := w) (s := s) (v := c) t 4 (by omega) (by omega)
  have e5 := uc_sgF (w := w) (s := s) (v := c) t 5 (by omega) (by omega)
  have e6 := uc_sgF (w := w) (s := s) (v := c) t 6 (by omega) (by omega)
  unfold SgRep
  rw [uc_Kd, uc_ex, uc_Cl, e3, e4, e5, e6, ne 1 (by omega), ne 3 (by omega), ne 6 (by omega), ne 7 (by omega), ne 13 (by omega), ne 8 (by omega), ne 9 (by omega), ne 10 (by omega), ne 5 (by omega), ne 11 (by omega), ne 12 (by omega)]
  refine ⟨g1, g2, ?_, g4.si (by omega) (by omega), g5, g6, g7, g8⟩
  by_cases q : t = s
  · rw [if_pos q, q, i_si_same]
  · rw [if_neg q, i_si_ne (Or.inl (by omega))]
    exact g3
theorem al11 {σ : MsSt} {k : Int} (k1 : -2147483648 ≤ k) (k2 : k < 2147483648) : f_X10_allowIn σ (iZ k) 1 1 = some (if 1 ≤ k ∧ k ≤ 1 then none else some 1) := allowIn_s (b := 1) (c := 1) k1 k2 (by omega) (by omega) (by omega) (by omega)
theorem al60 {σ : MsSt} {k : Int} (k1 : -2147483648 ≤ k) (k2 : k < 2147483648) : f_X10_allowIn σ (iZ k) 1 60 = some (if 1 ≤ k ∧ k ≤ 60 then none else some 1) := allowIn_s (b := 1) (c := 60) k1 k2 (by omega) (by omega) (by omega) (by omega)
theorem rg60 {σ : MsSt} {k : Int} (k1 : -2147483648 ≤ k) (k2 : k < 2147483648) : f_X12_inRange σ (iZ k).toInt64 1 60 = some (b01 (1 ≤ k ∧ k ≤ 60)) := inRi (b := 1) (c := 60) k1 k2 (by omega) (by omega) (by omega) (by omega)
theorem sc_bad (x y : Int32) (t : Int32) (ht : t ≠ 0) : f_X12_setClass_38 σ 493 x y t 493 = some (0, ms_si σ 493 7 t) := by
  unfold f_X12_setClass_38
  rw [nm_s, i_si_same, if_neg ht]
theorem cls_same {s c : Nat} (hk : Kd w s = 1) : SameSg w (uw w (247 + 7 * s + 1) c) := ⟨uw_ne (by omega), uw_ne (by omega), fun t _ => ⟨by rw [uc_Kd], fun f hf h1 _ => uc_sgF t f hf h1, fun _ => uc_sgF t 5 (by omega) (by omega)⟩⟩
theorem q_setClass {p n b : Nat} {H : Nat → Nat → Nat} {S : Nat → Nat} (h : InvM σ w p n H b S) (x y : Int32) : ∃ r σ1 b' σ2 w' p' n' H', f_X10_setClass σ 0 x y = some (r, σ1) ∧ f_X12_setClass σ1 493 x y = some (b', σ2) ∧ Ok r (ms_i σ2 493 7) b' ∧ InvM σ2 w' p' n' H' b S ∧ SameSg w w' ∧ Fr FMut σ σ2 := by
  obtain ⟨z, z1, z2, rfl⟩ := iZ_of x
  obtain ⟨k, k1, k2, rfl⟩ := iZ_of y
  have hInv := h
  obtain ⟨hI, hC, hR, hK, hS⟩ := h
  have h40 := hI.1.1.1
  have bad : ∀ (e : Nat) (t : Int32), t = (if e = 0 then 1 else 2) → f_X10_setClass σ 0 (iZ z) (iZ k) = some (.inr e, σ) → f_X12_setClass σ 493 (iZ z) (iZ k) = some (0, ms_si σ 493 7 t) → ∃ r σ1 b' σ2 w' p' n' H', f_X10_setClass σ 0 (iZ z) (iZ k) = some (r, σ1) ∧ f_X12_setClass σ1 493 (iZ z) (iZ k) = some (b', σ2) ∧ Ok r (ms_i σ2 493 7) b' ∧ InvM σ2 w' p' n' H' b S ∧ SameSg w w' ∧ Fr FMut σ σ2 :=
    fun e t ht hc hm => ⟨_, _, _, _, w, p, n, H, hc, hm, (i_si_same _ _ _ _).trans ht, hInv.fr (fr7 σ t), SameSg.rfl', (fr7 σ t).mono fun a k q => Or.inl q⟩
  by_cases g : 0 ≤ z ∧ z ≤ (w 0 : Int) - 1
  · obtain ⟨s, rfl⟩ : ∃ s : Nat, z = (s : Int) := ⟨z.toNat, by omega⟩
    have hs : s < w 0 := by omega
    have hkb := (hI.1.1.2.1 s hs).1.1
    have hmk : f_X12_isMark σ 493 (iZ (s : Int)) = some (b01 (Kd w s = 1)) := isMark_s hI.2.2 (by omega) (by omega)
    by_cases g2 : Kd w s = 1
    · by_cases g3 : 1 ≤ k ∧ k ≤ 60
      · obtain ⟨c, rfl⟩ : ∃ c : Nat, k = (c : Int) := ⟨k.toNat, by omega⟩
        have hix : (247 + 7 * (s : Int) + 1) = ((247 + 7 * s + 1 : Nat) : Int) := by omega
        have hmay : ∀ σ' : MsSt, Mw σ' 494 w → f_X12_mayHave σ' 493 (iZ (s : Int)) (iZ (c : Int)) = some (b01 (mhB w (w 0) s c = true)) := fun σ' hw => m_mayHave (v := w (247 + 7 * s + 1)) hI.1.1 rfl (by rw [uw_self]; exact hw) hs g2 (by omega)
        by_cases g4 : mhB w (w 0) s c = true
        · obtain ⟨s1, p', a1, a2, a3⟩ := c_record hI.1 hI.2.1 hC
          have hN1 := hI.2.1.away a3 h40 (by omega)
          have G1 : Fr (fun a k => (285 ≤ a ∧ a < 427) ∨ (a = 3 + 2 + 3 * s ∧ k = 4)) σ (ms_si s1 (3 + 2 + 3 * s) 4 (iZ (c : Int))) := (a3.mono fun a k q => Or.inl ⟨q.1, q.2⟩).trans (Fr.si _ _ (Or.inr ⟨rfl, rfl⟩))
          have G2 : Fr (fun a k => a = 493 ∧ k = 7) (ms_si s1 (3 + 2 + 3 * s) 4 (iZ (c : Int))) (ms_si (ms_si s1 (3 + 2 + 3 * s) 4 (iZ (c : Int))) 493 7 0) := Fr.si _ _ ⟨rfl, rfl⟩
          have hM0 := hI.2.2.fr G1 (by intros; omega)
          have hMw := hM0.fr G2 (by intros; omega)
          obtain ⟨s2, b1, b2, b3⟩ := m_record hMw ((hR.frP G1 (by omega) (by intros; omega)).frP G2 (by omega) (by intros; omega)) hC.2.2.2.1
          have hM2 : Mw s2 494 w := hMw.fr b3 (by unfold FHis; intros; omega)
          have hg : ms_ald s2 494 (iZ (247 + 7 * (s : Int) + 1)) = some (iZ (Cl w s : Int)) := mw_get hM2 (Or.inl rfl) (k := 247 + 7 * s + 1) (by omega) (by omega)
          have hM3 : Mw (ms_si s2 494 (247 + 7 * s + 1) (iZ (c : Int))) 494 (uw w (247 + 7 * s + 1) c) := mw_uw (v := w (247 + 7 * s + 1)) (by rw [uw_self]; exact hM2) rfl
          have G3 : Fr (fun a k => a = 494 ∨ a = 497 ∨ (a = 493 ∧ (k = 6 ∨ k = 7))) (ms_si s1 (3 + 2 + 3 * s) 4 (iZ (c : Int))) (ms_si s2 494 (247 + 7 * s + 1) (iZ (c : Int))) := ((G2.mono fun a k q => by omega).trans (b3.mono fun a k q => by unfold FHis at q; omega)).trans (Fr.si _ _ (Or.inl rfl))
          have hN2 : NowRep (ms_si s1 (3 + 2 + 3 * s) 4 (iZ (c : Int))) 3 (uw w (247 + 7 * s + 1) c) := by
            obtain ⟨⟨e1, e2⟩, e3, e4, e5⟩ := hN1
            have G : Fr (In (3 + 2 + 3 * s) (3 + 2 + 3 * s + 1)) s1 (ms_si s1 (3 + 2 + 3 * s) 4 (iZ (c : Int))) := Fr.si _ _ ⟨Nat.le_refl _, by omega⟩
            refine ⟨⟨?_, fun t ht => cls_SgRep g2 (e2 t (by rw [uw_ne (by omega)] at ht; exact ht))⟩, ?_, ?_, fun t ht => ?_⟩
            · rw [i_si_ne (Or.inl (by omega)), uw_ne (by omega)]; exact e1
            · rw [i_si_ne (Or.inl (by omega)), uw_ne (by omega)]; exact e3
            · rw [i_si_ne (Or.inl (by omega)), uw_ne (by omega)]; exact e4
            · rw [uc_ln hI.1 ht]
              exact (e5 t ht).away G (by omega)
          have hW2 := uc_WF hI.1 g2 (v := c) (by omega) (by omega) g4
          have hSm := cls_same (w := w) (s := s) (c := c) g2
          refine ⟨.inl (iZ (Cl w s : Int)), ms_si s1 (3 + 2 + 3 * s) 4 (iZ (c : Int)), iZ (Cl w s : Int), ms_si s2 494 (247 + 7 * s + 1) (iZ (c : Int)), uw w (247 + 7 * s + 1) c, p', pN n, pH n H w, ?_, ?_, ⟨?_, rfl⟩, ⟨⟨hW2, hN2.frG G3 (by rw [uw_ne (by omega)]; exact h40) (by intros; omega), hM3⟩, (a2.frP (Fr.si (P := fun a _ => a = 3 + 2 + 3 * s) _ _ rfl) (by intros; omega)).frP G3 (by intros; omega), b2.frP (Fr.si (P := fun a _ => a = 494) _ _ rfl) (by omega) (by intros; omega), pH_ok hC.2.2.2.1 hI.1 hSm hK, ((hS.frP G1 (by omega) (by omega) (by intros; omega) (by intros; omega)).frP G3 (by omega) (by omega) (by intros; omega) (by intros; omega)).step hSm⟩, hSm, (G1.mono fun a k q => by unfold FMut; omega).trans (G3.mono fun a k q => by unfold FMut FScr; omega)⟩
          · unfold f_X10_setClass
            rw [needSign_s hI z1 z2, btT g, x_rf1, kindOf_s hI.2.1.1 (Or.inl rfl) hs h40, Option.bind_some, al11 (by omega) (by omega), btT (by omega), al60 k1 k2, btT g3, c_mayHave hI.1.1 hI.2.1.1 hs g2 (by omega), Option.bind_some, ib01, if_pos g4, x_rf4, a1, Option.bind_some, told_s (a := 3) (Or.inl rfl) (by omega), Option.bind_some, nm_s, (hN1.1.2 s hs).2.2.1]
          · have hmk2 : f_X12_isMark (ms_si s1 (3 + 2 + 3 * s) 4 (iZ (c : Int))) 493 (iZ (s : Int)) = some (b01 (Kd w s = 1)) := isMark_s hM0 (by omega) (by omega)
            unfold f_X12_setClass
            rw [m_isSign hM0 h40 z1 z2, Option.bind_some, ibT g, hmk2, Option.bind_some, ibT g2, rg60 k1 k2, Option.bind_some, ibT g3]
            unfold f_X12_setClass_38 f_X12_set
            rw [nm_s, i_si_same, if_pos rfl, hmay _ hMw, Option.bind_some, ib01, if_pos g4, of_1, Option.bind_some, b1, Option.bind_some, m_rf0, hg, Option.bind_some, ast_z (k := 247 + 7 * s + 1) hix (by rw [m_ln.1]; omega) (by rw [m_ln.1]; omega), Option.bind_some, b2_s]
          · rw [i_si_ne (Or.inl (by omega)), b3.1 _ _ (by unfold FHis; omega), i_si_same]
        · refine ⟨.inl (-2), σ, -2, ms_si σ 493 7 0, w, p, n, H, ?_, ?_, ⟨i_si_same _ _ _ _, rfl⟩, hInv.fr (fr7 σ 0), SameSg.rfl', (fr7 σ 0).mono fun a k q => Or.inl q⟩
          · unfold f_X10_setClass
            rw [needSign_s hI z1 z2, btT g, x_rf1, kindOf_s hI.2.1.1 (Or.inl rfl) hs h40, Option.bind_some, al11 (by omega) (by omega), btT (by omega), al60 k1 k2, btT g3, c_mayHave hI.1.1 hI.2.1.1 hs g2 (by omega), Option.bind_some, ib01, if_neg g4]
          · unfold f_X12_setClass
            rw [m_isSign hI.2.2 h40 z1 z2, Option.bind_some, ibT g, hmk, Option.bind_some, ibT g2, rg60 k1 k2, Option.bind_some, ibT g3]
            unfold f_X12_setClass_38
            rw [nm_s, i_si_same, if_pos rfl, hmay _ (hI.fr (fr7 σ 0)).2.2, Option.bind_some, ib01, if_neg g4]
      · refine bad 1 2 rfl ?_ ?_
        · unfold f_X10_setClass
          rw [needSign_s hI z1 z2, btT g, x_rf1, kindOf_s hI.2.1.1 (Or.inl rfl) hs h40, Option.bind_some, al11 (by omega) (by omega), btT (by omega), al60 k1 k2, btF g3]
        · unfold f_X12_setClass f_X12_setClass_37
          rw [m_isSign hI.2.2 h40 z1 z2, Option.bind_some, ibT g, hmk, Option.bind_some, ibT g2, rg60 k1 k2, Option.bind_some, ibF g3, sc_bad _ _ 2 (by decide)]
    · refine bad 1 2 rfl ?_ ?_
      · unfold f_X10_setClass
        rw [needSign_s hI z1 z2, btT g, x_rf1, kindOf_s hI.2.1.1 (Or.inl rfl) hs h40, Option.bind_some, al11 (by omega) (by omega), btF (by omega)]
      · unfold f_X12_setClass f_X12_setClass_37
        rw [m_isSign hI.2.2 h40 z1 z2, Option.bind_some, ibT g, hmk, Option.bind_some, ibF g2, sc_bad _ _ 2 (by decide)]
  · refine bad 0 1 rfl ?_ ?_
    · unfold f_X10_setClass
      rw [needSign_s hI z1 z2, btF g]
    · unfold f_X12_setClass
      rw [m_isSign hI.2.2 h40 z1 z2, Option.bind_some, ibF g, sc_bad _ _ 1 (by decide)]
end Sc
