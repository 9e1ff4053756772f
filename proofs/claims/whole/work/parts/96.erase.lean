/-! what a call that changes something owes; erase -/
section Mo2
variable {σ : MsSt} {w : Nat → Nat}
def MO (σ : MsSt) (w : Nat → Nat) (b : Nat) (S : Nat → Nat) (fc : Option ((Int32 ⊕ Nat) × MsSt)) (fm : MsSt → Option (Int32 × MsSt)) : Prop := ∃ r σ1 b' σ2 w' p' n' H', fc = some (r, σ1) ∧ fm σ1 = some (b', σ2) ∧ Ok r (ms_i σ2 493 7) b' ∧ InvM σ2 w' p' n' H' b S ∧ SameSg w w' ∧ Fr FMut σ σ2
section Mk
variable {p n b p' : Nat} {H : Nat → Nat → Nat} {S u : Nat → Nat} {s0 s1 σ1 σ2 : MsSt} {fc : Option ((Int32 ⊕ Nat) × MsSt)} {fm : MsSt → Option (Int32 × MsSt)}
theorem scr_mut {σ σ' : MsSt} (h : Fr FScr σ σ') : Fr FMut σ σ' := h.mono fun a k q => Or.inl q
theorem MO.bad (h : InvM σ w p n H b S) (e : Nat) (t : Int32) (ht : t = if e = 0 then 1 else 2) (F1 : Fr FScr σ σ1) (F2 : Fr FScr σ1 σ2) (hc : fc = some (.inr e, σ1)) (hm : fm σ1 = some (0, ms_si σ2 493 7 t)) : MO σ w b S fc fm :=
  ⟨_, _, _, _, w, p, n, H, hc, hm, (i_si_same _ _ _ _).trans ht, h.fr ((F1.trans F2).trans (fr7 σ2 t)), SameSg.rfl', scr_mut ((F1.trans F2).trans (fr7 σ2 t))⟩
theorem MO.ref (h : InvM σ w p n H b S) {v : Int32} (F1 : Fr FScr σ σ1) (F2 : Fr FScr σ1 σ2) (h7 : ms_i σ2 493 7 = 0) (hc : fc = some (.inl v, σ1)) (hm : fm σ1 = some (v, σ2)) : MO σ w b S fc fm :=
  ⟨_, _, _, _, w, p, n, H, hc, hm, ⟨h7, rfl⟩, h.fr (F1.trans F2), SameSg.rfl', scr_mut (F1.trans F2)⟩
theorem MO.line (h : InvM σ w p n H b S) {v : Int32} (F0 : Fr FScr σ s0) (c1 : HC s1 p' (pN n) (pH n H w)) (c2 : Fr (In 285 427) s0 s1) (c3 : Fr FCls s1 σ1) (c4 : NowRep σ1 3 u) (m1 : HR σ2 (pN n) (pH n H w)) (m2 : Mw σ2 494 u) (m3 : Fr FRef σ1 σ2) (hW : WF u) (hS : SameSg w u) (h7 : ms_i σ2 493 7 = 0) (hc : fc = some (.inl v, σ1)) (hm : fm σ1 = some (v, σ2)) : MO σ w b S fc fm := by
  obtain ⟨f1, f2⟩ := fin_line (h.fr F0) c1 c2 c3 c4 m1 m2 m3 hW hS
  exact ⟨_, _, _, _, u, p', pN n, pH n H w, hc, hm, ⟨h7, rfl⟩, f1, hS, (scr_mut F0).trans f2⟩
end Mk
theorem er_bad (x y v : Int32) (t : Int32) (ht : t ≠ 0) : f_X12_erase_33 σ 493 x y v t 493 = some (0, ms_si σ 493 7 t) := by
  unfold f_X12_erase_33
  rw [nm_s, i_si_same, if_neg ht]
theorem cutL_line (hW : WF w) {l i j : Nat} (hl : l < 4) (hij : i ≤ j) (hj : j < w (3 + l)) : (∀ x ∈ cutL (ln w l) i j, x < w 0) ∧ (cutL (ln w l) i j).length ≤ 60 := by
  have h60 := hW.2.2.2.2.1 l hl
  have eA := ln_length w l
  have hcl := cutL_length (L := ln w l) hij (by omega)
  exact ⟨fun x hx => (hW.line hl).1 x (cutL_mem hx), by omega⟩
theorem q_erase {p n b : Nat} {H : Nat → Nat → Nat} {S : Nat → Nat} (h : InvM σ w p n H b S) (x y v : Int32) : MO σ w b S (f_X10_erase σ 0 x y v) (fun s => f_X12_erase s 493 x y v) := by
  obtain ⟨z, z1, z2, rfl⟩ := iZ_of x
  obtain ⟨k, k1, k2, rfl⟩ := iZ_of y
  obtain ⟨m, m1, m2, rfl⟩ := iZ_of v
  have hInv := h
  obtain ⟨hI, hC, hR, hK, hS⟩ := h
  have h40 := hI.1.1.1
  have h4 := hI.1.2.2.1
  by_cases q : 0 ≤ z ∧ z ≤ (w 1 : Int) - 1
  · obtain ⟨l, rfl⟩ : ∃ l : Nat, z = (l : Int) := ⟨z.toNat, by omega⟩
    have hl : l < 4 := by omega
    have h60 := hI.1.2.2.2.2.1 l hl
    have eA := ln_length w l
    have e3 : ms_i σ (3 + 123 + 2 * l) 1 = iZ (w (3 + l) : Int) := by rw [(hI.2.1.2.2.2 l hl).cnt, eA]
    have e4 : iZ (w (3 + l) : Int) - 1 = iZ ((w (3 + l) : Int) - 1) := by rw [i1, iZ_sub]
    by_cases g1 : 0 ≤ k ∧ k ≤ (w (3 + l) : Int) - 1
    · by_cases g2 : 0 ≤ m ∧ m ≤ (w (3 + l) : Int) - 1
      · obtain ⟨i, rfl⟩ : ∃ i : Nat, k = (i : Int) := ⟨k.toNat, by omega⟩
        obtain ⟨j, rfl⟩ : ∃ j : Nat, m = (j : Int) := ⟨m.toNat, by omega⟩
        by_cases g3 : i ≤ j
        · obtain ⟨s1, p', a1, a2, a3⟩ := c_record hI.1 hI.2.1 hC
          have hN1 := hI.2.1.away a3 h40 (by omega)
          obtain ⟨σ1, d1, d2, d3⟩ := c_cut (hN1.2.2.2 l hl) g3 (by omega)
          have G1 : Fr (fun a _ => (3 ≤ a ∧ a < 139) ∨ (285 ≤ a ∧ a < 427)) σ σ1 := (a3.mono fun a k q => Or.inr ⟨q.1, q.2⟩).trans (d3.mono fun a k q => by have q1 := q.1; have q2 := q.2; omega)
          have hM1 := hI.2.2.fr G1 (by intros; omega)
          have hM7 : Mw (ms_si σ1 493 7 0) 494 w := hM1.fr (Fr.si (P := fun a _ => a = 493) _ _ rfl) (by intros; omega)
          have hR7 := (hR.frP G1 (by omega) (by intros; omega)).frP (Fr.si (P := fun a k => a = 493 ∧ k = 7) σ1 (0 : Int32) ⟨rfl, rfl⟩) (by omega) (by intros; omega)
          obtain ⟨s2, b1, b2, b3⟩ := m_record hM7 hR7 hC.2.2.2.1
          have hM2 : Mw s2 494 w := hM7.fr b3 (by unfold FHis; intros; omega)
          obtain ⟨σ2, e1, ⟨u, e2, e5⟩, e6⟩ := m_eraseL hI.1 hl g3 (by omega) hM2
          obtain ⟨c1, c2⟩ := cutL_line hI.1 hl g3 (by omega)
          have hcl := cutL_length (L := ln w l) g3 (by omega)
          have Fm : Fr FRef σ1 σ2 := (((fr7 σ1 0).mono fun a k q => Or.inl q).trans (b3.mono fun a k q => by unfold FHis at q; show FRef a k; unfold FRef; omega)).trans (e6.mono fun a k q => Or.inr (Or.inl q))
          have hcnt : ms_i σ1 (3 + 123 + 2 * l) 1 = iZ ((w (3 + l) - (j - i + 1) : Nat) : Int) := by rw [d2.cnt, hcl, eA]
          refine MO.line (σ1 := σ1) (σ2 := σ2) (v := iZ ((w (3 + l) - (j - i + 1) : Nat) : Int)) hInv (Fr.refl _ _) a2 a3 (d3.mono fun a k q => Or.inr (by have q1 := q.1; have q2 := q.2; omega)) (e5.now hl hI.1 hN1 d3 d2) (b2.frP e6 (by omega) (by intros; omega)) e2 Fm (e5.wf hI.1 (by omega) c2 c1) (e5.same hl) ?_ ?_ ?_
          · rw [e6.1 _ _ (by omega), b3.1 _ _ (by unfold FHis; omega), i_si_same]
          · unfold f_X10_erase
            rw [needLine_s hI z1 z2, btT q, x_rf1, lineAt_s (a := 3) (Or.inl rfl) hl, Option.bind_some, e3, e4, needIn0 k1 k2 (by omega) (by omega), btT g1, needIn0 m1 m2 (by omega) (by omega), btT g2, allowIn_s m1 m2 k1 k2 (by omega) (by omega), btT (by omega), x_rf4, a1, Option.bind_some, d1, Option.bind_some, hcnt]
          · have f1 : iZ (j : Int) - iZ (i : Int) + 1 = iZ ((j - i + 1 : Nat) : Int) := by rw [iZ_sub, i1, iZ_add]; congr 1; omega
            have f2 : iZ (w (3 + l) : Int) - iZ ((j - i + 1 : Nat) : Int) = iZ ((w (3 + l) - (j - i + 1) : Nat) : Int) := by rw [iZ_sub]; congr 1; omega
            have f3 : (3 : Int32) + iZ (l : Int) = iZ (3 + (l : Int)) := by rw [i3, iZ_add]
            show f_X12_erase σ1 493 (iZ (l : Int)) (iZ (i : Int)) (iZ (j : Int)) = _
            have hp1 : f_X12_isPlace σ1 493 (iZ (l : Int)) (iZ (i : Int)) = some (b01 (0 ≤ (i : Int) ∧ (i : Int) ≤ (w (3 + l) : Int) - 1)) := m_isPlaceM hM1 hI.1 hl q k1 k2
            have hp2 : f_X12_isPlace σ1 493 (iZ (l : Int)) (iZ (j : Int)) = some (b01 (0 ≤ (j : Int) ∧ (j : Int) ≤ (w (3 + l) : Int) - 1)) := m_isPlaceM hM1 hI.1 hl q m1 m2
            unfold f_X12_erase
            rw [hp1, Option.bind_some, ibT g1, hp2, Option.bind_some, ibT g2, iltF rfl rfl (by omega) (by omega) (by omega)]
            unfold f_X12_erase_33
            rw [nm_s, i_si_same, if_pos rfl, b1, Option.bind_some, f3, m_rf0, mw_get hM2 (Or.inl rfl) (z := 3 + (l : Int)) (k := 3 + l) (by omega) (by omega), Option.bind_some, f1, f2, e1]
        · refine MO.bad hInv 1 2 rfl (Fr.refl _ _) (Fr.refl _ _) ?_ ?_
          · unfold f_X10_erase
            rw [needLine_s hI z1 z2, btT q, x_rf1, lineAt_s (a := 3) (Or.inl rfl) hl, Option.bind_some, e3, e4, needIn0 k1 k2 (by omega) (by omega), btT g1, needIn0 m1 m2 (by omega) (by omega), btT g2, allowIn_s m1 m2 k1 k2 (by omega) (by omega), btF (by omega)]
          · show f_X12_erase σ 493 (iZ (l : Int)) (iZ (i : Int)) (iZ (j : Int)) = _
            unfold f_X12_erase
            rw [m_isPlaceT hI hl q k1 k2, Option.bind_some, ibT g1, m_isPlaceT hI hl q m1 m2, Option.bind_some, ibT g2, iltT rfl rfl (by omega) (by omega) (by omega), er_bad _ _ _ _ (by decide)]
      · refine MO.bad hInv 0 1 rfl (Fr.refl _ _) (Fr.refl _ _) ?_ ?_
        · unfold f_X10_erase
          rw [needLine_s hI z1 z2, btT q, x_rf1, lineAt_s (a := 3) (Or.inl rfl) hl, Option.bind_some, e3, e4, needIn0 k1 k2 (by omega) (by omega), btT g1, needIn0 m1 m2 (by omega) (by omega), btF g2]
        · show f_X12_erase σ 493 (iZ (l : Int)) (iZ k) (iZ m) = _
          unfold f_X12_erase f_X12_erase_19
          rw [m_isPlaceT hI hl q k1 k2, Option.bind_some, ibT g1, m_isPlaceT hI hl q m1 m2, Option.bind_some, ibF g2, er_bad _ _ _ _ (by decide)]
    · refine MO.bad hInv 0 1 rfl (Fr.refl _ _) (Fr.refl _ _) ?_ ?_
      · unfold f_X10_erase
        rw [needLine_s hI z1 z2, btT q, x_rf1, lineAt_s (a := 3) (Or.inl rfl) hl, Option.bind_some, e3, e4, needIn0 k1 k2 (by omega) (by omega), btF g1]
      · show f_X12_erase σ 493 (iZ (l : Int)) (iZ k) (iZ m) = _
        unfold f_X12_erase f_X12_erase_19
        rw [m_isPlaceT hI hl q k1 k2, Option.bind_some, ibF g1, er_bad _ _ _ _ (by decide)]
  · refine MO.bad hInv 0 1 rfl (Fr.refl _ _) (Fr.refl _ _) ?_ ?_
    · unfold f_X10_erase
      rw [needLine_s hI z1 z2, btF q]
    · show f_X12_erase σ 493 (iZ z) (iZ k) (iZ m) = _
      unfold f_X12_erase f_X12_erase_19
      rw [m_isPlaceF hI z1 z2 q, Option.bind_some, if_pos rfl, er_bad _ _ _ _ (by decide)]
end Mo2
