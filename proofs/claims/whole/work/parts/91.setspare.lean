/-! setSpare -/
section Ss
variable {σ : MsSt} {w : Nat → Nat}
section Us
variable {s v : Nat}
theorem us_Kd : Kd (uw w (247 + 7 * s + 5) v) = Kd w := funext fun p => uw_ne (by omega)
theorem us_Cl : Cl (uw w (247 + 7 * s + 5) v) = Cl w := funext fun p => uw_ne (by omega)
theorem us_sgF (p f : Nat) (hf : f < 7) (h5 : f ≠ 5) : sgF (uw w (247 + 7 * s + 5) v) p f = sgF w p f := uw_ne (by omega)
theorem us_5 (p : Nat) : sgF (uw w (247 + 7 * s + 5) v) p 5 = if p = s then v else sgF w p 5 := by
  by_cases q : p = s
  · rw [if_pos q, q]
    exact uw_eq
  · rw [if_neg q]
    exact uw_ne (by omega)
theorem us_exF : ∀ (k p : Nat), exF (uw w (247 + 7 * s + 5) v) k p = exF w k p := by
  intro k
  induction k with
  | zero => intro p; rfl
  | succ k ih =>
    intro p
    unfold exF
    rw [us_Kd, ih, us_sgF p 3 (by omega) (by omega), us_sgF p 4 (by omega) (by omega)]
theorem us_ex : ex (uw w (247 + 7 * s + 5) v) = ex w := funext fun p => us_exF p p
theorem us_SgsOK {n : Nat} (h : SgsOK w n) (hk : Kd w s = 2) (hv : v ≤ 1) : SgsOK (uw w (247 + 7 * s + 5) v) n := by
  obtain ⟨h1, h2, h3⟩ := h
  refine ⟨h1, fun p hp => ?_, fun p t hp ht => ?_⟩
  · obtain ⟨⟨a1, a2, a3, a4⟩, a5⟩ := h2 p hp
    have e3 := us_sgF (w := w) (s := s) (v := v) p 3 (by omega) (by omega)
    have e4 := us_sgF (w := w) (s := s) (v := v) p 4 (by omega) (by omega)
    have e6 := us_sgF (w := w) (s := s) (v := v) p 6 (by omega) (by omega)
    have e5 : Kd w p ≠ 2 → sgF (uw w (247 + 7 * s + 5) v) p 5 = sgF w p 5 := by
      intro g
      rw [us_5, if_neg]
      intro e
      rw [e] at g
      exact g hk
    refine ⟨⟨?_, ?_, ?_, ?_⟩, ?_⟩
    · rw [us_Kd]; exact a1
    · rw [us_Kd, us_Cl, e3, e4, e6]
      intro q
      rw [e5 (by omega)]
      exact a2 q
    · rw [us_Kd, us_Cl, e3, e4, e6]
      intro q
      rw [e5 (by omega)]
      exact a3 q
    · rw [us_Kd, us_Cl, e3, e4, us_5]
      intro q
      obtain ⟨b1, b2, b3, b4, b5, b6⟩ := a4 q
      refine ⟨b1, b2, b3, b4, b5, ?_⟩
      split <;> omega
    · rw [us_ex]
      exact a5
  · rw [us_Kd, us_Cl, us_sgF p 6 (by omega) (by omega), us_sgF t 6 (by omega) (by omega)]
    exact h3 p t hp ht
theorem us_WF (h : WF w) (hk : Kd w s = 2) (hv : v ≤ 1) : WF (uw w (247 + 7 * s + 5) v) := by
  obtain ⟨h1, h2, h3, h4, h5, h6, h7⟩ := h
  have e : ∀ k, k < 247 → uw w (247 + 7 * s + 5) v k = w k := fun k hk => uw_ne (by omega)
  refine ⟨?_, by rw [e 1 (by omega)]; exact h2, by rw [e 1 (by omega)]; exact h3, by rw [e 1 (by omega), e 2 (by omega)]; exact h4, fun l hl => by rw [e (3 + l) (by omega)]; exact h5 l hl, fun l hl => by rw [e 1 (by omega), e (3 + l) (by omega)]; exact h6 l hl, fun l p hl hp => ?_⟩
  · rw [e 0 (by omega)]
    exact us_SgsOK h1 hk hv
  · rw [e (3 + l) (by omega)] at hp
    have := h5 l hl
    rw [e 0 (by omega), e (7 + 60 * l + p) (by omega)]
    exact h7 l p hl hp
theorem us_ln (h : WF w) {l : Nat} (hl : l < 4) : ln (uw w (247 + 7 * s + 5) v) l = ln w l := by
  have h5 := h.2.2.2.2.1 l hl
  have e : uw w (247 + 7 * s + 5) v (3 + l) = w (3 + l) := uw_ne (by omega)
  unfold ln
  rw [e]
  refine List.map_congr_left fun p hp => ?_
  have := List.mem_range.mp hp
  exact uw_ne (by omega)
theorem us_same (hk : Kd w s = 2) : SameSg w (uw w (247 + 7 * s + 5) v) := ⟨uw_ne (by omega), uw_ne (by omega), fun t _ => ⟨by rw [us_Kd], fun f hf _ h5 => us_sgF t f hf h5, fun q => by
  rw [us_5, if_neg]
  intro e
  rw [e] at q
  exact q hk⟩⟩
theorem spr_SgRep {t : Nat} (hk : Kd w s = 2) (h : SgRep σ 3 w t) : SgRep (ms_si σ (3 + 2 + 3 * s) 13 (iZ (v : Int))) 3 (uw w (247 + 7 * s + 5) v) t := by
  obtain ⟨g1, g2, g3, g4, g5, g6, g7, g8⟩ := h
  have ne : ∀ k, k ≠ 13 → ms_i (ms_si σ (3 + 2 + 3 * s) 13 (iZ (v : Int))) (3 + 2 + 3 * t) k = ms_i σ (3 + 2 + 3 * t) k := fun k k1 => i_si_ne (Or.inr k1)
  have e3 := us_sgF (w := w) (s := s) (v := v) t 3 (by omega) (by omega)
  have e4 := us_sgF (w := w) (s := s) (v := v) t 4 (by omega) (by omega)
  have e6 := us_sgF (w := w) (s := s) (v := v) t 6 (by omega) (by omega)
  unfold SgRep
  rw [us_Kd, us_ex, us_Cl, e3, e4, us_5, e6, ne 1 (by omega), ne 3 (by omega), ne 4 (by omega), ne 6 (by omega), ne 7 (by omega), ne 8 (by omega), ne 9 (by omega), ne 10 (by omega), ne 5 (by omega), ne 11 (by omega), ne 12 (by omega)]
  by_cases q : t = s
  · subst q
    rw [if_pos rfl, i_si_same]
    refine ⟨g1, g2, g3, g4.si (by omega) (by omega), fun c => absurd hk c, fun c => by omega, fun c => by omega, fun c => ⟨(g8 c).1, (g8 c).2.1, rfl⟩⟩
  · rw [if_neg q, i_si_ne (Or.inl (by omega))]
    exact ⟨g1, g2, g3, g4.si (by omega) (by omega), g5, g6, g7, g8⟩
end Us
theorem al22 {σ : MsSt} {k : Int} (k1 : -2147483648 ≤ k) (k2 : k < 2147483648) : f_X10_allowIn σ (iZ k) 2 2 = some (if 2 ≤ k ∧ k ≤ 2 then none else some 1) := allowIn_s (b := 2) (c := 2) k1 k2 (by omega) (by omega) (by omega) (by omega)
theorem ss_bad (x y : Int32) (t : Int32) (ht : t ≠ 0) : f_X12_setSpare_27 σ 493 x y t 493 = some (0, ms_si σ 493 7 t) := by
  unfold f_X12_setSpare_27
  rw [nm_s, i_si_same, if_neg ht]
theorem b01_v {P : Prop} [Decidable P] : b01 P = iZ (((if P then 1 else 0 : Nat)) : Int) := by
  unfold b01
  by_cases q : P
  · rw [if_pos q, if_pos q]; rfl
  · rw [if_neg q, if_neg q]; rfl
theorem q_setSpare {p n b : Nat} {H : Nat → Nat → Nat} {S : Nat → Nat} (h : InvM σ w p n H b S) (x : Int32) (P : Prop) [Decidable P] : ∃ r σ1 b' σ2 w' p' n' H', f_X10_setSpare σ 0 x (b01 P) = some (r, σ1) ∧ f_X12_setSpare σ1 493 x (b01 P) = some (b', σ2) ∧ Ok r (ms_i σ2 493 7) b' ∧ InvM σ2 w' p' n' H' b S ∧ SameSg w w' ∧ Fr FMut σ σ2 := by
  obtain ⟨z, z1, z2, rfl⟩ := iZ_of x
  have hInv := h
  obtain ⟨hI, hC, hR, hK, hS⟩ := h
  have h40 := hI.1.1.1
  have bad : ∀ (e : Nat) (t : Int32), t = (if e = 0 then 1 else 2) → f_X10_setSpare σ 0 (iZ z) (b01 P) = some (.inr e, σ) → f_X12_setSpare σ 493 (iZ z) (b01 P) = some (0, ms_si σ 493 7 t) → ∃ r σ1 b' σ2 w' p' n' H', f_X10_setSpare σ 0 (iZ z) (b01 P) = some (r, σ1) ∧ f_X12_setSpare σ1 493 (iZ z) (b01 P) = some (b', σ2) ∧ Ok r (ms_i σ2 493 7) b' ∧ InvM σ2 w' p' n' H' b S ∧ SameSg w w' ∧ Fr FMut σ σ2 :=
    fun e t ht hc hm => ⟨_, _, _, _, w, p, n, H, hc, hm, (i_si_same _ _ _ _).trans ht, hInv.fr (fr7 σ t), SameSg.rfl', (fr7 σ t).mono fun a k q => Or.inl q⟩
  by_cases g : 0 ≤ z ∧ z ≤ (w 0 : Int) - 1
  · obtain ⟨s, rfl⟩ : ∃ s : Nat, z = (s : Int) := ⟨z.toNat, by omega⟩
    have hs : s < w 0 := by omega
    have hkb := (hI.1.1.2.1 s hs).1.1
    have hko : ∀ σ' : MsSt, Mw σ' 494 w → f_X12_isOfKind σ' 493 (iZ (s : Int)) 2 = some (b01 (Kd w s = 2)) := fun σ' hw => isOfKind_s hw (by omega) (k := 2) (by omega) (by omega)
    by_cases g2 : Kd w s = 2
    · generalize hv : (if P then 1 else 0 : Nat) = v
      have hv1 : v ≤ 1 := by rw [← hv]; split <;> omega
      have hvP : b01 P = iZ (v : Int) := by rw [b01_v, hv]
      have h5b := ((hI.1.1.2.1 s hs).1.2.2.2 g2).2.2.2.2.2
      have hix : (247 + 7 * (s : Int) + 5) = ((247 + 7 * s + 5 : Nat) : Int) := by omega
      obtain ⟨s1, p', a1, a2, a3⟩ := c_record hI.1 hI.2.1 hC
      have hN1 := hI.2.1.away a3 h40 (by omega)
      have G1 : Fr (fun a k => (285 ≤ a ∧ a < 427) ∨ (a = 3 + 2 + 3 * s ∧ k = 13)) σ (ms_si s1 (3 + 2 + 3 * s) 13 (iZ (v : Int))) := (a3.mono fun a k q => Or.inl ⟨q.1, q.2⟩).trans (Fr.si _ _ (Or.inr ⟨rfl, rfl⟩))
      have G2 : Fr (fun a k => a = 493 ∧ k = 7) (ms_si s1 (3 + 2 + 3 * s) 13 (iZ (v : Int))) (ms_si (ms_si s1 (3 + 2 + 3 * s) 13 (iZ (v : Int))) 493 7 0) := Fr.si _ _ ⟨rfl, rfl⟩
      have hM0 := hI.2.2.fr G1 (by intros; omega)
      have hMw := hM0.fr G2 (by intros; omega)
      obtain ⟨s2, b1, b2, b3⟩ := m_record hMw ((hR.frP G1 (by omega) (by intros; omega)).frP G2 (by omega) (by intros; omega)) hC.2.2.2.1
      have hM2 : Mw s2 494 w := hMw.fr b3 (by unfold FHis; intros; omega)
      have hg : ms_ald s2 494 (iZ (247 + 7 * (s : Int) + 5)) = some (iZ (sgF w s 5 : Int)) := mw_get hM2 (Or.inl rfl) (k := 247 + 7 * s + 5) (by omega) (by omega)
      have hM3 : Mw (ms_si s2 494 (247 + 7 * s + 5) (iZ (v : Int))) 494 (uw w (247 + 7 * s + 5) v) := mw_uw (v := w (247 + 7 * s + 5)) (by rw [uw_self]; exact hM2) rfl
      have G3 : Fr (fun a k => a = 494 ∨ a = 497 ∨ (a = 493 ∧ (k = 6 ∨ k = 7))) (ms_si s1 (3 + 2 + 3 * s) 13 (iZ (v : Int))) (ms_si s2 494 (247 + 7 * s + 5) (iZ (v : Int))) := ((G2.mono fun a k q => by omega).trans (b3.mono fun a k q => by unfold FHis at q; omega)).trans (Fr.si _ _ (Or.inl rfl))
      have h13 : ms_i s1 (3 + 2 + 3 * s) 13 = iZ (sgF w s 5 : Int) := ((hN1.1.2 s hs).2.2.2.2.2.2.2 g2).2.2
      have hN2 : NowRep (ms_si s1 (3 + 2 + 3 * s) 13 (iZ (v : Int))) 3 (uw w (247 + 7 * s + 5) v) := by
        obtain ⟨⟨e1, e2⟩, e3, e4, e5⟩ := hN1
        have G : Fr (In (3 + 2 + 3 * s) (3 + 2 + 3 * s + 1)) s1 (ms_si s1 (3 + 2 + 3 * s) 13 (iZ (v : Int))) := Fr.si _ _ ⟨Nat.le_refl _, by omega⟩
        refine ⟨⟨?_, fun t ht => spr_SgRep g2 (e2 t (by rw [uw_ne (by omega)] at ht; exact ht))⟩, ?_, ?_, fun t ht => ?_⟩
        · rw [i_si_ne (Or.inl (by omega)), uw_ne (by omega)]; exact e1
        · rw [i_si_ne (Or.inl (by omega)), uw_ne (by omega)]; exact e3
        · rw [i_si_ne (Or.inl (by omega)), uw_ne (by omega)]; exact e4
        · rw [us_ln hI.1 ht]
          exact (e5 t ht).away G (by omega)
      have hW2 := us_WF hI.1 g2 (v := v) hv1
      have hSm := us_same (w := w) (s := s) (v := v) g2
      refine ⟨.inl (iZ (sgF w s 5 : Int)), ms_si s1 (3 + 2 + 3 * s) 13 (iZ (v : Int)), iZ (sgF w s 5 : Int), ms_si s2 494 (247 + 7 * s + 5) (iZ (v : Int)), uw w (247 + 7 * s + 5) v, p', pN n, pH n H w, ?_, ?_, ⟨?_, rfl⟩, ⟨⟨hW2, hN2.frG G3 (by rw [uw_ne (by omega)]; exact h40) (by intros; omega), hM3⟩, (a2.frP (Fr.si (P := fun a _ => a = 3 + 2 + 3 * s) _ _ rfl) (by intros; omega)).frP G3 (by intros; omega), b2.frP (Fr.si (P := fun a _ => a = 494) _ _ rfl) (by omega) (by intros; omega), pH_ok hC.2.2.2.1 hI.1 hSm hK, ((hS.frP G1 (by omega) (by omega) (by intros; omega) (by intros; omega)).frP G3 (by omega) (by omega) (by intros; omega) (by intros; omega)).step hSm⟩, hSm, (G1.mono fun a k q => by unfold FMut; omega).trans (G3.mono fun a k q => by unfold FMut FScr; omega)⟩
      · unfold f_X10_setSpare
        rw [needSign_s hI z1 z2, btT g, x_rf1, kindOf_s hI.2.1.1 (Or.inl rfl) hs h40, Option.bind_some, al22 (by omega) (by omega), btT (by omega), x_rf4, a1, Option.bind_some, told_s (a := 3) (Or.inl rfl) (by omega), Option.bind_some, h13, bz_b01, Option.bind_some, Option.bind_some, nm_s, nm_s, hvP]
        have h01 : sgF w s 5 = 0 ∨ sgF w s 5 = 1 := by omega
        rcases h01 with e | e
        · rw [e, if_pos (show iZ ((0 : Nat) : Int) = 0 from rfl)]
          rfl
        · rw [e, if_neg (show ¬ iZ ((1 : Nat) : Int) = 0 from by decide)]
          rfl
      · unfold f_X12_setSpare
        rw [m_isSign hM0 h40 z1 z2, Option.bind_some, ibT g, hko _ hM0, Option.bind_some, ibT g2]
        unfold f_X12_setSpare_27 f_X12_set
        rw [nm_s, i_si_same, if_pos rfl, of_5, Option.bind_some, ib01, b1, Option.bind_some, Option.bind_some, m_rf0, hg, Option.bind_some, Option.bind_some, ast_z (k := 247 + 7 * s + 5) hix (by rw [m_ln.1]; omega) (by rw [m_ln.1]; omega), Option.bind_some, b2_s, ast_z (k := 247 + 7 * s + 5) hix (by rw [m_ln.1]; omega) (by rw [m_ln.1]; omega), Option.bind_some, b2_s, ← hv]
        by_cases q : P
        · rw [if_pos q, if_pos q]
          rfl
        · rw [if_neg q, if_neg q]
          rfl
      · rw [i_si_ne (Or.inl (by omega)), b3.1 _ _ (by unfold FHis; omega), i_si_same]
    · refine bad 1 2 rfl ?_ ?_
      · unfold f_X10_setSpare
        rw [needSign_s hI z1 z2, btT g, x_rf1, kindOf_s hI.2.1.1 (Or.inl rfl) hs h40, Option.bind_some, al22 (by omega) (by omega), btF (by omega)]
      · unfold f_X12_setSpare
        rw [m_isSign hI.2.2 h40 z1 z2, Option.bind_some, ibT g, hko _ hI.2.2, Option.bind_some, ibF g2, ss_bad _ _ 2 (by decide)]
  · refine bad 0 1 rfl ?_ ?_
    · unfold f_X10_setSpare
      rw [needSign_s hI z1 z2, btF g]
    · unfold f_X12_setSpare
      rw [m_isSign hI.2.2 h40 z1 z2, Option.bind_some, ibF g, ss_bad _ _ 1 (by decide)]
end Ss
