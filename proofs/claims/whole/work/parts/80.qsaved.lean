/-! saved -/
section Sv
variable {σ : MsSt} {w : Nat → Nat}
def uw (w : Nat → Nat) (i v : Nat) : Nat → Nat := fun k => if k = i then v else w k
theorem uw_ne {i v k : Nat} (h : k ≠ i) : uw w i v k = w k := if_neg h
theorem uw_eq {i v : Nat} : uw w i v i = v := if_pos rfl
section Uw
variable {s : Nat}
theorem uw_Kd : Kd (uw w (247 + 7 * s + 5) 0) = Kd w := funext fun p => uw_ne (by omega)
theorem uw_Cl : Cl (uw w (247 + 7 * s + 5) 0) = Cl w := funext fun p => uw_ne (by omega)
theorem uw_sgF (p f : Nat) (hf : f < 7) (h5 : f ≠ 5) : sgF (uw w (247 + 7 * s + 5) 0) p f = sgF w p f := uw_ne (by omega)
theorem uw_5 (p : Nat) : sgF (uw w (247 + 7 * s + 5) 0) p 5 = if p = s then 0 else sgF w p 5 := by
  by_cases q : p = s
  · rw [if_pos q, q]
    exact uw_eq
  · rw [if_neg q]
    exact uw_ne (by omega)
theorem uw_exF : ∀ (k p : Nat), exF (uw w (247 + 7 * s + 5) 0) k p = exF w k p := by
  intro k
  induction k with
  | zero => intro p; rfl
  | succ k ih =>
    intro p
    unfold exF
    rw [uw_Kd, ih, uw_sgF p 3 (by omega) (by omega), uw_sgF p 4 (by omega) (by omega)]
theorem uw_SgsOK {n : Nat} (h : SgsOK w n) : SgsOK (uw w (247 + 7 * s + 5) 0) n := by
  obtain ⟨h1, h2, h3⟩ := h
  refine ⟨h1, fun p hp => ?_, fun p t hp ht => ?_⟩
  · obtain ⟨⟨a1, a2, a3, a4⟩, a5⟩ := h2 p hp
    have e5 := uw_5 (w := w) (s := s) p
    have e3 := uw_sgF (w := w) (s := s) p 3 (by omega) (by omega)
    have e4 := uw_sgF (w := w) (s := s) p 4 (by omega) (by omega)
    have e6 := uw_sgF (w := w) (s := s) p 6 (by omega) (by omega)
    have hle : sgF (uw w (247 + 7 * s + 5) 0) p 5 ≤ sgF w p 5 := by rw [e5]; split <;> omega
    refine ⟨⟨?_, ?_, ?_, ?_⟩, ?_⟩
    · rw [uw_Kd]; exact a1
    · rw [uw_Kd, uw_Cl, e3, e4, e6]
      intro q
      obtain ⟨b1, b2, b3, b4, b5, b6, b7⟩ := a2 q
      exact ⟨b1, b2, b3, b4, b5, by omega, b7⟩
    · rw [uw_Kd, uw_Cl, e3, e4, e6]
      intro q
      obtain ⟨b1, b2, b3, b4, b5, b6, b7, b8⟩ := a3 q
      exact ⟨b1, b2, b3, b4, b5, b6, by omega, b8⟩
    · rw [uw_Kd, uw_Cl, e3, e4]
      intro q
      obtain ⟨b1, b2, b3, b4, b5, b6⟩ := a4 q
      exact ⟨b1, b2, b3, b4, b5, by omega⟩
    · unfold ex
      rw [uw_exF]
      exact a5
  · rw [uw_Kd, uw_Cl, uw_sgF p 6 (by omega) (by omega), uw_sgF t 6 (by omega) (by omega)]
    exact h3 p t hp ht
theorem uw_mk (sp : Nat → Bool) (n : Nat) : mk (uw w (247 + 7 * s + 5) 0) sp n = mk w sp n := by
  funext a b
  have e : prP (uw w (247 + 7 * s + 5) 0) a b = prP w a b := by
    funext p
    unfold prP
    rw [uw_Kd, uw_sgF p 3 (by omega) (by omega), uw_sgF p 4 (by omega) (by omega)]
  unfold mk pr
  rw [e]
theorem uw_cmp (sp : Nat → Bool) (n : Nat) (D : List Nat) : cmp (uw w (247 + 7 * s + 5) 0) sp n D = cmp w sp n D := by
  have e : cstep (uw w (247 + 7 * s + 5) 0) sp n = cstep w sp n := by
    funext c x
    unfold cstep cSet cStay
    rw [uw_Kd, uw_Cl, uw_mk]
  unfold cmp
  rw [e]
end Uw
def spF (w : Nat → Nat) (s : Nat) : Nat → Bool := fun p => sgF w p 5 != 0 && !decide ((p : Int) = (s : Int))
theorem uw_spN (s : Nat) : spN (uw w (247 + 7 * s + 5) 0) = spF w s := by
  funext p
  unfold spN spF
  rw [uw_5]
  by_cases q : p = s
  · rw [if_pos q]
    simp [q]
  · rw [if_neg q]
    have q' : ¬ (p : Int) = (s : Int) := by omega
    simp [q']
theorem nd22 {σ : MsSt} {k : Int} (k1 : -2147483648 ≤ k) (k2 : k < 2147483648) : f_X10_needIn σ (iZ k) 2 2 = some (if 2 ≤ k ∧ k ≤ 2 then none else some 0) := needIn_s (b := 2) (c := 2) k1 k2 (by omega) (by omega) (by omega) (by omega)
theorem m_savedT (h : InvS σ w) {l s : Nat} (hl : l < 4) (hs : s < w 0) : ∃ σ', f_X12_saved_31 σ 493 (iZ (l : Int)) (iZ (s : Int)) 0 493 = some (iZ (((cmp w (spN w) (w 0) (dF w (ln w l))).1.length : Int) - ((cmp w (spF w s) (w 0) (dF w (ln w l))).1.length : Int)), σ') ∧ ms_i σ' 493 7 = 0 ∧ Fr FScr σ σ' := by
  have h40 := h.1.1.1
  obtain ⟨n1, n2, n3, n4⟩ := lnok h.1 hl
  obtain ⟨s3, b1, b2, b3, b4, b5, b6⟩ := m_formsP (h.fr (fr7 σ 0)) hl
  rw [i_si_same] at b5
  have F3 : Fr FScr σ s3 := (fr7 σ 0).trans b6
  have hln : ms_ln 494 = 527 := m_ln.1
  have hi : (247 + 7 * (s : Int) + 5) = ((247 + 7 * s + 5 : Nat) : Int) := by omega
  have hg : ms_ald s3 494 (iZ (247 + 7 * (s : Int) + 5)) = some (iZ (w (247 + 7 * s + 5) : Int)) := mw_get b2 (Or.inl rfl) (k := 247 + 7 * s + 5) (by omega) (by omega)
  have hMu : Mw (ms_si s3 494 (247 + 7 * s + 5) 0) 494 (uw w (247 + 7 * s + 5) 0) := by
    intro k hk
    rw [ms_i_si]
    by_cases q : k = 247 + 7 * s + 5
    · rw [if_pos ⟨rfl, q⟩, q, uw_eq]
      rfl
    · rw [if_neg (by omega), uw_ne q]
      exact b2 k hk
  have G1 : Fr (fun a k => a = 494 ∧ k = 247 + 7 * s + 5) s3 (ms_si s3 494 (247 + 7 * s + 5) 0) := Fr.si _ _ ⟨rfl, rfl⟩
  have hLu : LayS (ms_si s3 494 (247 + 7 * s + 5) 0) (dF w (ln w l)) (sw w (pn w (ln w l)) : Int) := ⟨b3.1.fr G1 (by intros; omega), (G1.1 _ _ (by omega)).trans b3.2.1, (G1.1 _ _ (by omega)).trans b3.2.2⟩
  obtain ⟨s8, c1, c2, c3⟩ := m_layComposed (w := uw w (247 + 7 * s + 5) 0) (n := w 0) (uw_SgsOK h.1.1) (uw_ne (by omega)) hMu hLu (fun y hy => ⟨(n1 y hy).1, by rw [uw_Cl]; exact (n1 y hy).2.2⟩) n2
  rw [uw_spN, uw_cmp] at c2
  refine ⟨ms_si s8 494 (247 + 7 * s + 5) (iZ (w (247 + 7 * s + 5) : Int)), ?_, ?_, ?_⟩
  · unfold f_X12_saved_31
    rw [nm_s, i_si_same, if_pos rfl, b1, Option.bind_some, of_5, Option.bind_some, m_rf0, hg, Option.bind_some, Option.bind_some, ast_z (k := 247 + 7 * s + 5) hi (by rw [hln]; omega) (by rw [hln]; omega), Option.bind_some, c1, Option.bind_some, of_5, Option.bind_some, ast_z (k := 247 + 7 * s + 5) hi (by rw [hln]; omega) (by rw [hln]; omega), Option.bind_some, i_si_ne (Or.inl (by omega)), b4.2.2, c2.2.2, iZ_sub]
  · rw [i_si_ne (Or.inl (by omega)), c3.1 _ _ (by unfold FCmp; omega), G1.1 _ _ (by omega), b5]
  · have G2 : Fr (fun a k => FScr a k ∨ (a = 494 ∧ k = 247 + 7 * s + 5)) σ (ms_si s8 494 (247 + 7 * s + 5) (iZ (w (247 + 7 * s + 5) : Int))) := (((F3.mono fun a k q => Or.inl q).trans (G1.mono fun a k q => Or.inr q)).trans ((cmp_scr c3).mono fun a k q => Or.inl q)).trans (Fr.si _ _ (Or.inr ⟨rfl, rfl⟩))
    refine ⟨fun a k hk => ?_, G2.2⟩
    by_cases q : a = 494 ∧ k = 247 + 7 * s + 5
    · obtain ⟨rfl, rfl⟩ := q
      rw [i_si_same]
      exact (h.2.2 _ (by omega)).symm
    · exact G2.1 a k (fun g => g.elim hk q)
theorem q_saved (h : InvS σ w) (x y : Int32) : ∃ r σ1 b σ2, f_X10_saved σ 0 x y = some (r, σ1) ∧ Fr FScr σ σ1 ∧ f_X12_saved σ1 493 x y = some (b, σ2) ∧ Ok r (ms_i σ2 493 7) b ∧ Fr FScr σ1 σ2 := by
  obtain ⟨z, z1, z2, rfl⟩ := iZ_of x
  obtain ⟨k, k1, k2, rfl⟩ := iZ_of y
  have h4 := h.1.2.2.1
  have h40 := h.1.1.1
  have bad : ∀ x y : Int32, f_X12_saved_30 σ 493 x y 493 = some (0, ms_si σ 493 7 1) := by
    intro x y
    unfold f_X12_saved_30 f_X12_saved_31
    rw [nm_s, i_si_same, if_neg (by decide)]
  by_cases q : 0 ≤ z ∧ z ≤ (w 1 : Int) - 1
  · by_cases g : 0 ≤ k ∧ k ≤ (w 0 : Int) - 1
    · obtain ⟨l, rfl⟩ : ∃ l : Nat, z = (l : Int) := ⟨z.toNat, by omega⟩
      obtain ⟨s, rfl⟩ : ∃ s : Nat, k = (s : Int) := ⟨k.toNat, by omega⟩
      have hl : l < 4 := by omega
      have hs : s < w 0 := by omega
      have hkb := (h.1.1.2.1 s hs).1.1
      have hko : ∀ σ', Mw σ' 494 w → f_X12_isOfKind σ' 493 (iZ (s : Int)) 2 = some (b01 (Kd w s = 2)) := fun σ' hw => isOfKind_s hw (by omega) (k := 2) (by omega) (by omega)
      by_cases g2 : Kd w s = 2
      · obtain ⟨hm, h60⟩ := h.1.line hl
        obtain ⟨s6, a1, ⟨a2, a3, a4, a5⟩, a6⟩ := c_deriveL h (F := 441) (Or.inl rfl) hl
        have hF6 := fm_scr (F := 441) (Or.inl rfl) a6
        have h6 := h.fr hF6
        obtain ⟨s7, b1, ⟨b2, b3, b4, b5⟩, b6⟩ := c_derive (sp := spF w s) (fr := (s : Int)) h.1.1 h6.2.1.1 (F := 454) (Or.inr rfl) (h6.2.1.2.2.2 l hl) hm h60 (by omega) (fun p _ _ => rfl) (by omega) (by omega)
        have hF7 : Fr FScr σ s7 := hF6.trans (fm_scr (F := 454) (Or.inr rfl) b6)
        have a4' := a4.away b6 (by omega)
        obtain ⟨t, c1, c2, c3⟩ := m_savedT (h.fr hF7) hl hs
        refine ⟨.inl (iZ (((cmp w (spN w) (w 0) (dF w (ln w l))).1.length : Int) - ((cmp w (spF w s) (w 0) (dF w (ln w l))).1.length : Int))), s7, _, t, ?_, hF7, ?_, ⟨c2, rfl⟩, c3⟩
        · unfold f_X10_saved
          rw [needLine_s h z1 z2, btT q, needSign_s h k1 k2, btT g, x_rf1, kindOf_s h.2.1.1 (Or.inl rfl) hs h40, Option.bind_some, nd22 (by omega) (by omega), btT (by omega), lineAt_s (a := 3) (Or.inl rfl) hl, Option.bind_some, x_rf6, a1, Option.bind_some, x_rf7, b1, Option.bind_some, (fm_refs (F := 441) (Or.inl rfl)).2.2.2.1, (fm_refs (F := 454) (Or.inr rfl)).2.2.2.1, a4'.cnt, b4.cnt, iZ_sub]
        · have h7 := h.fr hF7
          unfold f_X12_saved
          rw [m_isLine h7.2.2 h4 z1 z2, Option.bind_some, ibT q, m_isSign h7.2.2 h40 k1 k2, Option.bind_some, ibT g, hko _ h7.2.2, Option.bind_some, ibT g2, c1]
      · refine ⟨.inr 0, σ, 0, ms_si σ 493 7 1, ?_, Fr.refl _ _, ?_, i_si_same _ _ _ _, fr7 σ 1⟩
        · unfold f_X10_saved
          rw [needLine_s h z1 z2, btT q, needSign_s h k1 k2, btT g, x_rf1, kindOf_s h.2.1.1 (Or.inl rfl) hs h40, Option.bind_some, nd22 (by omega) (by omega), btF (by omega)]
        · unfold f_X12_saved
          rw [m_isLine h.2.2 h4 z1 z2, Option.bind_some, ibT q, m_isSign h.2.2 h40 k1 k2, Option.bind_some, ibT g, hko _ h.2.2, Option.bind_some, ibF g2, bad]
    · refine ⟨.inr 0, σ, 0, ms_si σ 493 7 1, ?_, Fr.refl _ _, ?_, i_si_same _ _ _ _, fr7 σ 1⟩
      · unfold f_X10_saved
        rw [needLine_s h z1 z2, btT q, needSign_s h k1 k2, btF g]
      · unfold f_X12_saved
        rw [m_isLine h.2.2 h4 z1 z2, Option.bind_some, ibT q, m_isSign h.2.2 h40 k1 k2, Option.bind_some, ibF g, bad]
  · refine ⟨.inr 0, σ, 0, ms_si σ 493 7 1, ?_, Fr.refl _ _, ?_, i_si_same _ _ _ _, fr7 σ 1⟩
    · unfold f_X10_saved
      rw [needLine_s h z1 z2, btF q]
    · unfold f_X12_saved
      rw [m_isLine h.2.2 h4 z1 z2, Option.bind_some, ibF q, bad]
end Sv
