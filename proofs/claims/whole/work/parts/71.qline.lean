/-! line, at, unlike, clusterOf, cluster -/
section Ln
variable {σ : MsSt} {w : Nat → Nat}
theorem nd8 {σ : MsSt} {k : Int} (k1 : -2147483648 ≤ k) (k2 : k < 2147483648) : f_X10_needIn σ (iZ k) 0 8 = some (if 0 ≤ k ∧ k ≤ 8 then none else some 0) := needIn0 (c := 8) k1 k2 (by omega) (by omega)
theorem lnE0 {P : Prop} [Decidable P] (q : P) : b01 (¬ P) = 0 := by unfold b01; rw [if_neg (fun g => g q)]
theorem lnE1 {P : Prop} [Decidable P] (q : ¬ P) : b01 (¬ P) = 1 := by unfold b01; rw [if_pos q]
/-- the reference's side of a good line: the clusters, then the composed forms -/
theorem m_lineP (h : InvS σ w) {l : Nat} (hl : l < 4) (q : 0 ≤ (l : Int) ∧ (l : Int) ≤ (w 1 : Int) - 1) : ∃ s2 s3 s4, f_X12_noLine σ 493 (iZ (l : Int)) = some (0, s2) ∧ f_X12_layClusters s2 493 (iZ (l : Int)) = some s3 ∧ f_X12_layComposed s3 493 = some s4 ∧ LcS s4 w (w 0) (dF w (ln w l)) ∧ CmS s4 (cmp w (spN w) (w 0) (dF w (ln w l))) ∧ ms_i s4 493 12 = iZ (sw w (pn w (ln w l)) : Int) ∧ ms_i s4 493 7 = 0 ∧ Fr FScr σ s4 := by
  have h40 := h.1.1.1
  have h4 := h.1.2.2.1
  have hn := m_noLine h.2.2 h4 (z := (l : Int)) (by omega) (by omega)
  rw [lnE0 q] at hn
  have h2 := h.fr (fr7 σ 0)
  obtain ⟨s3, b1, b2, b3, b4, b5⟩ := m_lcL h2 hl
  obtain ⟨s4, c1, c2, c3⟩ := b2.cmp b4
  refine ⟨_, s3, s4, hn, b1, c1, b2.frc c3, c2, (c3.1 _ _ (by unfold FCmp; omega)).trans b3, ?_, ((fr7 σ 0).trans (lc_scr b5)).trans (cmp_scr c3)⟩
  rw [c3.1 _ _ (by unfold FCmp; omega), b5.1 _ _ (by unfold FLC; omega), i_si_same]
theorem m_noLineF (h : InvS σ w) {z : Int} (z1 : -2147483648 ≤ z) (z2 : z < 2147483648) (q : ¬ (0 ≤ z ∧ z ≤ (w 1 : Int) - 1)) : f_X12_noLine σ 493 (iZ z) = some (1, ms_si σ 493 7 1) := by
  have h4 := h.1.2.2.1
  have hn := m_noLine h.2.2 h4 z1 z2
  rw [lnE1 q] at hn
  exact hn
theorem q_line (h : InvS σ w) (x y : Int32) : ∃ r σ1 b σ2, f_X10_line σ 0 x y = some (r, σ1) ∧ Fr FScr σ σ1 ∧ f_X12_line σ1 493 x y = some (b, σ2) ∧ Ok r (ms_i σ2 493 7) b ∧ Fr FScr σ1 σ2 := by
  obtain ⟨z, z1, z2, rfl⟩ := iZ_of x
  obtain ⟨k, k1, k2, rfl⟩ := iZ_of y
  have h4 := h.1.2.2.1
  by_cases q : 0 ≤ z ∧ z ≤ (w 1 : Int) - 1
  · obtain ⟨l, rfl⟩ : ∃ l : Nat, z = (l : Int) := ⟨z.toNat, by omega⟩
    have hl : l < 4 := by omega
    by_cases qk : 0 ≤ k ∧ k ≤ 8
    · obtain ⟨n1, n2, n3, n4⟩ := lnok h.1 hl
      have hm := (h.1.line hl).1
      obtain ⟨s4, a1, ⟨a2, a3, a4, a5⟩, a6⟩ := c_deriveL h (F := 441) (Or.inl rfl) hl
      have hF4 := fm_scr (F := 441) (Or.inl rfl) a6
      have h5 := h.fr hF4
      obtain ⟨r0, r1, r2, r3, r4, r5, r6⟩ := fm_refs (F := 441) (Or.inl rfl)

      have hk9 : k = 0 ∨ k = 1 ∨ k = 2 ∨ k = 3 ∨ k = 4 ∨ k = 5 ∨ k = 6 ∨ k = 7 ∨ k = 8 := by omega
      rcases hk9 with rfl | rfl | rfl | rfl | rfl | rfl | rfl | rfl | rfl
      · -- 0
        have hr := (h5.2.1.2.2.2 l hl).cnt
        rw [ln_length] at hr
        obtain ⟨t2, t3, t4, e1, e2, e3, t5, t6, t9, t7, t8⟩ := m_lineP (h5) hl q
        refine ⟨.inl (iZ (w (3 + l) : Int)), s4, iZ (w (3 + l) : Int), t4, ?_, hF4, ?_, ⟨t7, rfl⟩, t8⟩
        · unfold f_X10_line
          rw [needLine_s h z1 z2, btT q, nd8 k1 k2, btT qk, x_rf1, lineAt_s (a := 3) (Or.inl rfl) hl, Option.bind_some, x_rf6, a1, Option.bind_some, if_pos (by decide), hr]
        · unfold f_X12_line
          rw [e1, b2_s, if_pos rfl, e2, Option.bind_some, e3, Option.bind_some, if_pos (by decide), i3, iZ_add, m_rf0, mw_get t5.1 (Or.inl rfl) (z := 3 + (l : Int)) (k := 3 + l) (by omega) (by omega), Option.bind_some]
      · -- 1
        obtain ⟨t2, t3, t4, e1, e2, e3, t5, t6, t9, t7, t8⟩ := m_lineP (h5) hl q
        refine ⟨.inl (iZ ((dF w (ln w l)).length : Int)), s4, iZ ((dF w (ln w l)).length : Int), t4, ?_, hF4, ?_, ⟨t7, rfl⟩, t8⟩
        · unfold f_X10_line
          rw [needLine_s h z1 z2, btT q, nd8 k1 k2, btT qk, x_rf1, lineAt_s (a := 3) (Or.inl rfl) hl, Option.bind_some, x_rf6, a1, Option.bind_some, if_neg (by decide), if_pos (by decide), r2, a3.1.cnt]
        · unfold f_X12_line
          rw [e1, b2_s, if_pos rfl, e2, Option.bind_some, e3, Option.bind_some, if_neg (by decide), if_pos (by decide), t5.2.2.2.2.2.2.2.1]
      · -- 2
        obtain ⟨t2, t3, t4, e1, e2, e3, t5, t6, t9, t7, t8⟩ := m_lineP (h5) hl q
        refine ⟨.inl (iZ ((cmp w (spN w) (w 0) (dF w (ln w l))).1.length : Int)), s4, iZ ((cmp w (spN w) (w 0) (dF w (ln w l))).1.length : Int), t4, ?_, hF4, ?_, ⟨t7, rfl⟩, t8⟩
        · unfold f_X10_line
          rw [needLine_s h z1 z2, btT q, nd8 k1 k2, btT qk, x_rf1, lineAt_s (a := 3) (Or.inl rfl) hl, Option.bind_some, x_rf6, a1, Option.bind_some, if_neg (by decide), if_neg (by decide), if_pos (by decide), r3, a4.cnt]
        · unfold f_X12_line
          rw [e1, b2_s, if_pos rfl, e2, Option.bind_some, e3, Option.bind_some, if_neg (by decide), if_neg (by decide), if_pos (by decide), t6.2.2]
      · -- 3
        have hcw := c_countSwaps (F := 441) (Or.inl rfl) a2 (c_cw0 h5 (F := 441) (Or.inl rfl) hm)
        obtain ⟨t2, t3, t4, e1, e2, e3, t5, t6, t9, t7, t8⟩ := m_lineP (h5) hl q
        refine ⟨.inl (iZ (sw w (pn w (ln w l)) : Int)), s4, iZ (sw w (pn w (ln w l)) : Int), t4, ?_, hF4, ?_, ⟨t7, rfl⟩, t8⟩
        · unfold f_X10_line
          rw [needLine_s h z1 z2, btT q, nd8 k1 k2, btT qk, x_rf1, lineAt_s (a := 3) (Or.inl rfl) hl, Option.bind_some, x_rf6, a1, Option.bind_some, if_neg (by decide), if_neg (by decide), if_neg (by decide), if_pos (by decide), hcw, Option.bind_some]
        · unfold f_X12_line
          rw [e1, b2_s, if_pos rfl, e2, Option.bind_some, e3, Option.bind_some, if_neg (by decide), if_neg (by decide), if_neg (by decide), if_pos (by decide), t9]
      · -- 4
        obtain ⟨t2, t3, t4, e1, e2, e3, t5, t6, t9, t7, t8⟩ := m_lineP (h5) hl q
        refine ⟨.inl (iZ ((bg w (dF w (ln w l))).length : Int)), s4, iZ ((bg w (dF w (ln w l))).length : Int), t4, ?_, hF4, ?_, ⟨t7, rfl⟩, t8⟩
        · unfold f_X10_line
          rw [needLine_s h z1 z2, btT q, nd8 k1 k2, btT qk, x_rf1, lineAt_s (a := 3) (Or.inl rfl) hl, Option.bind_some, x_rf6, a1, Option.bind_some, if_neg (by decide), if_neg (by decide), if_neg (by decide), if_neg (by decide), if_pos (by decide), r4, a3.2.1.cnt]
        · unfold f_X12_line
          rw [e1, b2_s, if_pos rfl, e2, Option.bind_some, e3, Option.bind_some, if_neg (by decide), if_neg (by decide), if_neg (by decide), if_neg (by decide), if_pos (by decide), t5.2.2.2.2.2.2.2.2.2]
      · -- 5
        have hpn := c_penOf h.1.1 h5.2.1.1 (F := 441) (Or.inl rfl) n1 a3 (k := (bg w (dF w (ln w l))).length) (Nat.le_refl _)
        obtain ⟨t2, t3, t4, e1, e2, e3, t5, t6, t9, t7, t8⟩ := m_lineP (h5) hl q
        have hmw : f_X12_widths t4 493 = some (iZ (pen w (dF w (ln w l)) (bg w (dF w (ln w l))).length : Int)) := by
          unfold f_X12_widths
          rw [t5.2.2.2.2.2.2.2.2.2, m_penOf t5 (Nat.le_refl _)]
          rfl
        refine ⟨.inl (iZ (pen w (dF w (ln w l)) (bg w (dF w (ln w l))).length : Int)), s4, iZ (pen w (dF w (ln w l)) (bg w (dF w (ln w l))).length : Int), t4, ?_, hF4, ?_, ⟨t7, rfl⟩, t8⟩
        · unfold f_X10_line
          rw [needLine_s h z1 z2, btT q, nd8 k1 k2, btT qk, x_rf1, lineAt_s (a := 3) (Or.inl rfl) hl, Option.bind_some, x_rf6, a1, Option.bind_some, if_neg (by decide), if_neg (by decide), if_neg (by decide), if_neg (by decide), if_neg (by decide), if_pos (by decide), r4, a3.2.1.cnt, hpn, Option.bind_some]
        · unfold f_X12_line
          rw [e1, b2_s, if_pos rfl, e2, Option.bind_some, e3, Option.bind_some, if_neg (by decide), if_neg (by decide), if_neg (by decide), if_neg (by decide), if_neg (by decide), if_pos (by decide), hmw, Option.bind_some]
      · -- 6
        obtain ⟨s5, c1, c2⟩ := c_gCr h.1.1 h5.2.1.1 n1 a3 n4
        have hF5 : Fr FScr σ s5 := hF4.trans (bx_scr (a := 467) (Or.inl rfl) c2)
        obtain ⟨t2, t3, t4, e1, e2, e3, t5, t6, t9, t7, t8⟩ := m_lineP (h.fr hF5) hl q
        obtain ⟨u, u1, u2⟩ := m_gCr t5 n4
        refine ⟨.inl (iZ (gCr w (dF w (ln w l)) (bg w (dF w (ln w l))).length)), s5, iZ (gCr w (dF w (ln w l)) (bg w (dF w (ln w l))).length), u, ?_, hF5, ?_, ⟨(u2.1 _ _ (by unfold FMb; omega)).trans t7, rfl⟩, (t8.trans (mb_scr (Or.inl rfl) u2))⟩
        · unfold f_X10_line
          rw [needLine_s h z1 z2, btT q, nd8 k1 k2, btT qk, x_rf1, lineAt_s (a := 3) (Or.inl rfl) hl, Option.bind_some, x_rf6, a1, Option.bind_some, if_neg (by decide), if_neg (by decide), if_neg (by decide), if_neg (by decide), if_neg (by decide), if_neg (by decide), if_pos (by decide), c1, b2_s]
        · unfold f_X12_line
          rw [e1, b2_s, if_pos rfl, e2, Option.bind_some, e3, Option.bind_some, if_neg (by decide), if_neg (by decide), if_neg (by decide), if_neg (by decide), if_neg (by decide), if_neg (by decide), if_pos (by decide), u1, b2_s]
      · -- 7
        obtain ⟨s5, c1, c2⟩ := c_gFt h.1.1 h5.2.1.1 n1 a3 n4
        have hF5 : Fr FScr σ s5 := hF4.trans (bx_scr (a := 467) (Or.inl rfl) c2)
        obtain ⟨t2, t3, t4, e1, e2, e3, t5, t6, t9, t7, t8⟩ := m_lineP (h.fr hF5) hl q
        obtain ⟨u, u1, u2⟩ := m_gFt t5 n4
        refine ⟨.inl (iZ (gFt w (dF w (ln w l)) (bg w (dF w (ln w l))).length)), s5, iZ (gFt w (dF w (ln w l)) (bg w (dF w (ln w l))).length), u, ?_, hF5, ?_, ⟨(u2.1 _ _ (by unfold FMb; omega)).trans t7, rfl⟩, (t8.trans (mb_scr (Or.inl rfl) u2))⟩
        · unfold f_X10_line
          rw [needLine_s h z1 z2, btT q, nd8 k1 k2, btT qk, x_rf1, lineAt_s (a := 3) (Or.inl rfl) hl, Option.bind_some, x_rf6, a1, Option.bind_some, if_neg (by decide), if_neg (by decide), if_neg (by decide), if_neg (by decide), if_neg (by decide), if_neg (by decide), if_neg (by decide), if_pos (by decide), c1, b2_s]
        · unfold f_X12_line
          rw [e1, b2_s, if_pos rfl, e2, Option.bind_some, e3, Option.bind_some, if_neg (by decide), if_neg (by decide), if_neg (by decide), if_neg (by decide), if_neg (by decide), if_neg (by decide), if_neg (by decide), if_pos (by decide), u1, b2_s]
      · -- 8
        obtain ⟨s5, c1, c2⟩ := c_countClash h.1.1 h5.2.1.1 n1 a3 n4
        have hF5 : Fr FScr σ s5 := hF4.trans (c2.mono fun a k q => by have q1 := q.1; have q2 := q.2; unfold FScr; omega)
        obtain ⟨t2, t3, t4, e1, e2, e3, t5, t6, t9, t7, t8⟩ := m_lineP (h.fr hF5) hl q
        obtain ⟨u, u1, u2⟩ := m_clashCount t5 n4
        refine ⟨.inl (iZ (cnt (clB w (dF w (ln w l))) ((bg w (dF w (ln w l))).length - 1) : Int)), s5, iZ (cnt (clB w (dF w (ln w l))) ((bg w (dF w (ln w l))).length - 1) : Int), u, ?_, hF5, ?_, ⟨(u2.1 _ _ (by omega)).trans t7, rfl⟩, (t8.trans (u2.mono fun a k q => by unfold FScr; omega))⟩
        · unfold f_X10_line
          rw [needLine_s h z1 z2, btT q, nd8 k1 k2, btT qk, x_rf1, lineAt_s (a := 3) (Or.inl rfl) hl, Option.bind_some, x_rf6, a1, Option.bind_some, if_neg (by decide), if_neg (by decide), if_neg (by decide), if_neg (by decide), if_neg (by decide), if_neg (by decide), if_neg (by decide), if_neg (by decide), c1, b2_s]
        · unfold f_X12_line
          rw [e1, b2_s, if_pos rfl, e2, Option.bind_some, e3, Option.bind_some, if_neg (by decide), if_neg (by decide), if_neg (by decide), if_neg (by decide), if_neg (by decide), if_neg (by decide), if_neg (by decide), if_neg (by decide), if_pos (by decide), u1, b2_s]
    · obtain ⟨t2, t3, t4, e1, e2, e3, t5, t6, t9, t7, t8⟩ := m_lineP h hl q
      refine ⟨.inr 0, σ, 0, ms_si t4 493 7 1, ?_, Fr.refl _ _, ?_, i_si_same _ _ _ _, t8.trans (fr7 t4 1)⟩
      · unfold f_X10_line
        rw [needLine_s h z1 z2, btT q, nd8 k1 k2, btF qk]
      · unfold f_X12_line
        rw [e1, b2_s, if_pos rfl, e2, Option.bind_some, e3, Option.bind_some, ieqF (y := 0) (a := k) (b := 0) rfl rfl (by omega) (by omega) (by omega) (by omega) (by omega), ieqF (y := 1) (a := k) (b := 1) rfl rfl (by omega) (by omega) (by omega) (by omega) (by omega), ieqF (y := 2) (a := k) (b := 2) rfl rfl (by omega) (by omega) (by omega) (by omega) (by omega), ieqF (y := 3) (a := k) (b := 3) rfl rfl (by omega) (by omega) (by omega) (by omega) (by omega), ieqF (y := 4) (a := k) (b := 4) rfl rfl (by omega) (by omega) (by omega) (by omega) (by omega), ieqF (y := 5) (a := k) (b := 5) rfl rfl (by omega) (by omega) (by omega) (by omega) (by omega), ieqF (y := 6) (a := k) (b := 6) rfl rfl (by omega) (by omega) (by omega) (by omega) (by omega), ieqF (y := 7) (a := k) (b := 7) rfl rfl (by omega) (by omega) (by omega) (by omega) (by omega), ieqF (y := 8) (a := k) (b := 8) rfl rfl (by omega) (by omega) (by omega) (by omega) (by omega), raise_s, b2_s]
  · refine ⟨.inr 0, σ, 0, ms_si σ 493 7 1, ?_, Fr.refl _ _, ?_, i_si_same _ _ _ _, fr7 σ 1⟩
    · unfold f_X10_line
      rw [needLine_s h z1 z2, btF q]
    · unfold f_X12_line
      rw [m_noLineF h z1 z2 q, b2_s, if_neg (by decide)]
end Ln
