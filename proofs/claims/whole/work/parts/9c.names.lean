/-! the whole of what is held; letter, errorPosition, formattedByte -/
section Nm
variable {σ : MsSt} {w : Nat → Nat}
def NmR (σ : MsSt) (w : Nat → Nat) : Prop := ∃ N, NmOK N (w 0) ∧ NmC σ 3 N (w 0) ∧ NmM σ 498 N (w 0)
def BufB (σ : MsSt) (B : Nat → Nat) (e : Nat) : Prop := ms_i σ 1 1 = iZ (e : Int) ∧ ms_i σ 493 27 = iZ (e : Int) ∧ e ≤ 900 ∧ ∀ k, k < e → B k < 256 ∧ ms_i σ 2 k = iZ (sB (B k)) ∧ ms_i σ 512 k = iZ (B k : Int)
def BufR (σ : MsSt) : Prop := ∃ B e, BufB σ B e
def FmS (σ : MsSt) (L : List Nat) : Prop := ms_i σ 493 25 = iZ (L.length : Int) ∧ Aw σ 511 L
def FmtR (σ : MsSt) : Prop := ∃ L : List Nat, Rw cN σ 491 2160 L ∧ FmS σ L
/-- the draft's rows are never longer than an expansion -/
def DfR (σ : MsSt) : Prop := ∀ q, ((∃ s, s < 40 ∧ q = 140 + 2 + 3 * s) ∨ q = 271) → ∃ c : Nat, c ≤ 6 ∧ ms_i σ (q + 1) 1 = iZ (c : Int)
def ErR (σ : MsSt) : Prop := ms_i σ 0 13 = ms_i σ 493 34 ∧ DfR σ
def InvF (σ : MsSt) (w : Nat → Nat) : Prop := (∃ p n H b S, InvM σ w p n H b S) ∧ NmR σ w ∧ BufR σ ∧ FmtR σ ∧ ErR σ
section F
variable {σ' : MsSt} {P : Nat → Nat → Prop}
theorem NmR.fr (h : NmR σ w) (h40 : w 0 ≤ 40) (hF : Fr P σ σ') (h1 : ∀ a k, 5 ≤ a → a < 125 → k = 2 → ¬ P a k) (h2 : ∀ k, ¬ P 498 k) : NmR σ' w := by
  obtain ⟨N, a1, a2, a3⟩ := h
  exact ⟨N, a1, fun s hs => (hF.1 _ _ (h1 _ _ (by omega) (by omega) rfl)).trans (a2 s hs), fun s k hs hk => (hF.1 _ _ (h2 _)).trans (a3 s k hs hk)⟩
theorem NmR.step {v : Nat → Nat} (h : NmR σ w) (h0 : v 0 = w 0) : NmR σ v := by
  obtain ⟨N, a1, a2, a3⟩ := h
  exact ⟨N, by rw [h0]; exact a1, by rw [h0]; exact a2, by rw [h0]; exact a3⟩
theorem BufR.fr (h : BufR σ) (hF : Fr P σ σ') (h1 : ¬ P 1 1) (h2 : ¬ P 493 27) (h3 : ∀ k, ¬ P 2 k) (h4 : ∀ k, ¬ P 512 k) : BufR σ' := by
  obtain ⟨B, e, a1, a2, a3, a4⟩ := h
  exact ⟨B, e, (hF.1 _ _ h1).trans a1, (hF.1 _ _ h2).trans a2, a3, fun k hk => ⟨(a4 k hk).1, (hF.1 _ _ (h3 _)).trans (a4 k hk).2.1, (hF.1 _ _ (h4 _)).trans (a4 k hk).2.2⟩⟩
theorem FmtR.fr (h : FmtR σ) (hF : Fr P σ σ') (h1 : ¬ P 493 25) (h2 : ∀ k, ¬ P 491 k) (h3 : ∀ k, ¬ P 492 k) (h4 : ∀ k, ¬ P 511 k) : FmtR σ' := by
  obtain ⟨L, a1, a2, a3⟩ := h
  exact ⟨L, a1.fr hF (h2 _) h3, (hF.1 _ _ h1).trans a2, a3.fr hF h4⟩
theorem ErR.fr (h : ErR σ) (hF : Fr P σ σ') (h1 : ¬ P 0 13) (h2 : ¬ P 493 34) (h3 : ∀ a k, 140 ≤ a → a < 276 → ¬ P a k) : ErR σ' :=
  ⟨((hF.1 _ _ h1).trans h.1).trans (hF.1 _ _ h2).symm, fun q hq => by
    obtain ⟨c, c1, c2⟩ := h.2 q hq
    have hr : 142 ≤ q ∧ q ≤ 271 := by rcases hq with ⟨s, hs, rfl⟩ | rfl <;> omega
    exact ⟨c, c1, (hF.1 _ _ (h3 _ _ (by omega) (by omega))).trans c2⟩⟩
end F
/-- a frame of more than scratch, apart from what the script's own parts hold -/
theorem InvM.frY {σ' : MsSt} {p n b : Nat} {H : Nat → Nat → Nat} {S : Nat → Nat} {Q : Nat → Nat → Prop} (h : InvM σ w p n H b S) (hF : Fr (fun a k => FScr a k ∨ Q a k) σ σ') (h1 : ∀ a k, ((3 ≤ a ∧ a < 441) ∨ (a = 0 ∧ k = 12)) → ¬ Q a k) (h2 : ∀ a k, (a = 494 ∨ a = 496 ∨ a = 497 ∨ (a = 493 ∧ (k = 6 ∨ k = 8))) → ¬ Q a k) : InvM σ' w p n H b S := by
  obtain ⟨⟨a1, a2, a3⟩, a4, a5, a6, a7⟩ := h
  have h40 := a1.1.1
  have k1 : ∀ a k, ((3 ≤ a ∧ a < 139) ∨ (285 ≤ a ∧ a < 441) ∨ (a = 0 ∧ k = 12)) → ¬ (FScr a k ∨ Q a k) := fun a k g q => q.elim (fun q => by unfold FScr at q; omega) (h1 a k (by omega))
  have k2 : ∀ a k, (a = 494 ∨ a = 496 ∨ a = 497 ∨ (a = 493 ∧ (k = 6 ∨ k = 8))) → ¬ (FScr a k ∨ Q a k) := fun a k g q => q.elim (fun q => by unfold FScr at q; omega) (h2 a k g)
  exact ⟨⟨a1, a2.frG hF h40 (fun a k g1 g2 => k1 a k (by omega)), a3.fr hF (fun k => k2 _ _ (Or.inl rfl))⟩, a4.frP hF (fun a k g1 g2 => k1 a k (by omega)), a5.frP hF (k2 _ _ (by omega)) (fun k => k2 _ _ (by omega)), a6, a7.frP hF (k1 _ _ (by omega)) (k2 _ _ (by omega)) (fun a k g1 g2 => k1 a k (by omega)) (fun k => k2 _ _ (by omega))⟩
theorem InvF.scr {σ' : MsSt} (h : InvF σ w) (hF : Fr FScr σ σ') : InvF σ' w := by
  obtain ⟨⟨p, n, H, b, S, h1⟩, h2, h3, h4, h5⟩ := h
  exact ⟨⟨p, n, H, b, S, h1.fr hF⟩, h2.fr h1.1.1.1.1 hF (by unfold FScr; intros; omega) (by unfold FScr; intros; omega), h3.fr hF (by unfold FScr; omega) (by unfold FScr; omega) (by unfold FScr; intros; omega) (by unfold FScr; intros; omega), h4.fr hF (by unfold FScr; omega) (by unfold FScr; intros; omega) (by unfold FScr; intros; omega) (by unfold FScr; intros; omega), h5.fr hF (by unfold FScr; omega) (by unfold FScr; omega) (by unfold FScr; intros; omega)⟩
theorem InvF.mut {σ' : MsSt} {v : Nat → Nat} (h : InvF σ w) (hM : ∃ p n H b S, InvM σ' v p n H b S) (hS : SameSg w v) (hF : Fr FMut σ σ') : InvF σ' v := by
  obtain ⟨⟨p, n, H, b, S, h1⟩, h2, h3, h4, h5⟩ := h
  exact ⟨hM, (h2.fr h1.1.1.1.1 hF (by unfold FMut FScr; intros; omega) (by unfold FMut FScr; intros; omega)).step hS.1, h3.fr hF (by unfold FMut FScr; omega) (by unfold FMut FScr; omega) (by unfold FMut FScr; intros; omega) (by unfold FMut FScr; intros; omega), h4.fr hF (by unfold FMut FScr; omega) (by unfold FMut FScr; intros; omega) (by unfold FMut FScr; intros; omega) (by unfold FMut FScr; intros; omega), h5.fr hF (by unfold FMut FScr; omega) (by unfold FMut FScr; omega) (by unfold FMut FScr; intros; omega)⟩
theorem le_bad (x y : Int32) : f_X12_letter_17 σ 493 x y 493 = some (0, ms_si σ 493 7 1) := by
  unfold f_X12_letter_17 f_X12_letter_18
  rw [nm_s, i_si_same, if_neg (by decide)]
theorem q_letter (h : InvF σ w) (x y : Int32) : ∃ r b σ2, f_X10_letter σ 0 x y = some r ∧ f_X12_letter σ 493 x y = some (b, σ2) ∧ Ok r (ms_i σ2 493 7) b ∧ Fr FScr σ σ2 := by
  obtain ⟨z, z1, z2, rfl⟩ := iZ_of x
  obtain ⟨k, k1, k2, rfl⟩ := iZ_of y
  obtain ⟨⟨p, n, H, b, S, hI, -⟩, ⟨N, n1, n2, n3⟩, -⟩ := h
  have h40 := hI.1.1.1
  unfold f_X10_letter f_X12_letter
  rw [needSign_s hI z1 z2, m_isSign hI.2.2 h40 z1 z2, Option.bind_some]
  by_cases q : 0 ≤ z ∧ z ≤ (w 0 : Int) - 1
  · obtain ⟨s, rfl⟩ : ∃ s : Nat, z = (s : Int) := ⟨z.toNat, by omega⟩
    have hs : s < w 0 := by omega
    rw [btT q, ibT q]
    by_cases g : k < 0
    · rw [iltT rfl i0 (by omega) g (by omega), iltT rfl i0 (by omega) g (by omega)]
      exact ⟨_, _, _, rfl, le_bad _ _, i_si_same _ _ _ _, fr7 σ 1⟩
    · rw [iltF rfl i0 (by omega) (by omega) (by omega), iltF rfl i0 (by omega) (by omega) (by omega), x_rf1, told_s (a := 3) (Or.inl rfl) (by omega), Option.bind_some, c_letterAt n2 n1 hs (by omega) k2, Option.bind_some]
      unfold f_X12_letter_18
      rw [nm_s, i_si_same, if_pos rfl]
      by_cases g4 : k < 4
      · obtain ⟨j, rfl⟩ : ∃ j : Nat, k = (j : Int) := ⟨k.toNat, by omega⟩
        have hj : j < 4 := by omega
        have hl := n1.lt hs hj
        have l8 : ms_ln 498 = 160 := m_ln.2.2.2.2.1
        have e : (4 : Int32) * iZ (s : Int) + iZ (j : Int) = iZ ((4 * s + j : Nat) : Int) := by rw [i4, iZ_mul, iZ_add]; rfl
        have hr : ms_ald (ms_si σ 493 7 0) 498 (iZ ((4 * s + j : Nat) : Int)) = some (iZ (N (4 * s + j) : Int)) := by
          rw [ald_iZ (by omega) (by omega), i_si_ne (Or.inl (by omega)), n3 s j hs hj]
        rw [iltT rfl i4 (by omega) g4 (by omega), if_pos g4, e, m_rf4, hr, Option.bind_some]
        show ∃ r b σ2, some (Sum.inl (if N (4 * s + j) = 0 then iZ (-1) else iZ (N (4 * s + j) : Int))) = some r ∧ _
        by_cases g0 : N (4 * s + j) = 0
        · rw [if_pos g0, ieqT rfl i0 (by omega)]
          exact ⟨_, _, _, rfl, rfl, ⟨i_si_same _ _ _ _, rfl⟩, fr7 σ 0⟩
        · rw [if_neg g0, ieqF rfl i0 (by omega) (by omega) (by omega) (by omega) (by omega)]
          exact ⟨_, _, _, rfl, rfl, ⟨i_si_same _ _ _ _, rfl⟩, fr7 σ 0⟩
      · rw [iltF rfl i4 (by omega) (by omega) (by omega), if_neg g4, if_pos rfl]
        exact ⟨_, _, _, rfl, rfl, ⟨i_si_same _ _ _ _, rfl⟩, fr7 σ 0⟩
  · rw [btF q, ibF q]
    exact ⟨_, _, _, rfl, le_bad _ _, i_si_same _ _ _ _, fr7 σ 1⟩
theorem q_errorPosition (h : InvF σ w) : ∃ r b σ2, f_X10_errorPosition σ 0 = some r ∧ f_X12_errorPosition σ 493 = some (b, σ2) ∧ r = b ∧ ms_i σ2 493 7 = 0 ∧ Fr FScr σ σ2 := by
  refine ⟨ms_i σ 0 13, ms_i (ms_si σ 493 7 0) 493 34, ms_si σ 493 7 0, rfl, rfl, ?_, i_si_same _ _ _ _, fr7 σ 0⟩
  · rw [i_si_ne (Or.inr (by omega))]
    exact h.2.2.2.2.1
theorem q_formattedByte (h : InvF σ w) (x : Int32) : ∃ r b σ2, f_X10_formattedByte σ 0 x = some r ∧ f_X12_formattedByte σ 493 x = some (b, σ2) ∧ r = b ∧ ms_i σ2 493 7 = 0 ∧ Fr FScr σ σ2 := by
  obtain ⟨z, z1, z2, rfl⟩ := iZ_of x
  obtain ⟨-, -, -, ⟨L, a1, a2, a3⟩, -⟩ := h
  have hlen := a1.2.1
  have l1 : ms_ln 511 = 2166 := m_ln.2.2.2.2.2.2.2.2.2.2.2.2.2.2.2.1
  have e : ms_i (ms_si σ 493 7 0) 493 25 - 1 = iZ ((L.length : Int) - 1) := by rw [i_si_ne (Or.inr (by omega)), a2, i1, iZ_sub]
  unfold f_X10_formattedByte f_X12_formattedByte
  rw [x_rf11, nm_s, e, inRz z1 z2 (by omega) (by omega), Option.bind_some]
  by_cases q : 0 ≤ z ∧ z ≤ (L.length : Int) - 1
  · obtain ⟨j, rfl⟩ : ∃ j : Nat, z = (j : Int) := ⟨z.toNat, by omega⟩
    have hj : j < L.length := by omega
    rw [get_in a1 hj, Option.bind_some, ibT q, m_rf24, ald_iZ (by omega) (by omega), Option.bind_some, i_si_ne (Or.inl (by omega)), a3 j hj]
    exact ⟨_, _, _, rfl, rfl, rfl, i_si_same _ _ _ _, fr7 σ 0⟩
  · rw [get_out a1 z1 z2 (by omega), Option.bind_some, ibF q]
    exact ⟨_, _, _, rfl, rfl, rfl, i_si_same _ _ _ _, fr7 σ 0⟩
end Nm
