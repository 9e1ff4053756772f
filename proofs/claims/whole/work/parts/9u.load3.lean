/-! load -/
section Lq
variable {σ τ : MsSt} {B w N : Nat → Nat} {E : Nat}
/-- what a call of the class answers that may refuse its argument -/
def OkL (r : Int32 ⊕ Nat) (t b : Int32) : Prop := match r with
  | .inl v => t = 0 ∧ v = b
  | .inr e => e = 1 ∧ t = 1
theorem DrR.WF (h : DrR σ τ w N) (h2 : w 2 < w 1) : WF w := by
  obtain ⟨⟨a0, a1⟩, a2, a3, a4, a5, a6, a7, a8, a9, b1, b2, b3, b4, b5⟩ := h
  exact ⟨a9, by omega, b1, h2, b2, b3, b4⟩
theorem needLen_s {z M : Int} {e : Nat} (he : ms_i σ 1 1 = iZ (e : Int)) (heM : (e : Int) ≤ M) (hM : M ≤ 5000) (z1 : -2147483648 ≤ z) (z2 : z < 2147483648) : f_X10_needLength σ 0 (iZ z) (iZ M) = some (if 0 ≤ z ∧ z ≤ (e : Int) then none else some 1) := by
  unfold f_X10_needLength
  by_cases g : z < 0
  · rw [iltT rfl i0 (by omega) g (by omega), if_neg (by omega)]
  · rw [iltF rfl i0 (by omega) (by omega) (by omega)]
    by_cases g2 : M < z
    · rw [iltT rfl rfl (by omega) g2 (by omega), if_neg (by omega)]
    · rw [iltF rfl rfl (by omega) (by omega) (by omega), x_rf0]
      by_cases g3 : (e : Int) < z
      · rw [iltT he rfl (by omega) g3 (by omega), if_neg (by omega)]
      · rw [iltF he rfl (by omega) (by omega) (by omega), if_pos ⟨by omega, by omega⟩]
theorem InvM.frZ {σ' : MsSt} {p n b : Nat} {H : Nat → Nat → Nat} {S : Nat → Nat} {P : Nat → Nat → Prop} (h : InvM σ w p n H b S) (hF : Fr P σ σ') (k1 : ∀ a k, ((3 ≤ a ∧ a < 139) ∨ (285 ≤ a ∧ a < 441) ∨ (a = 0 ∧ k = 12)) → ¬ P a k) (k2 : ∀ a k, (a = 494 ∨ a = 496 ∨ a = 497 ∨ (a = 493 ∧ (k = 6 ∨ k = 8))) → ¬ P a k) : InvM σ' w p n H b S := by
  obtain ⟨⟨a1, a2, a3⟩, a4, a5, a6, a7⟩ := h
  have h40 := a1.1.1
  exact ⟨⟨a1, a2.frG hF h40 (fun a k g1 g2 => k1 a k (by omega)), a3.fr hF (fun k => k2 _ _ (Or.inl rfl))⟩, a4.frP hF (fun a k g1 g2 => k1 a k (by omega)), a5.frP hF (k2 _ _ (by omega)) (fun k => k2 _ _ (by omega)), a6, a7.frP hF (k1 _ _ (by omega)) (k2 _ _ (by omega)) (fun a k g1 g2 => k1 a k (by omega)) (fun k => k2 _ _ (by omega))⟩
theorem m_finOk (h : ms_i τ 493 32 = 0) : f_X12_finish τ 493 = some (0, ms_si (ms_si τ 493 27 0) 493 34 (-1)) := by
  have e : ms_i (ms_si τ 493 27 0) 493 32 = 0 := by rw [i_si_ne (Or.inr (by omega)), h]
  unfold f_X12_finish
  rw [nm_s, if_pos e, nm_s, i_si_ne (Or.inr (by omega)), e]
theorem m_finBad {c p : Nat} (h : ms_i τ 493 32 = iZ (c : Int)) (hp : ms_i τ 493 33 = iZ (p : Int)) (hc : iZ (c : Int) ≠ 0) : f_X12_finish τ 493 = some (iZ (c : Int), ms_si (ms_si τ 493 27 0) 493 34 (iZ (p : Int))) := by
  have e : ms_i (ms_si τ 493 27 0) 493 32 = iZ (c : Int) := by rw [i_si_ne (Or.inr (by omega)), h]
  unfold f_X12_finish
  rw [nm_s, if_neg (by rw [e]; exact hc), nm_s, i_si_ne (Or.inr (by omega)), e, i_si_ne (Or.inr (by omega)), hp]
/-- the draft's rows stay short -/
theorem ShC.df {n : Nat} (h : ShC σ n) : DfR σ := fun q hq => h.2.2 q hq
theorem DfR.fr {σ' : MsSt} {P : Nat → Nat → Prop} (h : DfR σ) (hF : Fr P σ σ') (h3 : ∀ a k, 140 ≤ a → a < 276 → ¬ P a k) : DfR σ' := fun q hq => by
  obtain ⟨c, c1, c2⟩ := h q hq
  have hr : 142 ≤ q ∧ q ≤ 271 := by rcases hq with ⟨s, hs, rfl⟩ | rfl <;> omega
  exact ⟨c, c1, (hF.1 _ _ (h3 _ _ (by omega) (by omega))).trans c2⟩
theorem q_load (h : InvF σ w) (x : Int32) : ∃ r σ1 b σ2 w', f_X10_load σ 0 x = some (r, σ1) ∧ f_X12_load σ1 493 x = some (b, σ2) ∧ OkL r (ms_i σ2 493 7) b ∧ InvF σ2 w' := by
  obtain ⟨z, z1, z2, rfl⟩ := iZ_of x
  have h0 := h
  obtain ⟨⟨p, n, H, b', S, hM⟩, hN, ⟨B, e, u1, u2, u3, u4⟩, hFt, hE1, hE2⟩ := h
  have h40 := hM.1.1.1.1
  have hneed : f_X10_needLength σ 0 (iZ z) 900 = some (if 0 ≤ z ∧ z ≤ (e : Int) then none else some 1) := needLen_s (M := 900) u1 (by omega) (by omega) z1 z2
  by_cases q : 0 ≤ z ∧ z ≤ (e : Int)
  · obtain ⟨E, rfl⟩ : ∃ E : Nat, z = (E : Int) := ⟨z.toNat, by omega⟩
    obtain ⟨s', c1, c2, ⟨n', c3⟩, c4⟩ := c_read (σ := σ) (B := B) (E := E) (by omega) (fun k hk => ⟨(u4 k (by omega)).1, (u4 k (by omega)).2.1⟩) (fun k hk => (u4 k (by omega)).2.2) hE2
    have g1 : Fr (fun a k => (a = 1 ∧ k = 1) ∨ (a = 0 ∧ k = 13)) s' (ms_si (ms_si s' 1 1 0) 0 13 (ms_i s' 1 8)) := (Fr.si _ _ (Or.inl ⟨rfl, rfl⟩)).trans (Fr.si _ _ (Or.inr ⟨rfl, rfl⟩))
    have e8 : ms_i (ms_si s' 1 1 0) 1 8 = ms_i s' 1 8 := i_si_ne (Or.inr (by omega))
    have F5 : Fr (fun a k => a = 1 ∨ (140 ≤ a ∧ a < 276) ∨ (a = 0 ∧ k = 13)) σ (ms_si (ms_si s' 1 1 0) 0 13 (ms_i s' 1 8)) := (c2.mono fun a k g => by unfold FCd FTc at g; omega).trans (g1.mono fun a k g => by omega)
    by_cases hk : okT s'
    · -- it reads well
      obtain ⟨τ0, -, -, d3, -⟩ := c4 σ (fun k hk => (u4 k (by omega)).2.2)
      obtain ⟨w0, N0, d4, d5⟩ := d3 hk
      have take : ∀ (v : Nat → Nat) (M : Nat → Nat) (t : MsSt), DrR s' t v M → ∃ σ', f_X6_takeOver (ms_si (ms_si s' 1 1 0) 0 13 (ms_i s' 1 8)) 3 140 = some σ' ∧ NowRep σ' 3 v ∧ NmC σ' 3 M (v 0) ∧ Fr (In 3 139) (ms_si (ms_si s' 1 1 0) 0 13 (ms_i s' 1 8)) σ' := by
        intro v M t hD
        have hD2 : DrR (ms_si (ms_si s' 1 1 0) 0 13 (ms_i s' 1 8)) t v M := hD.fr g1 (Fr.refl (fun _ _ => False) t) (by intros; omega) (by intros; exact id) (by intros; exact id)
        obtain ⟨a0, a2, a3, a4, a5, a6, a7, a8, a9, b1, b2, b3, b4, b5⟩ := hD2
        exact c_take a9 a0 a2 a4 a5 a6 b2
      obtain ⟨s6, t1, t2, t3, t4⟩ := take _ _ _ d4
      have F8 : Fr (fun a k => (a = 285 ∧ k = 2) ∨ (a = 0 ∧ k = 12)) s6 (ms_si (ms_si s6 285 2 0) 0 12 0) := (Fr.si _ _ (Or.inl ⟨rfl, rfl⟩)).trans (Fr.si _ _ (Or.inr ⟨rfl, rfl⟩))
      have FA : Fr (fun a k => a = 1 ∨ (140 ≤ a ∧ a < 276) ∨ (a = 0 ∧ k = 13) ∨ (3 ≤ a ∧ a < 139) ∨ (a = 285 ∧ k = 2) ∨ (a = 0 ∧ k = 12)) σ (ms_si (ms_si s6 285 2 0) 0 12 0) := ((F5.mono fun a k g => by omega).trans (t4.mono fun a k g => by have g1 := g.1; have g2 := g.2; omega)).trans (F8.mono fun a k g => by omega)
      obtain ⟨σ1, hσ1⟩ : ∃ σ1, σ1 = ms_si (ms_si s6 285 2 0) 0 12 0 := ⟨_, rfl⟩
      rw [← hσ1] at FA
      have hcls : f_X10_load σ 0 (iZ (E : Int)) = some (.inl (ms_i σ1 3 4), σ1) := by
        have hf : f_X2_forget s6 285 = some (ms_si s6 285 2 0) := rfl
        have hk' : ms_i s' 1 7 = 0 := hk
        unfold f_X10_load
        rw [hneed, btT q, x_rf2, c1, b2_s, x_rf0, nm_s, e8, nm_s, if_pos hk', x_rf1, y_rf1, t1, Option.bind_some, x_rf4, hf, Option.bind_some, nm_s, ← hσ1]
      have G0 : Fr (fun a k => a = 493 ∧ k = 7) σ1 (ms_si σ1 493 7 0) := Fr.si _ _ ⟨rfl, rfl⟩
      obtain ⟨t, v1, v2, v3, v4⟩ := c4 (ms_si σ1 493 7 0) (fun k hk => by rw [G0.1 _ _ (by omega), FA.1 _ _ (by omega)]; exact (u4 k (by omega)).2.2)
      obtain ⟨w1, N1, v5, v6⟩ := v3 hk
      obtain ⟨s6', t1', t2', t3', t4'⟩ := take _ _ _ v5
      have es : s6' = s6 := Option.some.inj (t1'.symm.trans t1)
      subst es
      have h32 : ms_i t 493 32 = 0 := v2.m0.mpr hk
      have hW := v5.WF v6
      obtain ⟨a0, a2, a3, a4, a5, a6, a7, a8, a9, b1, b2, b3, b4, b5⟩ := v5
      have FB : Fr (fun a k => a = 493 ∧ (k = 27 ∨ k = 34)) t (ms_si (ms_si t 493 27 0) 493 34 (-1)) := (Fr.si _ _ ⟨rfl, Or.inl rfl⟩).trans (Fr.si _ _ ⟨rfl, Or.inr rfl⟩)
      obtain ⟨l4, l5⟩ : ms_ln 494 = 527 ∧ ms_ln 495 = 527 := ⟨m_ln.1, m_ln.2.1⟩
      obtain ⟨t7, y1, y2, y3⟩ := m_copy (σ := ms_si (ms_si t 493 27 0) 493 34 (-1)) (c := 495) (d := 494) (A := 0) (B := 0) (by omega) (by omega) (by omega) (by omega) (Or.inl (by omega))
      have y1' : f_X12_copy (ms_si (ms_si t 493 27 0) 493 34 (-1)) 495 0 494 0 = some t7 := y1
      have M7 : Mw t7 494 w1 := fun k hk => by
        have := y2 k hk
        rw [Nat.mul_zero, Nat.zero_add] at this
        rw [this, FB.1 _ _ (by omega)]
        exact a7 k hk
      have N7 : NmM t7 499 N1 (w1 0) := fun s k hs hk => by
        rw [y3.1 _ _ (by unfold FRow; omega), FB.1 _ _ (by omega)]
        exact a8 s k hs hk
      obtain ⟨σ2, x1, x2, x3, x4, x5⟩ := m_names a9.1 N7
      have FM : Fr (fun a k => (a = 493 ∧ k ≠ 25) ∨ a = 494 ∨ a = 495 ∨ a = 498 ∨ a = 499) σ1 σ2 := ((((G0.mono fun a k g => by omega).trans (v4.mono fun a k g => by unfold FMe FMd FTm at g; omega)).trans (FB.mono fun a k g => by omega)).trans (y3.mono fun a k g => by have g1 := g.1; omega)).trans (x5.mono fun a k g => by omega)
      have e34 : ms_i σ2 493 34 = -1 := by rw [x5.1 _ _ (by omega), y3.1 _ _ (by unfold FRow; omega), i_si_same]
      have e27 : ms_i σ2 493 27 = 0 := by rw [x5.1 _ _ (by omega), y3.1 _ _ (by unfold FRow; omega), i_si_ne (Or.inr (by omega)), i_si_same]
      have e7 : ms_i σ2 493 7 = 0 := by rw [x5.1 _ _ (by omega), y3.1 _ _ (by unfold FRow; omega), FB.1 _ _ (by omega), v4.1 _ _ (by unfold FMe FMd FTm; omega), i_si_same]
      have FT : Fr (fun a k => (a = 285 ∧ k = 2) ∨ (a = 0 ∧ k = 12) ∨ (a = 493 ∧ k ≠ 25) ∨ a = 494 ∨ a = 495 ∨ a = 498 ∨ a = 499) s6' σ2 := by
        rw [← hσ1] at F8
        exact (F8.mono fun a k g => by omega).trans (FM.mono fun a k g => by omega)
      have FAll : Fr (fun a k => a = 1 ∨ (140 ≤ a ∧ a < 276) ∨ (a = 0 ∧ k = 13) ∨ (3 ≤ a ∧ a < 139) ∨ (a = 285 ∧ k = 2) ∨ (a = 0 ∧ k = 12) ∨ (a = 493 ∧ k ≠ 25) ∨ a = 494 ∨ a = 495 ∨ a = 498 ∨ a = 499) σ σ2 := (FA.mono fun a k g => by omega).trans (FM.mono fun a k g => by omega)
      refine ⟨.inl (ms_i σ1 3 4), σ1, ms_i t7 494 0, σ2, w1, hcls, ?_, ⟨e7, ?_⟩, ⟨p, 0, H, 0, S, ⟨hW, t2'.frG FT a9.1 (by intros; omega), M7.fr x5 (by intros; omega)⟩, ⟨(FAll.1 _ _ (by omega)).trans hM.2.1.1, ?_, hM.2.1.2.2.1, by omega, fun j hj => absurd hj (Nat.not_lt_zero _)⟩, ⟨x2, fun j k hj => absurd hj (Nat.not_lt_zero _)⟩, fun j hj => absurd hj (Nat.not_lt_zero _), ⟨?_, x3, by omega, fun g => absurd g (by decide)⟩⟩, ⟨N1, a3, fun s hs => ?_, x4⟩, ⟨B, 0, ?_, e27, by omega, fun k hk => absurd hk (Nat.not_lt_zero _)⟩, hFt.fr FAll (by omega) (by intros; omega) (by intros; omega) (by intros; omega), ?_, ?_⟩
      · unfold f_X12_load
        have e27' : ms_i (ms_si σ1 493 7 0) 493 27 = iZ (e : Int) := by rw [i_si_ne (Or.inr (by omega)), FA.1 _ _ (by omega), u2]
        rw [nm_s, e27', inRz z1 z2 (by omega) (by omega), Option.bind_some, ibT q, v1, m_finOk h32, b2_s, if_pos rfl, m_rf1, m_rf0, y1', Option.bind_some, x1]
      · rw [M7 0 (by omega), FM.1 3 4 (by omega) |>.symm, FT.1 3 4 (by omega)]
        exact t2'.1.1
      · rw [FM.1 _ _ (by omega), hσ1, i_si_ne (Or.inl (by omega)), i_si_same]; rfl
      · rw [FM.1 _ _ (by omega), hσ1, i_si_same]; rfl
      · have := a9.1
        exact (FT.1 _ _ (by omega)).trans (t3' s hs)
      · rw [FT.1 _ _ (by omega), t4'.at (by omega), i_si_ne (Or.inl (by omega)), i_si_same]; rfl
      · obtain ⟨st, nx, kd, o1, o2, o3⟩ := v2.good hk
        rw [e34, FT.1 _ _ (by omega), t4'.at (by omega), i_si_same, o2.2.2.2.2.2.1]
        rfl
      · exact ((c3.df.fr g1 (by intros; omega)).fr t4' (fun a k g1 g2 g3 => by have g4 := g3.1; have g5 := g3.2; omega)).fr FT (by intros; omega)
    · -- it is refused
      obtain ⟨σ1, hσ1⟩ : ∃ σ1, σ1 = ms_si (ms_si s' 1 1 0) 0 13 (ms_i s' 1 8) := ⟨_, rfl⟩
      rw [← hσ1] at F5 g1
      have hcls : f_X10_load σ 0 (iZ (E : Int)) = some (.inl ((-10) - ms_i s' 1 7), σ1) := by
        have hk' : ¬ ms_i s' 1 7 = 0 := hk
        unfold f_X10_load
        rw [hneed, btT q, x_rf2, c1, b2_s, x_rf0, nm_s, e8, nm_s, if_neg hk', ← hσ1]
      have G0 : Fr (fun a k => a = 493 ∧ k = 7) σ1 (ms_si σ1 493 7 0) := Fr.si _ _ ⟨rfl, rfl⟩
      obtain ⟨t, v1, v2, v3, v4⟩ := c4 (ms_si σ1 493 7 0) (fun k hk => by rw [G0.1 _ _ (by omega), F5.1 _ _ (by omega)]; exact (u4 k (by omega)).2.2)
      obtain ⟨c, p', o1, o2, o3, o4, ⟨o5, o6, o7⟩, o8, o9, -⟩ := v2.bad hk
      have hc0 := iZ_ne0 o1 o2
      have FB : Fr (fun a k => a = 493 ∧ (k = 27 ∨ k = 34)) t (ms_si (ms_si t 493 27 0) 493 34 (iZ (p' : Int))) := (Fr.si _ _ ⟨rfl, Or.inl rfl⟩).trans (Fr.si _ _ ⟨rfl, Or.inr rfl⟩)
      obtain ⟨σ2, hσ2⟩ : ∃ σ2, σ2 = ms_si (ms_si t 493 27 0) 493 34 (iZ (p' : Int)) := ⟨_, rfl⟩
      rw [← hσ2] at FB
      have FM : Fr (fun a k => (a = 493 ∧ ((28 ≤ k ∧ k ≤ 35) ∨ k = 27 ∨ k = 7)) ∨ a = 495 ∨ a = 499) σ1 σ2 := ((G0.mono fun a k g => by omega).trans (v4.mono fun a k g => by unfold FMe FMd FTm at g; omega)).trans (FB.mono fun a k g => by omega)
      have FAll : Fr (fun a k => a = 1 ∨ (140 ≤ a ∧ a < 276) ∨ (a = 0 ∧ k = 13) ∨ (a = 493 ∧ ((28 ≤ k ∧ k ≤ 35) ∨ k = 27 ∨ k = 7)) ∨ a = 495 ∨ a = 499) σ σ2 := (F5.mono fun a k g => by omega).trans (FM.mono fun a k g => by omega)
      have e7 : ms_i σ2 493 7 = 0 := by rw [FB.1 _ _ (by omega), v4.1 _ _ (by unfold FMe FMd FTm; omega), i_si_same]
      have e32 : ms_i σ2 493 32 = iZ (c : Int) := (FB.1 _ _ (by omega)).trans o8
      refine ⟨.inl ((-10) - ms_i s' 1 7), σ1, (-10) - iZ (c : Int), σ2, w, hcls, ?_, ⟨e7, by rw [o6]⟩, ⟨p, n, H, b', S, hM.frZ FAll (by intros; omega) (by intros; omega)⟩, hN.fr h40 FAll (by intros; omega) (by intros; omega), ⟨B, 0, ?_, ?_, by omega, fun k hk => absurd hk (Nat.not_lt_zero _)⟩, hFt.fr FAll (by omega) (by intros; omega) (by intros; omega) (by intros; omega), ?_, ?_⟩
      · unfold f_X12_load
        have e27' : ms_i (ms_si σ1 493 7 0) 493 27 = iZ (e : Int) := by rw [i_si_ne (Or.inr (by omega)), F5.1 _ _ (by omega), u2]
        rw [nm_s, e27', inRz z1 z2 (by omega) (by omega), Option.bind_some, ibT q, v1, m_finBad o8 o9 hc0, b2_s, if_neg hc0, ← hσ2, e32]
      · rw [FM.1 _ _ (by omega), hσ1, i_si_ne (Or.inl (by omega)), i_si_same]; rfl
      · rw [hσ2, i_si_ne (Or.inr (by omega)), i_si_same]; rfl
      · rw [FM.1 _ _ (by omega), hσ1, i_si_same, o7, hσ2, i_si_same]
      · exact (c3.df.fr g1 (by intros; omega)).fr FM (by intros; omega)
  · have hb : OkL (.inr 1) (ms_i (ms_si (ms_si σ 493 7 0) 493 7 1) 493 7) 0 := ⟨rfl, i_si_same _ _ _ _⟩
    have e27 : ms_i (ms_si σ 493 7 0) 493 27 = iZ (e : Int) := by rw [i_si_ne (Or.inr (by omega)), u2]
    refine ⟨.inr 1, σ, 0, ms_si (ms_si σ 493 7 0) 493 7 1, w, ?_, ?_, hb, h0.scr ((fr7 σ 0).trans (fr7 _ 1))⟩
    · unfold f_X10_load
      rw [hneed, btF q]
    · unfold f_X12_load
      rw [nm_s, e27, inRz z1 z2 (by omega) (by omega), Option.bind_some, ibF q, raise_s, b2_s]
end Lq
