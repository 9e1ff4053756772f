/-! spellings -/
section Sp
variable {σ : MsSt} {w : Nat → Nat}
def OkJ (r : Int64 ⊕ Nat) (t : Int32) (b : Int64) : Prop := match r with
  | .inl v => t = 0 ∧ v = b
  | .inr e => t = if e = 0 then 1 else 2
def spR (w : Nat → Nat) (D : List Nat) (c : Nat) : Nat → Nat
  | 0 => 0
  | j + 1 => if 0 < j ∧ Cl w (bxm w D c (j - 1)) = Cl w (bxm w D c j) then spR w D c j + 1 else 1
def spA (w : Nat → Nat) (D : List Nat) (c : Nat) : Nat → Int64
  | 0 => 1
  | j + 1 => spA w D c j * ((iZ (j : Int) + 1).toInt64) / (iZ (spR w D c (j + 1) : Int)).toInt64
theorem spR_bd (w : Nat → Nat) (D : List Nat) (c : Nat) : ∀ j, spR w D c j ≤ j ∧ (0 < j → 0 < spR w D c j) := by
  intro j
  induction j with
  | zero => exact ⟨Nat.le_refl _, fun g => absurd g (by omega)⟩
  | succ j ih =>
    unfold spR
    split <;> omega
theorem ldiv_s {x : Int64} {r : Nat} (h1 : 0 < r) (h2 : r < 2147483648) : ms_ldiv x (iZ (r : Int)).toInt64 = some (x / (iZ (r : Int)).toInt64) := by
  unfold ms_ldiv
  rw [if_neg]
  rw [iZ_long (by omega) (by omega)]
  intro g
  have := congrArg Int64.toInt g
  rw [jZ_toInt (by omega) (by omega)] at this
  have e : (0 : Int64).toInt = 0 := rfl
  omega
theorem c_countOrders {n c F : Nat} {D : List Nat} (hF : FmAt F) (hs : SgsOK w n) (hc : ScRep σ 3 w n) (hD : ∀ y ∈ D, y < n ∧ Kd w y ≤ 1 ∧ Cl w y ≤ 60) (hR : FmR σ F w D) (hcc : c < (bg w D).length) (h65 : mks w D c ≤ 66) (hl : D.length ≤ 360) : f_X1_countOrders σ F (iZ (c : Int)) = some (spA w D c (mks w D c)) := by
  have h40 := hs.1
  have hn : ∀ y ∈ D, y < 1000 := fun y hy => by have := (hD y hy).1; omega
  obtain ⟨r0, r1, r2, r3, r4, r5, r6⟩ := fm_refs hF
  have hb := be_lt hcc
  have hfm := fm_le hcc
  have hmk : mks w D c = be w D (c + 1) - fm w D c := rfl
  unfold f_X1_countOrders
  rw [c_firstMark hR hF hcc hn, Option.bind_some]
  refine lpx (S := Int64 × Int32 × Int32 × Int32 × Int32) (f := fun n s => f_X1_countOrders_18 σ n F (iZ (c : Int)) s.1 s.2.1 s.2.2.1 s.2.2.2.1 s.2.2.2.2) (fun i s => s.2.2.2.2 = iZ ((fm w D c + i : Nat) : Int) ∧ i ≤ mks w D c ∧ s.1 = spA w D c i ∧ s.2.1 = iZ (i : Int) ∧ s.2.2.1 = iZ (spR w D c i : Int) ∧ s.2.2.2.1 = iZ (if i = 0 then 0 else (Cl w (bxm w D c (i - 1)) : Int))) (mks w D c) ?_ ?_ (mks w D c) 0 (1, 0, 0, 0, iZ (fm w D c : Int)) ms_fuel ⟨rfl, Nat.zero_le _, rfl, rfl, rfl, rfl⟩ (by omega) (by show _ < 100000; omega)
  · rintro i ⟨a, b, d, e, x⟩ ⟨hx, hi, ha, hb', hd, he⟩ hlt
    dsimp only at hx ha hb' hd he ⊢
    subst hx; subst ha; subst hb'; subst hd; subst he
    obtain ⟨m1, m2, m3, m4, m5, -⟩ := bxm_ok hs hD hcc hlt
    have hsr := spR_bd w D c i
    have hg : f_X5_get σ (F + 3) (iZ ((fm w D c + i : Nat) : Int)) = some (iZ (bxm w D c i : Int)) := by
      rw [get_in hR.1 m1]
      unfold bxm
      rw [getD_get m1]
      rfl
    have e1 : iZ ((fm w D c + i : Nat) : Int) + 1 = iZ ((fm w D c + (i + 1) : Nat) : Int) := by rw [i1, iZ_add]; rfl
    have e2 : iZ (i : Int) + 1 = iZ ((i + 1 : Nat) : Int) := by rw [i1, iZ_add]; rfl
    have e3 : iZ (spR w D c i : Int) + 1 = iZ ((spR w D c i + 1 : Nat) : Int) := by rw [i1, iZ_add]; rfl
    have er : spR w D c (i + 1) = if 0 < i ∧ Cl w (bxm w D c (i - 1)) = Cl w (bxm w D c i) then spR w D c i + 1 else 1 := rfl
    have h61 : ∀ (r : Nat) (k18 : Nat → Int32 → Int64 → Int32 → Int32 → Int32 → Int32 → Option Int64), r = spR w D c (i + 1) → f_X1_countOrders_61 σ k18 F (iZ (c : Int)) (spA w D c i) (iZ (i : Int)) (iZ ((fm w D c + i : Nat) : Int)) (iZ (Cl w (bxm w D c i) : Int)) (iZ (r : Int)) = k18 F (iZ (c : Int)) (spA w D c (i + 1)) (iZ ((i + 1 : Nat) : Int)) (iZ (spR w D c (i + 1) : Int)) (iZ (Cl w (bxm w D c i) : Int)) (iZ ((fm w D c + (i + 1) : Nat) : Int)) := by
      intro r k18 hr
      subst hr
      have hb2 := spR_bd w D c (i + 1)
      unfold f_X1_countOrders_61
      rw [iltT i0 rfl (by omega) (by omega) (by omega), ldiv_s (by omega) (by omega), Option.bind_some, e1]
      have ea : spA w D c (i + 1) = spA w D c i * ((iZ (i : Int) + 1).toInt64) / (iZ (spR w D c (i + 1) : Int)).toInt64 := rfl
      rw [ea, e2]
    refine ⟨(spA w D c (i + 1), iZ ((i + 1 : Nat) : Int), iZ (spR w D c (i + 1) : Int), iZ (Cl w (bxm w D c i) : Int), iZ ((fm w D c + (i + 1) : Nat) : Int)), ⟨rfl, hlt, rfl, rfl, rfl, rfl⟩, fun n' => ?_⟩
    show (f_X1_endOf σ F (iZ (c : Int))).bind _ = _
    rw [c_endOf hR hF hcc, Option.bind_some, iltT rfl rfl (by omega) (by omega) (by omega), r2, hg, Option.bind_some, r0, classOf_s hc (Or.inl rfl) m2 h40, Option.bind_some]
    by_cases q : 0 < i ∧ Cl w (bxm w D c (i - 1)) = Cl w (bxm w D c i)
    · rw [if_neg (show ¬ i = 0 from by omega), ieqT rfl rfl (by omega), e3]
      refine h61 _ _ ?_
      rw [er, if_pos q]
    · have hne : ((Cl w (bxm w D c i) : Nat) : Int) ≠ (if i = 0 then 0 else (Cl w (bxm w D c (i - 1)) : Int)) := by
        by_cases q0 : i = 0
        · rw [if_pos q0]; omega
        · rw [if_neg q0]
          intro g
          exact q ⟨by omega, by omega⟩
      have hbd : (-2147483648 : Int) ≤ (if i = 0 then 0 else (Cl w (bxm w D c (i - 1)) : Int)) ∧ (if i = 0 then 0 else (Cl w (bxm w D c (i - 1)) : Int)) < 2147483648 := by
        by_cases q0 : i = 0
        · rw [if_pos q0]; omega
        · rw [if_neg q0]
          obtain ⟨-, -, -, -, p5, -⟩ := bxm_ok hs hD hcc (j := i - 1) (by omega)
          omega
      rw [ieqF rfl rfl hne (by omega) (by omega) hbd.1 hbd.2]
      refine h61 1 _ ?_
      rw [er, if_neg q]
  · rintro ⟨a, b, d, e, x⟩ ⟨hx, hi, ha, hb', hd, he⟩ n'
    dsimp only at hx ha hb' hd he ⊢
    subst hx; subst ha
    show (f_X1_endOf σ F (iZ (c : Int))).bind _ = _
    rw [c_endOf hR hF hcc, Option.bind_some, iltF rfl rfl (by omega) (by omega) (by omega)]
theorem m_spell {n c : Nat} {D : List Nat} (h : LcS σ w n D) (hcc : c < (bg w D).length) (h65 : mks w D c ≤ 66) : f_X12_spellings_36 ms_fuel σ 493 (iZ (c : Int)) (iZ (mks w D c : Int)) 1 0 0 = some (spA w D c (mks w D c), σ) := by
  have hs := h.2.2.1
  have hD := h.2.2.2.1
  have hl := h.2.2.2.2.1
  have h40 := hs.1
  refine lpx (S := Int64 × Int32 × Int32) (f := fun n s => f_X12_spellings_36 n σ 493 (iZ (c : Int)) (iZ (mks w D c : Int)) s.1 s.2.1 s.2.2) (fun i s => s.2.2 = iZ (i : Int) ∧ i ≤ mks w D c ∧ s.1 = spA w D c i ∧ s.2.1 = iZ (spR w D c i : Int)) (mks w D c) ?_ ?_ (mks w D c) 0 (1, 0, 0) ms_fuel ⟨rfl, Nat.zero_le _, rfl, rfl⟩ (by omega) (by show _ < 100000; omega)
  · rintro i ⟨a, b, x⟩ ⟨hx, hi, ha, hb⟩ hlt
    dsimp only at hx ha hb ⊢
    subst hx; subst ha; subst hb
    obtain ⟨m1, m2, m3, m4, m5, -⟩ := bxm_ok hs hD hcc hlt
    have hsr := spR_bd w D c i
    have hb2 := spR_bd w D c (i + 1)
    have e2 : iZ (i : Int) + 1 = iZ ((i + 1 : Nat) : Int) := by rw [i1, iZ_add]; rfl
    have e3 : iZ (spR w D c i : Int) + 1 = iZ ((spR w D c i + 1 : Nat) : Int) := by rw [i1, iZ_add]; rfl
    have er : spR w D c (i + 1) = if 0 < i ∧ Cl w (bxm w D c (i - 1)) = Cl w (bxm w D c i) then spR w D c i + 1 else 1 := rfl
    have e4 : iZ (fm w D c : Int) + iZ (i : Int) = iZ ((fm w D c + i : Nat) : Int) := by rw [iZ_add]; rfl
    have hsg : ms_ald σ 501 (iZ ((fm w D c + i : Nat) : Int)) = some (iZ (bxm w D c i : Int)) := m_sgn h m1
    have h120 : ∀ (r : Nat) (k36 : MsSt → Nat → Int32 → Int32 → Int64 → Int32 → Int32 → Option (Int64 × MsSt)), r = spR w D c (i + 1) → f_X12_spellings_120 k36 σ 493 (iZ (c : Int)) (iZ (mks w D c : Int)) (spA w D c i) (iZ (i : Int)) (iZ (r : Int)) = k36 σ 493 (iZ (c : Int)) (iZ (mks w D c : Int)) (spA w D c (i + 1)) (iZ (spR w D c (i + 1) : Int)) (iZ ((i + 1 : Nat) : Int)) := by
      intro r k36 hr
      subst hr
      unfold f_X12_spellings_120
      have ea : spA w D c (i + 1) = spA w D c i * ((iZ (i : Int) + 1).toInt64) / (iZ (spR w D c (i + 1) : Int)).toInt64 := rfl
      rw [ldiv_s (by omega) (by omega), Option.bind_some, ea, e2]
    refine ⟨(spA w D c (i + 1), iZ (spR w D c (i + 1) : Int), iZ ((i + 1 : Nat) : Int)), ⟨rfl, hlt, rfl, rfl⟩, fun n' => ?_⟩
    show (if iZ (i : Int) < iZ (mks w D c : Int) then _ else _) = _
    rw [iltT rfl rfl (by omega) (by omega) (by omega), m_firstMark h hcc, Option.bind_some, e4, m_rf10, hsg, Option.bind_some]
    by_cases q0 : i = 0
    · rw [iltF i0 rfl (by omega) (by omega) (by omega)]
      unfold f_X12_spellings_104 f_X12_spellings_105
      rw [if_pos rfl]
      refine h120 1 _ ?_
      rw [er, if_neg (by omega)]
    · obtain ⟨p1, p2, p3, p4, p5, -⟩ := bxm_ok hs hD hcc (j := i - 1) (by omega)
      have e5 : iZ ((fm w D c + i : Nat) : Int) - 1 = iZ ((fm w D c + (i - 1) : Nat) : Int) := by
        rw [i1, iZ_sub]
        congr 1
        omega
      have hsg2 : ms_ald σ 501 (iZ ((fm w D c + (i - 1) : Nat) : Int)) = some (iZ (bxm w D c (i - 1) : Int)) := m_sgn h p1
      rw [iltT i0 rfl (by omega) (by omega) (by omega), Option.bind_some, e4, e5, hsg2, Option.bind_some, of_1, Option.bind_some, m_rf0, mw_get h.1 (Or.inl rfl) (k := 247 + 7 * bxm w D c (i - 1) + 1) (by omega) (by omega), Option.bind_some, of_1, Option.bind_some, mw_get h.1 (Or.inl rfl) (k := 247 + 7 * bxm w D c i + 1) (by omega) (by omega), Option.bind_some]
      show (if iZ (Cl w (bxm w D c (i - 1)) : Int) = iZ (Cl w (bxm w D c i) : Int) then _ else _) = _
      by_cases q : Cl w (bxm w D c (i - 1)) = Cl w (bxm w D c i)
      · rw [ieqT rfl rfl (by omega)]
        unfold f_X12_spellings_105
        rw [if_neg (by decide), e3]
        refine h120 _ _ ?_
        rw [er, if_pos ⟨by omega, q⟩]
      · rw [ieqF rfl rfl (by omega) (by omega) (by omega) (by omega) (by omega)]
        unfold f_X12_spellings_104 f_X12_spellings_105
        rw [if_pos rfl]
        refine h120 1 _ ?_
        rw [er, if_neg (fun g => q g.2)]
  · rintro ⟨a, b, x⟩ ⟨hx, hi, ha, hb⟩ n'
    dsimp only at hx ha hb ⊢
    subst hx; subst ha
    show (if iZ (mks w D c : Int) < iZ (mks w D c : Int) then _ else _) = _
    rw [iltF rfl rfl (by omega) (by omega) (by omega)]
theorem q_spellings (h : InvS σ w) (x y : Int32) : ∃ r σ1 b σ2, f_X10_spellings σ 0 x y = some (r, σ1) ∧ Fr FScr σ σ1 ∧ f_X12_spellings σ1 493 x y = some (b, σ2) ∧ OkJ r (ms_i σ2 493 7) b ∧ Fr FScr σ1 σ2 := by
  obtain ⟨z, z1, z2, rfl⟩ := iZ_of x
  obtain ⟨k, k1, k2, rfl⟩ := iZ_of y
  have h4 := h.1.2.2.1
  have i18 : (18 : Int32) = iZ 18 := rfl
  by_cases q : 0 ≤ z ∧ z ≤ (w 1 : Int) - 1
  · obtain ⟨l, rfl⟩ : ∃ l : Nat, z = (l : Int) := ⟨z.toNat, by omega⟩
    have hl : l < 4 := by omega
    obtain ⟨n1, n2, n3, n4⟩ := lnok h.1 hl
    obtain ⟨s4, a1, ⟨a2, a3, a4, a5⟩, a6⟩ := c_needCT h hl q k1 k2
    have hF4 := fm_scr (F := 441) (Or.inl rfl) a6
    have h5 := h.fr hF4
    by_cases g : 0 ≤ k ∧ k ≤ ((bg w (dF w (ln w l))).length : Int) - 1
    · obtain ⟨c, rfl⟩ : ∃ c : Nat, k = (c : Int) := ⟨k.toNat, by omega⟩
      have hc : c < (bg w (dF w (ln w l))).length := by omega
      have h66 := n4 c hc
      rw [if_pos g] at a1
      have hn1000 : ∀ y ∈ dF w (ln w l), y < 1000 := fun y hy => by have := (n1 y hy).1; have := h.1.1.1; omega
      obtain ⟨t4, e1, e2, e3, e4, e5⟩ := m_noClT h5 hl q k1 k2 g
      have hmk : f_X1_marksIn s4 441 (iZ (c : Int)) = some (iZ (mks w (dF w (ln w l)) c : Int)) := c_marksIn a3 (Or.inl rfl) hc hn1000
      have hmk2 : f_X12_marksOf t4 493 (iZ (c : Int)) = some (iZ (mks w (dF w (ln w l)) c : Int)) := m_marksOf e2 hc
      by_cases q18 : 18 < mks w (dF w (ln w l)) c
      · refine ⟨.inl (-2), s4, -2, t4, ?_, hF4, ?_, ⟨e4, rfl⟩, e5⟩
        · unfold f_X10_spellings
          rw [a1, bu_n, x_rf6, hmk, Option.bind_some, iltT i18 rfl (by omega) (by omega) (by omega)]
        · unfold f_X12_spellings
          rw [e1, b2_s, if_pos rfl, hmk2, Option.bind_some, iltT i18 rfl (by omega) (by omega) (by omega)]
      · refine ⟨.inl (spA w (dF w (ln w l)) c (mks w (dF w (ln w l)) c)), s4, spA w (dF w (ln w l)) c (mks w (dF w (ln w l)) c), t4, ?_, hF4, ?_, ⟨e4, rfl⟩, e5⟩
        · unfold f_X10_spellings
          rw [a1, bu_n, x_rf6, hmk, Option.bind_some, iltF i18 rfl (by omega) (by omega) (by omega), c_countOrders (Or.inl rfl) h.1.1 h5.2.1.1 n1 a3 hc h66 n2, Option.bind_some]
        · unfold f_X12_spellings
          rw [e1, b2_s, if_pos rfl, hmk2, Option.bind_some, iltF i18 rfl (by omega) (by omega) (by omega), m_spell e2 hc h66]
    · rw [if_neg g] at a1
      obtain ⟨t4, e1, e2, e3⟩ := m_noClF h5 z1 z2 k1 k2 (fun g' => g g'.2)
      refine ⟨.inr 0, s4, 0, t4, ?_, hF4, ?_, e2, e3⟩
      · unfold f_X10_spellings
        rw [a1, bu_s]
      · unfold f_X12_spellings
        rw [e1, b2_s, if_neg (by decide)]
  · obtain ⟨t4, e1, e2, e3⟩ := m_noClF h z1 z2 k1 k2 (fun g' => q g'.1)
    refine ⟨.inr 0, σ, 0, t4, ?_, Fr.refl _ _, ?_, e2, e3⟩
    · unfold f_X10_spellings
      rw [c_needCF h z1 z2 q, bu_s]
    · unfold f_X12_spellings
      rw [e1, b2_s, if_neg (by decide)]
end Sp
