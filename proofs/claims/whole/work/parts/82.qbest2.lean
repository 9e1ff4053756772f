/-! bestClass -/
section Be
variable {σ : MsSt} {w : Nat → Nat}
section Uc
variable {s v : Nat}
theorem uc_Kd : Kd (uw w (247 + 7 * s + 1) v) = Kd w := funext fun p => uw_ne (by omega)
theorem uc_sgF (p f : Nat) (hf : f < 7) (h1 : f ≠ 1) : sgF (uw w (247 + 7 * s + 1) v) p f = sgF w p f := uw_ne (by omega)
theorem uc_Cl (p : Nat) : Cl (uw w (247 + 7 * s + 1) v) p = if p = s then v else Cl w p := by
  by_cases q : p = s
  · rw [if_pos q, q]
    exact uw_eq
  · rw [if_neg q]
    exact uw_ne (by omega)
theorem uc_exF : ∀ (k p : Nat), exF (uw w (247 + 7 * s + 1) v) k p = exF w k p := by
  intro k
  induction k with
  | zero => intro p; rfl
  | succ k ih =>
    intro p
    unfold exF
    rw [uc_Kd, ih, uc_sgF p 3 (by omega) (by omega), uc_sgF p 4 (by omega) (by omega)]
theorem uc_ex : ex (uw w (247 + 7 * s + 1) v) = ex w := funext fun p => uc_exF p p
theorem uc_pn (L : List Nat) : pn (uw w (247 + 7 * s + 1) v) L = pn w L := by
  unfold pn
  rw [uc_ex]
theorem uc_SgsOK {n : Nat} (h : SgsOK w n) (hk : Kd w s = 1) (v1 : 1 ≤ v) (v2 : v ≤ 60) (hm : mhB w n s v = true) : SgsOK (uw w (247 + 7 * s + 1) v) n := by
  obtain ⟨h1, h2, h3⟩ := h
  have hno : ∀ t, t < n → t ≠ s → Kd w t = 1 → Cl w t = v → sgF w t 6 = sgF w s 6 := by
    intro t t1 t2 t3 t4
    by_cases q : sgF w t 6 = sgF w s 6
    · exact q
    · exfalso
      unfold mhB at hm
      rw [Bool.not_eq_true', Bool.eq_false_iff] at hm
      exact hm ((anyF_iff _ _ _).mpr ⟨t, Nat.zero_le _, by omega, decide_eq_true ⟨t2, t3, t4, q⟩⟩)
  refine ⟨h1, fun p hp => ?_, fun p t hp ht => ?_⟩
  · obtain ⟨⟨a1, a2, a3, a4⟩, a5⟩ := h2 p hp
    have e3 := uc_sgF (w := w) (s := s) (v := v) p 3 (by omega) (by omega)
    have e4 := uc_sgF (w := w) (s := s) (v := v) p 4 (by omega) (by omega)
    have e5 := uc_sgF (w := w) (s := s) (v := v) p 5 (by omega) (by omega)
    have e6 := uc_sgF (w := w) (s := s) (v := v) p 6 (by omega) (by omega)
    have ec : Kd w p ≠ 1 → Cl (uw w (247 + 7 * s + 1) v) p = Cl w p := by
      intro g
      rw [uc_Cl, if_neg]
      intro e
      rw [e] at g
      exact g hk
    refine ⟨⟨?_, ?_, ?_, ?_⟩, ?_⟩
    · rw [uc_Kd]; exact a1
    · rw [uc_Kd, e3, e4, e5, e6]
      intro q
      rw [ec (by omega)]
      exact a2 q
    · rw [uc_Kd, e3, e4, e5, e6]
      intro q
      obtain ⟨b1, b2, b3⟩ := a3 q
      rw [uc_Cl]
      by_cases g : p = s
      · rw [if_pos g]; exact ⟨v1, v2, b3⟩
      · rw [if_neg g]; exact ⟨b1, b2, b3⟩
    · rw [uc_Kd, e3, e4, e5]
      intro q
      rw [ec (by omega)]
      exact a4 q
    · rw [uc_ex]
      exact a5
  · rw [uc_Kd, uc_Cl, uc_Cl, uc_sgF p 6 (by omega) (by omega), uc_sgF t 6 (by omega) (by omega)]
    intro q1 q2
    by_cases g : p = s
    · rw [if_pos g]
      by_cases g2 : t = s
      · intro _; rw [g, g2]
      · rw [if_neg g2, g]
        intro e
        exact (hno t ht g2 q2 e.symm).symm
    · rw [if_neg g]
      by_cases g2 : t = s
      · rw [if_pos g2, g2]
        intro e
        exact hno p hp g q1 e
      · rw [if_neg g2]
        intro e
        exact h3 p t hp ht q1 q2 e
theorem uc_WF (h : WF w) (hk : Kd w s = 1) (v1 : 1 ≤ v) (v2 : v ≤ 60) (hm : mhB w (w 0) s v = true) : WF (uw w (247 + 7 * s + 1) v) := by
  obtain ⟨h1, h2, h3, h4, h5, h6, h7⟩ := h
  have e : ∀ k, k < 247 → uw w (247 + 7 * s + 1) v k = w k := fun k hk => uw_ne (by omega)
  refine ⟨?_, by rw [e 1 (by omega)]; exact h2, by rw [e 1 (by omega)]; exact h3, by rw [e 1 (by omega), e 2 (by omega)]; exact h4, fun l hl => by rw [e (3 + l) (by omega)]; exact h5 l hl, fun l hl => by rw [e 1 (by omega), e (3 + l) (by omega)]; exact h6 l hl, fun l p hl hp => ?_⟩
  · rw [e 0 (by omega)]
    exact uc_SgsOK h1 hk v1 v2 hm
  · rw [e (3 + l) (by omega)] at hp
    have := h5 l hl
    rw [e 0 (by omega), e (7 + 60 * l + p) (by omega)]
    exact h7 l p hl hp
theorem uc_ln (h : WF w) {l : Nat} (hl : l < 4) : ln (uw w (247 + 7 * s + 1) v) l = ln w l := by
  have h5 := h.2.2.2.2.1 l hl
  have e : uw w (247 + 7 * s + 1) v (3 + l) = w (3 + l) := uw_ne (by omega)
  unfold ln
  rw [e]
  refine List.map_congr_left fun p hp => ?_
  have := List.mem_range.mp hp
  exact uw_ne (by omega)
end Uc
/-- the score of a class; the best class below c and its score -/
def scB (w : Nat → Nat) (l s c : Nat) : Int32 := iZ (sw (uw w (247 + 7 * s + 1) c) (pn w (ln w l)) : Int)
def bcB (w : Nat → Nat) (l s : Nat) : Nat → Int × Int32
  | 0 => (-1, 0)
  | k + 1 => if mhB w (w 0) s (k + 1) = true then (if (bcB w l s k).1 = -1 then (((k + 1 : Nat) : Int), scB w l s (k + 1)) else if scB w l s (k + 1) < (bcB w l s k).2 then (((k + 1 : Nat) : Int), scB w l s (k + 1)) else bcB w l s k) else bcB w l s k
theorem bcB_bd (w : Nat → Nat) (l s : Nat) : ∀ k, -1 ≤ (bcB w l s k).1 ∧ (bcB w l s k).1 ≤ k := by
  intro k
  induction k with
  | zero => exact ⟨Int.le_refl _, by show (-1 : Int) ≤ 0; omega⟩
  | succ k ih =>
    unfold bcB
    by_cases q : mhB w (w 0) s (k + 1) = true
    · rw [if_pos q]
      by_cases q2 : (bcB w l s k).1 = -1
      · rw [if_pos q2]; exact ⟨by show (-1 : Int) ≤ ((k + 1 : Nat) : Int); omega, Int.le_refl _⟩
      · rw [if_neg q2]
        by_cases q3 : scB w l s (k + 1) < (bcB w l s k).2
        · rw [if_pos q3]; exact ⟨by show (-1 : Int) ≤ ((k + 1 : Nat) : Int); omega, Int.le_refl _⟩
        · rw [if_neg q3]; omega
    · rw [if_neg q]; omega
theorem nd11 {σ : MsSt} {k : Int} (k1 : -2147483648 ≤ k) (k2 : k < 2147483648) : f_X10_needIn σ (iZ k) 1 1 = some (if 1 ≤ k ∧ k ≤ 1 then none else some 0) := needIn_s (b := 1) (c := 1) k1 k2 (by omega) (by omega) (by omega) (by omega)
theorem i60' : (60 : Int32) = iZ 60 := rfl
theorem c_best (h : InvS σ w) {l s : Nat} (hl : l < 4) (hs : s < w 0) (hk : Kd w s = 1) (hP : Rw cN σ (441 + 1) 360 (pn w (ln w l))) : f_X10_bestClass_47 ms_fuel σ 0 (iZ (s : Int)) (-1) 0 1 = some (.inl (iZ (bcB w l s 60).1), σ) := by
  have h40 := h.1.1.1
  have hm := (h.1.line hl).1
  refine lpx (S := Int32 × Int32 × Int32) (f := fun n t => f_X10_bestClass_47 n σ 0 (iZ (s : Int)) t.1 t.2.1 t.2.2) (fun i t => t.2.2 = iZ ((i + 1 : Nat) : Int) ∧ i ≤ 60 ∧ t.1 = iZ (bcB w l s i).1 ∧ t.2.1 = (bcB w l s i).2) 60 ?_ ?_ 60 0 (-1, 0, 1) ms_fuel ⟨rfl, by omega, rfl, rfl⟩ (by omega) (by show _ < 100000; omega)
  · rintro i ⟨a, b, x⟩ ⟨hx, hi, ha, hb⟩ hlt
    dsimp only at hx ha hb ⊢
    subst hx; subst ha; subst hb
    have hbd := bcB_bd w l s i
    have e1 : iZ ((i + 1 : Nat) : Int) + 1 = iZ ((i + 1 + 1 : Nat) : Int) := by rw [i1, iZ_add]; rfl
    have eb : bcB w l s (i + 1) = if mhB w (w 0) s (i + 1) = true then (if (bcB w l s i).1 = -1 then (((i + 1 : Nat) : Int), scB w l s (i + 1)) else if scB w l s (i + 1) < (bcB w l s i).2 then (((i + 1 : Nat) : Int), scB w l s (i + 1)) else bcB w l s i) else bcB w l s i := rfl
    refine ⟨(iZ (bcB w l s (i + 1)).1, (bcB w l s (i + 1)).2, iZ ((i + 1 + 1 : Nat) : Int)), ⟨rfl, hlt, rfl, rfl⟩, fun n' => ?_⟩
    show (if (60 : Int32) < iZ ((i + 1 : Nat) : Int) then _ else _) = _
    rw [iltF i60' rfl (by omega) (by omega) (by omega), x_rf1, c_mayHave h.1.1 h.2.1.1 hs hk (by omega), Option.bind_some, ib01, e1, eb]
    by_cases q : mhB w (w 0) s (i + 1) = true
    · have hu := uc_SgsOK (v := i + 1) h.1.1 hk (by omega) (by omega) q
      have hCw : CwR σ 441 (uw w (247 + 7 * s + 1) (i + 1)) (pn w (ln w l)) (iZ (s : Int)) (iZ ((i + 1 : Nat) : Int)) := by
        intro x hx
        obtain ⟨p1, p2⟩ := pn_lt h.1.1 hm x hx
        have hku := (hu.2.1 x p1).1
        obtain ⟨k1, k2, k3, k4⟩ := hku
        refine ⟨?_, ?_, ?_⟩
        · unfold f_X1_classWith
          rw [uc_Cl, ieq rfl rfl (by omega) (by omega) (by omega) (by omega)]
          by_cases g : x = s
          · rw [if_pos (show (x : Int) = (s : Int) from by omega), if_pos g]
          · rw [if_neg (show ¬ (x : Int) = (s : Int) from by omega), if_neg g, (fm_refs (F := 441) (Or.inl rfl)).1, classOf_s h.2.1.1 (Or.inl rfl) p1 h40]
            rfl
        · by_cases g : Kd (uw w (247 + 7 * s + 1) (i + 1)) x = 1
          · exact (k3 g).2.1
          · rw [uc_Kd] at g k2
            have g2 : Kd w x ≤ 1 := p2
            have := (k2 (by omega)).1
            omega
        · constructor
          · intro g
            have := (k3 g).1
            omega
          · intro g
            by_cases g2 : Kd (uw w (247 + 7 * s + 1) (i + 1)) x = 1
            · exact g2
            · rw [uc_Kd] at g2 k2
              have g3 : Kd w x ≤ 1 := p2
              exact absurd (k2 (by omega)).1 g
      have hcs : f_X1_countSwaps σ 441 (iZ (s : Int)) (iZ ((i + 1 : Nat) : Int)) = some (scB w l s (i + 1)) := c_countSwaps (F := 441) (Or.inl rfl) hP hCw
      rw [if_pos q, if_pos q, x_rf6, hcs, Option.bind_some, ieq rfl im1 (by omega) (by omega) (by omega) (by omega)]
      by_cases q2 : (bcB w l s i).1 = -1
      · rw [if_pos q2, if_pos q2]
      · rw [if_neg q2, if_neg q2]
        by_cases q3 : scB w l s (i + 1) < (bcB w l s i).2
        · rw [if_pos q3, if_pos q3]
        · rw [if_neg q3, if_neg q3]
    · rw [if_neg q, if_neg q]
  · rintro ⟨a, b, x⟩ ⟨hx, hi, ha, hb⟩ n'
    dsimp only at hx ha hb ⊢
    subst hx; subst ha; subst hb
    show (if (60 : Int32) < iZ ((60 + 1 : Nat) : Int) then _ else _) = _
    rw [iltT i60' rfl (by omega) (by omega) (by omega)]
theorem mw_uw {i v v' : Nat} {x : Int32} (h : Mw σ 494 (uw w i v)) (hx : x = iZ (v' : Int)) : Mw (ms_si σ 494 i x) 494 (uw w i v') := by
  intro k hk
  rw [ms_i_si]
  by_cases q : k = i
  · rw [if_pos ⟨rfl, q⟩, q, uw_eq, hx]
  · rw [if_neg (by omega), uw_ne q, h k hk, uw_ne q]
theorem uw_self {i : Nat} : uw w i (w i) = w := funext fun k => by
  by_cases q : k = i
  · rw [q, uw_eq]
  · rw [uw_ne q]
def FBe (s : Nat) : Nat → Nat → Prop := fun a k => (FScr a k ∧ ¬ (a = 493 ∧ k = 7)) ∨ (a = 494 ∧ k = 247 + 7 * s + 1)
theorem m_best (h : InvS σ w) {l s : Nat} (hl : l < 4) (hs : s < w 0) (hk : Kd w s = 1) : ∃ σ', f_X12_bestClass_62 ms_fuel σ 493 (iZ (l : Int)) (iZ (s : Int)) (iZ (w (247 + 7 * s + 1) : Int)) (-1) 0 1 = some (iZ (bcB w l s 60).1, σ') ∧ ms_i σ' 493 7 = ms_i σ 493 7 ∧ Fr FScr σ σ' := by
  have h40 := h.1.1.1
  have hln : ms_ln 494 = 527 := m_ln.1
  have hix : (247 + 7 * (s : Int) + 1) = ((247 + 7 * s + 1 : Nat) : Int) := by omega
  have key := lp0 (S := MsSt × Int32 × Int32 × Int32) (f := fun n t => f_X12_bestClass_62 n t.1 493 (iZ (l : Int)) (iZ (s : Int)) (iZ (w (247 + 7 * s + 1) : Int)) t.2.1 t.2.2.1 t.2.2.2) (Q := fun r => r.1 = iZ (bcB w l s 60).1 ∧ ms_i r.2 493 7 = ms_i σ 493 7 ∧ Fr FScr σ r.2)
    (fun i t => t.2.2.2 = iZ ((i + 1 : Nat) : Int) ∧ i ≤ 60 ∧ t.2.1 = iZ (bcB w l s i).1 ∧ t.2.2.1 = (bcB w l s i).2 ∧ (∃ v, Mw t.1 494 (uw w (247 + 7 * s + 1) v)) ∧ Fr (FBe s) σ t.1) 60 (s := (σ, -1, 0, 1)) ⟨rfl, by omega, rfl, rfl, ⟨w (247 + 7 * s + 1), by rw [uw_self]; exact h.2.2⟩, Fr.refl _ _⟩ (by omega) ?_ ?_
  · obtain ⟨⟨r1, r2⟩, g1, g2, g3⟩ := key
    dsimp only at g2
    subst g2
    exact ⟨r2, g1, g3⟩
  · rintro i ⟨t, a, b, x⟩ ⟨hx, hi, ha, hb, ⟨v, hv⟩, hF⟩ hlt
    dsimp only at hx ha hb hv hF ⊢
    subst hx; subst ha; subst hb
    left
    have hbd := bcB_bd w l s i
    have e1 : iZ ((i + 1 : Nat) : Int) + 1 = iZ ((i + 1 + 1 : Nat) : Int) := by rw [i1, iZ_add]; rfl
    have eb : bcB w l s (i + 1) = if mhB w (w 0) s (i + 1) = true then (if (bcB w l s i).1 = -1 then (((i + 1 : Nat) : Int), scB w l s (i + 1)) else if scB w l s (i + 1) < (bcB w l s i).2 then (((i + 1 : Nat) : Int), scB w l s (i + 1)) else bcB w l s i) else bcB w l s i := rfl
    by_cases q : mhB w (w 0) s (i + 1) = true
    · have hW := uc_WF (v := i + 1) h.1 hk (by omega) (by omega) q
      obtain ⟨u, d1, d2, d3⟩ := m_layDecomposed hW hl (mw_uw hv (x := iZ ((i + 1 : Nat) : Int)) rfl)
      rw [uc_ln h.1 hl, uc_pn] at d2
      have hsc : ms_i u 493 12 = scB w l s (i + 1) := d2.2.2
      have hFu : Fr (FBe s) σ u := (hF.trans (Fr.si _ _ (Or.inr ⟨rfl, rfl⟩))).trans (d3.mono fun a k q => Or.inl (by unfold FLay at q; unfold FScr; omega))
      have hMu : Mw u 494 (uw w (247 + 7 * s + 1) (i + 1)) := (mw_uw hv (x := iZ ((i + 1 : Nat) : Int)) rfl).fr d3 (by unfold FLay; intros; omega)
      refine ⟨(u, iZ (bcB w l s (i + 1)).1, (bcB w l s (i + 1)).2, iZ ((i + 1 + 1 : Nat) : Int)), ⟨rfl, hlt, rfl, rfl, ⟨i + 1, hMu⟩, hFu⟩, fun n' => ?_⟩
      show (if (60 : Int32) < iZ ((i + 1 : Nat) : Int) then _ else _) = _
      rw [iltF i60' rfl (by omega) (by omega) (by omega), m_mayHave h.1.1 rfl hv hs hk (by omega), Option.bind_some, ib01, if_pos q, of_1, Option.bind_some, m_rf0, ast_z (k := 247 + 7 * s + 1) hix (by rw [hln]; omega) (by rw [hln]; omega), Option.bind_some, d1, Option.bind_some, hsc, e1, eb, if_pos q, ieq rfl im1 (by omega) (by omega) (by omega) (by omega)]
      by_cases q2 : (bcB w l s i).1 = -1
      · rw [if_pos q2, if_pos q2]
      · rw [if_neg q2, if_neg q2]
        by_cases q3 : scB w l s (i + 1) < (bcB w l s i).2
        · rw [if_pos q3, if_pos q3]
        · rw [if_neg q3, if_neg q3]
    · refine ⟨(t, iZ (bcB w l s (i + 1)).1, (bcB w l s (i + 1)).2, iZ ((i + 1 + 1 : Nat) : Int)), ⟨rfl, hlt, rfl, rfl, ⟨v, hv⟩, hF⟩, fun n' => ?_⟩
      show (if (60 : Int32) < iZ ((i + 1 : Nat) : Int) then _ else _) = _
      rw [iltF i60' rfl (by omega) (by omega) (by omega), m_mayHave h.1.1 rfl hv hs hk (by omega), Option.bind_some, ib01, if_neg q, e1, eb, if_neg q]
  · rintro ⟨t, a, b, x⟩ ⟨hx, hi, ha, hb, ⟨v, hv⟩, hF⟩
    dsimp only at hx ha hb hv hF ⊢
    subst hx; subst ha; subst hb
    refine ⟨(iZ (bcB w l s 60).1, ms_si t 494 (247 + 7 * s + 1) (iZ (w (247 + 7 * s + 1) : Int))), ⟨rfl, ?_, ?_⟩, fun n' => ?_⟩
    · show ms_i (ms_si t 494 (247 + 7 * s + 1) (iZ (w (247 + 7 * s + 1) : Int))) 493 7 = _
      rw [i_si_ne (Or.inl (by omega))]
      exact hF.1 _ _ (by unfold FBe; omega)
    · refine ⟨fun a k hak => ?_, hF.2⟩
      show ms_i (ms_si t 494 (247 + 7 * s + 1) (iZ (w (247 + 7 * s + 1) : Int))) a k = _
      by_cases q : a = 494 ∧ k = 247 + 7 * s + 1
      · obtain ⟨rfl, rfl⟩ := q
        rw [i_si_same]
        exact (h.2.2 _ (by omega)).symm
      · rw [ms_i_si, if_neg q]
        exact hF.1 a k (fun g => g.elim (fun g => hak g.1) q)
    · show (if (60 : Int32) < iZ ((60 + 1 : Nat) : Int) then _ else _) = _
      rw [iltT i60' rfl (by omega) (by omega) (by omega), of_1, Option.bind_some, m_rf0, ast_z (k := 247 + 7 * s + 1) hix (by rw [hln]; omega) (by rw [hln]; omega), Option.bind_some]
theorem q_bestClass (h : InvS σ w) (x y : Int32) : ∃ r σ1 b σ2, f_X10_bestClass σ 0 x y = some (r, σ1) ∧ Fr FScr σ σ1 ∧ f_X12_bestClass σ1 493 x y = some (b, σ2) ∧ Ok r (ms_i σ2 493 7) b ∧ Fr FScr σ1 σ2 := by
  obtain ⟨z, z1, z2, rfl⟩ := iZ_of x
  obtain ⟨k, k1, k2, rfl⟩ := iZ_of y
  have h4 := h.1.2.2.1
  have h40 := h.1.1.1
  have bad : ∀ x y : Int32, f_X12_bestClass_29 σ 493 x y 493 = some (0, ms_si σ 493 7 1) := by
    intro x y
    unfold f_X12_bestClass_29 f_X12_bestClass_30
    rw [nm_s, i_si_same, if_neg (by decide)]
  by_cases q : 0 ≤ z ∧ z ≤ (w 1 : Int) - 1
  · by_cases g : 0 ≤ k ∧ k ≤ (w 0 : Int) - 1
    · obtain ⟨l, rfl⟩ : ∃ l : Nat, z = (l : Int) := ⟨z.toNat, by omega⟩
      obtain ⟨s, rfl⟩ : ∃ s : Nat, k = (s : Int) := ⟨k.toNat, by omega⟩
      have hl : l < 4 := by omega
      have hs : s < w 0 := by omega
      have hkb := (h.1.1.2.1 s hs).1.1
      have hko : ∀ σ', Mw σ' 494 w → f_X12_isMark σ' 493 (iZ (s : Int)) = some (b01 (Kd w s = 1)) := fun σ' hw => isMark_s hw (by omega) (by omega)
      by_cases g2 : Kd w s = 1
      · obtain ⟨s6, a1, ⟨a2, a3, a4, a5⟩, a6⟩ := c_deriveL h (F := 441) (Or.inl rfl) hl
        have hF6 := fm_scr (F := 441) (Or.inl rfl) a6
        have h6 := h.fr hF6
        have h7 := h6.fr (fr7 s6 0)
        obtain ⟨t, c1, c2, c3⟩ := m_best h7 hl hs g2
        rw [i_si_same] at c2
        have hcl : ms_ald (ms_si s6 493 7 0) 494 (iZ (247 + 7 * (s : Int) + 1)) = some (iZ (w (247 + 7 * s + 1) : Int)) := mw_get h7.2.2 (Or.inl rfl) (k := 247 + 7 * s + 1) (by omega) (by omega)
        refine ⟨.inl (iZ (bcB w l s 60).1), s6, iZ (bcB w l s 60).1, t, ?_, hF6, ?_, ⟨c2, rfl⟩, (fr7 s6 0).trans c3⟩
        · unfold f_X10_bestClass
          rw [needLine_s h z1 z2, btT q, needSign_s h k1 k2, btT g, x_rf1, kindOf_s h.2.1.1 (Or.inl rfl) hs h40, Option.bind_some, nd11 (by omega) (by omega), btT (by omega), lineAt_s (a := 3) (Or.inl rfl) hl, Option.bind_some, x_rf6, a1, Option.bind_some, c_best h6 hl hs g2 a2]
        · unfold f_X12_bestClass
          rw [m_isLine h6.2.2 h4 z1 z2, Option.bind_some, ibT q, m_isSign h6.2.2 h40 k1 k2, Option.bind_some, ibT g, hko _ h6.2.2, Option.bind_some, ibT g2]
          unfold f_X12_bestClass_30
          rw [nm_s, i_si_same, if_pos rfl, of_1, Option.bind_some, m_rf0, hcl, Option.bind_some, c1]
      · refine ⟨.inr 0, σ, 0, ms_si σ 493 7 1, ?_, Fr.refl _ _, ?_, i_si_same _ _ _ _, fr7 σ 1⟩
        · unfold f_X10_bestClass
          rw [needLine_s h z1 z2, btT q, needSign_s h k1 k2, btT g, x_rf1, kindOf_s h.2.1.1 (Or.inl rfl) hs h40, Option.bind_some, nd11 (by omega) (by omega), btF (by omega)]
        · unfold f_X12_bestClass
          rw [m_isLine h.2.2 h4 z1 z2, Option.bind_some, ibT q, m_isSign h.2.2 h40 k1 k2, Option.bind_some, ibT g, hko _ h.2.2, Option.bind_some, ibF g2, bad]
    · refine ⟨.inr 0, σ, 0, ms_si σ 493 7 1, ?_, Fr.refl _ _, ?_, i_si_same _ _ _ _, fr7 σ 1⟩
      · unfold f_X10_bestClass
        rw [needLine_s h z1 z2, btT q, needSign_s h k1 k2, btF g]
      · unfold f_X12_bestClass
        rw [m_isLine h.2.2 h4 z1 z2, Option.bind_some, ibT q, m_isSign h.2.2 h40 k1 k2, Option.bind_some, ibF g, bad]
  · refine ⟨.inr 0, σ, 0, ms_si σ 493 7 1, ?_, Fr.refl _ _, ?_, i_si_same _ _ _ _, fr7 σ 1⟩
    · unfold f_X10_bestClass
      rw [needLine_s h z1 z2, btF q]
    · unfold f_X12_bestClass
      rw [m_isLine h.2.2 h4 z1 z2, Option.bind_some, ibF q, bad]
end Be
