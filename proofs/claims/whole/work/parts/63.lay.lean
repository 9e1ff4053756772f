/-! the system lays the boxes of a cluster -/
theorem bind_some_r {α : Type} (x : Option α) : (x.bind fun s => some s) = x := by cases x <;> rfl
theorem if_iZ {a b : Int} {p : Prop} [Decidable p] : (if p then iZ a else iZ b) = iZ (if p then a else b) := by
  by_cases h : p
  · rw [if_pos h, if_pos h]
  · rw [if_neg h, if_neg h]
theorem ilt_iZ {x y : Int32} {a b c d : Int} [Decidable (x < y)] {p q : Int32} (hx : x = iZ a) (hy : y = iZ b) (hp : p = iZ c) (hq : q = iZ d) (h1 : -2147483648 ≤ a) (h2 : a < 2147483648) (h3 : -2147483648 ≤ b) (h4 : b < 2147483648) : (if x < y then p else q) = iZ (if a < b then c else d) := by
  rw [ilt hx hy h1 h2 h3 h4, hp, hq, if_iZ]
theorem c_addBox {σ : MsSt} {w : Nat → Nat} {n a c j : Nat} {D : List Nat} (ha : BxAt a) (hs : SgsOK w n) (hD : ∀ y ∈ D, y < n ∧ Kd w y ≤ 1 ∧ Cl w y ≤ 60) (hcc : c < (bg w D).length) (hj : j < mks w D c) (h65 : mks w D c ≤ 66) (h : BxW σ a w D c j) :
    ∃ σ', f_X0_addBox σ a (iZ (bxm w D c j : Int)) (iZ (bxL w D c j)) (iZ (bxR w D c j)) (iZ (bxB w D c j)) (iZ (bxT w D c j)) = some σ' ∧ BxW σ' a w D c (j + 1) ∧ ms_i σ' a 6 = ms_i σ a 6 ∧ ms_i σ' a 7 = ms_i σ a 7 ∧ Fr (In a (a + 11)) σ σ' := by
  obtain ⟨r0, r1, r2, r3, r4, r5⟩ := bx_refs ha
  have hlo := bx_lo ha
  obtain ⟨h1, h2, h3, h4, h5, h6, h7, h8, h9⟩ := h
  have hx := bx_bd hs hD hcc hj (by omega)
  have hS := bS_bd hs hD hcc (by omega) j (by omega)
  obtain ⟨s1, a1, a2, a3⟩ := add_s h1 (by rw [upTo_length]; omega) (bxm w D c j)
  obtain ⟨s2, b1, b2, b3⟩ := add_s (h2.away a3 (by omega)) (by rw [upTo_length]; omega) (bxL w D c j)
  obtain ⟨s3, c1, c2, c3⟩ := add_s ((h3.away a3 (by omega)).away b3 (by omega)) (by rw [upTo_length]; omega) (bxR w D c j)
  obtain ⟨s4, d1, d2, d3⟩ := add_s (((h4.away a3 (by omega)).away b3 (by omega)).away c3 (by omega)) (by rw [upTo_length]; omega) (bxB w D c j)
  obtain ⟨s5, e1, e2, e3⟩ := add_s ((((h5.away a3 (by omega)).away b3 (by omega)).away c3 (by omega)).away d3 (by omega)) (by rw [upTo_length]; omega) (bxT w D c j)
  have F5 : Fr (In (a + 1) (a + 11)) σ s5 := ((((a3.widen (by omega) (by omega)).trans (b3.widen (by omega) (by omega))).trans (c3.widen (by omega) (by omega))).trans (d3.widen (by omega) (by omega))).trans (e3.widen (by omega) (by omega))
  have g : ∀ k, ms_i s5 a k = ms_i σ a k := fun k => F5.at (by omega) k
  have a1' : f_X5_add σ (a + 1) (iZ (bxm w D c j : Int)) = some s1 := a1
  have b1' : f_X5_add s1 (a + 3) (iZ (bxL w D c j)) = some s2 := b1
  have c1' : f_X5_add s2 (a + 5) (iZ (bxR w D c j)) = some s3 := c1
  have d1' : f_X5_add s3 (a + 7) (iZ (bxB w D c j)) = some s4 := d1
  have e1' : f_X5_add s4 (a + 9) (iZ (bxT w D c j)) = some s5 := e1
  have eS : bS w D c (j + 1) = (if bxL w D c j < (bS w D c j).1 then bxL w D c j else (bS w D c j).1, if (bS w D c j).2.1 < bxR w D c j then bxR w D c j else (bS w D c j).2.1, if (bS w D c j).2.2.1 < bxT w D c j then bxT w D c j else (bS w D c j).2.2.1, if bxB w D c j < (bS w D c j).2.2.2 then bxB w D c j else (bS w D c j).2.2.2) := rfl
  have v8 : ∀ (inst : Decidable (iZ (bxL w D c j) < ms_i s5 a 8)), (@ite _ (iZ (bxL w D c j) < ms_i s5 a 8) inst (iZ (bxL w D c j)) (ms_i s5 a 8)) = iZ (bS w D c (j + 1)).1 := fun inst => by
    rw [eS]
    exact ilt_iZ rfl ((g 8).trans h6) rfl ((g 8).trans h6) (by omega) (by omega) (by omega) (by omega)
  refine ⟨ms_si (ms_si (ms_si (ms_si s5 a 8 (iZ (bS w D c (j + 1)).1)) a 9 (iZ (bS w D c (j + 1)).2.1)) a 10 (iZ (bS w D c (j + 1)).2.2.1)) a 11 (iZ (bS w D c (j + 1)).2.2.2), ?_, ⟨?_, ?_, ?_, ?_, ?_, ?_, ?_, ?_, ?_⟩, ?_, ?_, ?_⟩
  · unfold f_X0_addBox
    rw [r1, r2, r3, r4, r5, a1', Option.bind_some, b1', Option.bind_some, c1', Option.bind_some, d1', Option.bind_some, e1', Option.bind_some]
    rw [v8, nm_s]
    rw [ilt_iZ (a := (bS w D c j).2.1) (b := bxR w D c j) (c := bxR w D c j) (d := (bS w D c j).2.1) (by rw [i_si_ne (Or.inr (by omega)), g, h7]) rfl rfl (by rw [i_si_ne (Or.inr (by omega)), g, h7]) (by omega) (by omega) (by omega) (by omega), nm_s]
    rw [ilt_iZ (a := (bS w D c j).2.2.1) (b := bxT w D c j) (c := bxT w D c j) (d := (bS w D c j).2.2.1) (by rw [i_si_ne (Or.inr (by omega)), i_si_ne (Or.inr (by omega)), g, h8]) rfl rfl (by rw [i_si_ne (Or.inr (by omega)), i_si_ne (Or.inr (by omega)), g, h8]) (by omega) (by omega) (by omega) (by omega), nm_s]
    rw [ilt_iZ (a := bxB w D c j) (b := (bS w D c j).2.2.2) (c := bxB w D c j) (d := (bS w D c j).2.2.2) rfl (by rw [i_si_ne (Or.inr (by omega)), i_si_ne (Or.inr (by omega)), i_si_ne (Or.inr (by omega)), g, h9]) rfl (by rw [i_si_ne (Or.inr (by omega)), i_si_ne (Or.inr (by omega)), i_si_ne (Or.inr (by omega)), g, h9]) (by omega) (by omega) (by omega) (by omega), nm_s, eS]
  · have q := (((a2.away b3 (by omega)).away c3 (by omega)).away d3 (by omega)).away e3 (by omega)
    rw [upTo_succ]
    exact (((q.si (by omega) (by omega)).si (by omega) (by omega)).si (by omega) (by omega)).si (by omega) (by omega)
  · have q := ((b2.away c3 (by omega)).away d3 (by omega)).away e3 (by omega)
    rw [upTo_succ]
    exact (((q.si (by omega) (by omega)).si (by omega) (by omega)).si (by omega) (by omega)).si (by omega) (by omega)
  · have q := (c2.away d3 (by omega)).away e3 (by omega)
    rw [upTo_succ]
    exact (((q.si (by omega) (by omega)).si (by omega) (by omega)).si (by omega) (by omega)).si (by omega) (by omega)
  · have q := d2.away e3 (by omega)
    rw [upTo_succ]
    exact (((q.si (by omega) (by omega)).si (by omega) (by omega)).si (by omega) (by omega)).si (by omega) (by omega)
  · rw [upTo_succ]
    exact (((e2.si (by omega) (by omega)).si (by omega) (by omega)).si (by omega) (by omega)).si (by omega) (by omega)
  · rw [i_si_ne (Or.inr (by omega)), i_si_ne (Or.inr (by omega)), i_si_ne (Or.inr (by omega)), i_si_same]
  · rw [i_si_ne (Or.inr (by omega)), i_si_ne (Or.inr (by omega)), i_si_same]
  · rw [i_si_ne (Or.inr (by omega)), i_si_same]
  · rw [i_si_same]
  · rw [i_si_ne (Or.inr (by omega)), i_si_ne (Or.inr (by omega)), i_si_ne (Or.inr (by omega)), i_si_ne (Or.inr (by omega)), g]
  · rw [i_si_ne (Or.inr (by omega)), i_si_ne (Or.inr (by omega)), i_si_ne (Or.inr (by omega)), i_si_ne (Or.inr (by omega)), g]
  · have q : ∀ k, In a (a + 11) a k := fun k => ⟨by omega, by omega⟩
    exact ((((F5.widen (by omega) (by omega)).trans (Fr.si _ _ (q 8))).trans (Fr.si _ _ (q 9))).trans (Fr.si _ _ (q 10))).trans (Fr.si _ _ (q 11))
theorem c_layMark {σ : MsSt} {w : Nat → Nat} {n a c j : Nat} {D : List Nat} (ha : BxAt a) (hs : SgsOK w n) (hc : ScRep σ 3 w n) (hD : ∀ y ∈ D, y < n ∧ Kd w y ≤ 1 ∧ Cl w y ≤ 60) (hcc : c < (bg w D).length) (hj : j < mks w D c) (h65 : mks w D c ≤ 66) (h : BxW σ a w D c j) (ht : ms_i σ a 6 = iZ (tb w D c j).1) (hb : ms_i σ a 7 = iZ (tb w D c j).2) :
    ∃ σ', f_X0_layMark σ a (iZ (bxm w D c j : Int)) (iZ (bsv w D (be w D c))) = some σ' ∧ BxW σ' a w D c (j + 1) ∧ ms_i σ' a 6 = iZ (tb w D c (j + 1)).1 ∧ ms_i σ' a 7 = iZ (tb w D c (j + 1)).2 ∧ Fr (In a (a + 11)) σ σ' := by
  obtain ⟨r0, r1, r2, r3, r4, r5⟩ := bx_refs ha
  have hlo := bx_lo ha
  have h40 := hs.1
  obtain ⟨q1, q2, q3, q4, q5, q6, q7, q8, q9⟩ := bxm_ok hs hD hcc hj
  have hx := bx_bd hs hD hcc hj (by omega)
  have hT := tb_bd hs hD hcc j (by omega)
  have o4 := obf_le' hs hD hcc (f := 4) (by omega) (by omega)
  have hsg := hc.2 _ q2
  have g5 := (hsg.2.2.2.2.2.2.1 q3).2
  have g10 := (hsg.2.2.2.2.2.2.1 q3).1
  have g6 := (hsg.2.2.2.2.1 (by omega)).1
  have g7 := (hsg.2.2.2.2.1 (by omega)).2.1
  have hanc := c_anchorFor ha hs hc hD hcc q9
  have eL : iZ (if sgF w (bxm w D c j) 6 = 0 then (obf w D c 5 : Int) else if sgF w (bxm w D c j) 6 = 1 then (obf w D c 6 : Int) else ((obf w D c 3 / 2 : Nat) : Int)) - iZ (sgF w (bxm w D c j) 5 : Int) = iZ (bxL w D c j) := by rw [iZ_sub]; rfl
  have e6 : (tb w D c (j + 1)).1 = if sgF w (bxm w D c j) 6 = 0 then (tb w D c j).1 + 1 + (sgF w (bxm w D c j) 4 : Int) else (tb w D c j).1 := rfl
  have e7 : (tb w D c (j + 1)).2 = if sgF w (bxm w D c j) 6 = 1 then (tb w D c j).2 - 1 - (sgF w (bxm w D c j) 4 : Int) else (tb w D c j).2 := rfl
  have h93 : ∀ s : MsSt, ms_i s (3 + 2 + 3 * bxm w D c j) 6 = iZ (sgF w (bxm w D c j) 3 : Int) → ms_i s (3 + 2 + 3 * bxm w D c j) 7 = iZ (sgF w (bxm w D c j) 4 : Int) → f_X0_layMark_93 s a (iZ (bxm w D c j : Int)) (3 + 2 + 3 * bxm w D c j) (iZ (bxL w D c j)) (iZ (bxB w D c j)) = f_X0_addBox s a (iZ (bxm w D c j : Int)) (iZ (bxL w D c j)) (iZ (bxR w D c j)) (iZ (bxB w D c j)) (iZ (bxT w D c j)) := by
    intro s g1 g2
    unfold f_X0_layMark_93
    rw [g1, g2, iZ_add, iZ_add]
    exact bind_some_r _
  unfold f_X0_layMark
  rw [r0, told_s (Or.inl rfl) (by omega), Option.bind_some, g5, hanc, Option.bind_some, g10, g7, eL, ht, hb]
  by_cases z0 : sgF w (bxm w D c j) 6 = 0
  · have eB : bxB w D c j = (tb w D c j).1 + 1 := by unfold bxB; rw [if_pos z0]
    have hW : BxW (ms_si σ a 6 (iZ ((tb w D c j).1 + 1 + (sgF w (bxm w D c j) 4 : Int)))) a w D c j := by
      obtain ⟨h1, h2, h3, h4, h5, h6, h7, h8, h9⟩ := h
      exact ⟨h1.si (by omega) (by omega), h2.si (by omega) (by omega), h3.si (by omega) (by omega), h4.si (by omega) (by omega), h5.si (by omega) (by omega), (i_si_ne (Or.inr (by omega))).trans h6, (i_si_ne (Or.inr (by omega))).trans h7, (i_si_ne (Or.inr (by omega))).trans h8, (i_si_ne (Or.inr (by omega))).trans h9⟩
    obtain ⟨σ', d1, d2, d3, d4, d5⟩ := c_addBox ha hs hD hcc hj h65 hW
    refine ⟨σ', ?_, d2, by rw [d3, i_si_same, e6, if_pos z0], by rw [d4, i_si_ne (Or.inr (by omega)), hb, e7, if_neg (by omega)], (Fr.si _ _ ⟨by omega, by omega⟩).trans d5⟩
    rw [ieqT rfl i0 (by omega), i1, iZ_add, iZ_add, nm_s, ← eB, h93 _ (by rw [i_si_ne (Or.inl (by omega))]; exact g6) (by rw [i_si_ne (Or.inl (by omega))]; exact g7), eB]
    rw [eB] at d1
    exact d1
  · rw [ieqF rfl i0 (by omega) (by omega) (by omega) (by omega) (by omega)]
    by_cases z1 : sgF w (bxm w D c j) 6 = 1
    · have eB : bxB w D c j = (tb w D c j).2 - 1 - (sgF w (bxm w D c j) 4 : Int) := by unfold bxB; rw [if_neg z0, if_pos z1]
      have hW : BxW (ms_si σ a 7 (iZ (bxB w D c j))) a w D c j := by
        obtain ⟨h1, h2, h3, h4, h5, h6, h7, h8, h9⟩ := h
        exact ⟨h1.si (by omega) (by omega), h2.si (by omega) (by omega), h3.si (by omega) (by omega), h4.si (by omega) (by omega), h5.si (by omega) (by omega), (i_si_ne (Or.inr (by omega))).trans h6, (i_si_ne (Or.inr (by omega))).trans h7, (i_si_ne (Or.inr (by omega))).trans h8, (i_si_ne (Or.inr (by omega))).trans h9⟩
      obtain ⟨σ', d1, d2, d3, d4, d5⟩ := c_addBox ha hs hD hcc hj h65 hW
      refine ⟨σ', ?_, d2, by rw [d3, i_si_ne (Or.inr (by omega)), ht, e6, if_neg z0], by rw [d4, i_si_same, e7, if_pos z1, eB], (Fr.si _ _ ⟨by omega, by omega⟩).trans d5⟩
      rw [ieqT rfl i1 (by omega), i1, iZ_sub, iZ_sub, nm_s, ← eB, h93 _ (by rw [i_si_ne (Or.inl (by omega))]; exact g6) (by rw [i_si_ne (Or.inl (by omega))]; exact g7)]
      exact d1
    · have eB : bxB w D c j = ((obf w D c 4 / 2 : Nat) : Int) := by unfold bxB; rw [if_neg z0, if_neg z1]
      obtain ⟨σ', d1, d2, d3, d4, d5⟩ := c_addBox ha hs hD hcc hj h65 h
      refine ⟨σ', ?_, d2, by rw [d3, ht, e6, if_neg z0], by rw [d4, hb, e7, if_neg z1], d5⟩
      rw [ieqF rfl i1 (by omega) (by omega) (by omega) (by omega) (by omega), c_heightOf ha hs hc hD hcc, Option.bind_some, idiv2 (by omega), Option.bind_some, ← eB, h93 _ g6 g7]
      exact d1
/-- what the boxes hold when they are laid -/
def BxR (σ : MsSt) (a : Nat) (w : Nat → Nat) (D : List Nat) (c : Nat) : Prop := BxW σ a w D c (mks w D c)
theorem c_lay {σ : MsSt} {w : Nat → Nat} {n a c F : Nat} {D : List Nat} (ha : BxAt a) (hF : FmAt F) (hs : SgsOK w n) (hc : ScRep σ 3 w n) (hD : ∀ y ∈ D, y < n ∧ Kd w y ≤ 1 ∧ Cl w y ≤ 60) (hR : FmR σ F w D) (hcc : c < (bg w D).length) (h65 : mks w D c ≤ 66) :
    ∃ σ', f_X0_lay σ a F (iZ (c : Int)) = some σ' ∧ BxR σ' a w D c ∧ Fr (In a (a + 11)) σ σ' := by
  obtain ⟨r0, r1, r2, r3, r4, r5⟩ := bx_refs ha
  obtain ⟨w1, w2, w3, w4, w5⟩ := bx_rws ha
  have hlo := bx_lo ha
  have hFl := fm_lo hF
  have h40 := hs.1
  have hn1 : ∀ y ∈ D, y < 1000 := fun y hy => by have := (hD y hy).1; omega
  have hfm := fm_le hcc
  have hbe := be_lt hcc
  have hDl := hR.1.2.1
  obtain ⟨s1, a1, a2, a3⟩ := clear_s (e := cN) (σ := σ) w1
  obtain ⟨s2, b1, b2, b3⟩ := clear_s (e := cI) (σ := s1) w2
  obtain ⟨s3, c1, c2, c3⟩ := clear_s (e := cI) (σ := s2) w3
  obtain ⟨s4, d1, d2, d3⟩ := clear_s (e := cI) (σ := s3) w4
  obtain ⟨s5, e1, e2, e3⟩ := clear_s (e := cI) (σ := s4) w5
  have F5 : Fr (In a (a + 11)) σ s5 := ((((a3.widen (by omega) (by omega)).trans (b3.widen (by omega) (by omega))).trans (c3.widen (by omega) (by omega))).trans (d3.widen (by omega) (by omega))).trans (e3.widen (by omega) (by omega))
  have hbeg : ∃ s', f_X0_begin σ a (iZ (obf w D c 3 : Int)) (iZ (obf w D c 4 : Int)) = some s' ∧ BxW s' a w D c 0 ∧ ms_i s' a 6 = iZ (tb w D c 0).1 ∧ ms_i s' a 7 = iZ (tb w D c 0).2 ∧ Fr (In a (a + 11)) σ s' := by
    have q : ∀ k, In a (a + 11) a k := fun k => ⟨by omega, by omega⟩
    have k1 := (((a2.away b3 (by omega)).away c3 (by omega)).away d3 (by omega)).away e3 (by omega)
    have k2 := ((b2.away c3 (by omega)).away d3 (by omega)).away e3 (by omega)
    have k3 := (c2.away d3 (by omega)).away e3 (by omega)
    have k4 := d2.away e3 (by omega)
    refine ⟨ms_si (ms_si (ms_si (ms_si (ms_si (ms_si s5 a 6 (iZ (obf w D c 4 : Int))) a 7 0) a 8 0) a 9 (iZ (obf w D c 3 : Int))) a 10 (iZ (obf w D c 4 : Int))) a 11 0, ?_, ⟨?_, ?_, ?_, ?_, ?_, ?_, ?_, ?_, ?_⟩, ?_, ?_, ?_⟩
    · unfold f_X0_begin
      rw [r1, r2, r3, r4, r5, a1, Option.bind_some, b1, Option.bind_some, c1, Option.bind_some, d1, Option.bind_some, e1, Option.bind_some]
      simp only [nm_s]
    · exact (((((k1.si (by omega) (by omega)).si (by omega) (by omega)).si (by omega) (by omega)).si (by omega) (by omega)).si (by omega) (by omega)).si (by omega) (by omega)
    · exact (((((k2.si (by omega) (by omega)).si (by omega) (by omega)).si (by omega) (by omega)).si (by omega) (by omega)).si (by omega) (by omega)).si (by omega) (by omega)
    · exact (((((k3.si (by omega) (by omega)).si (by omega) (by omega)).si (by omega) (by omega)).si (by omega) (by omega)).si (by omega) (by omega)).si (by omega) (by omega)
    · exact (((((k4.si (by omega) (by omega)).si (by omega) (by omega)).si (by omega) (by omega)).si (by omega) (by omega)).si (by omega) (by omega)).si (by omega) (by omega)
    · exact (((((e2.si (by omega) (by omega)).si (by omega) (by omega)).si (by omega) (by omega)).si (by omega) (by omega)).si (by omega) (by omega)).si (by omega) (by omega)
    · rw [i_si_ne (Or.inr (by omega)), i_si_ne (Or.inr (by omega)), i_si_ne (Or.inr (by omega)), i_si_same]; rfl
    · rw [i_si_ne (Or.inr (by omega)), i_si_ne (Or.inr (by omega)), i_si_same]; rfl
    · rw [i_si_ne (Or.inr (by omega)), i_si_same]; rfl
    · rw [i_si_same]; rfl
    · rw [i_si_ne (Or.inr (by omega)), i_si_ne (Or.inr (by omega)), i_si_ne (Or.inr (by omega)), i_si_ne (Or.inr (by omega)), i_si_ne (Or.inr (by omega)), i_si_same]; rfl
    · rw [i_si_ne (Or.inr (by omega)), i_si_ne (Or.inr (by omega)), i_si_ne (Or.inr (by omega)), i_si_ne (Or.inr (by omega)), i_si_same]; rfl
    · exact (((((F5.trans (Fr.si _ _ (q 6))).trans (Fr.si _ _ (q 7))).trans (Fr.si _ _ (q 8))).trans (Fr.si _ _ (q 9))).trans (Fr.si _ _ (q 10))).trans (Fr.si _ _ (q 11))
  obtain ⟨s0, g1, g2, g3, g4, g5⟩ := hbeg
  have key := lp0 (S := MsSt × Int32) (f := fun n' s => f_X0_lay_33 n' s.1 a F (iZ (c : Int)) (iZ (bsv w D (be w D c))) s.2) (Q := fun σ' => BxR σ' a w D c ∧ Fr (In a (a + 11)) σ σ')
    (fun j s => s.2 = iZ ((fm w D c : Int) + (j : Int)) ∧ j ≤ mks w D c ∧ BxW s.1 a w D c j ∧ ms_i s.1 a 6 = iZ (tb w D c j).1 ∧ ms_i s.1 a 7 = iZ (tb w D c j).2 ∧ Fr (In a (a + 11)) σ s.1) (mks w D c) (s := (s0, iZ (fm w D c : Int))) ⟨by simp, Nat.zero_le _, g2, g3, g4, g5⟩ (by omega) ?_ ?_
  · obtain ⟨x, h1, h2⟩ := key
    refine ⟨x, ?_, h2⟩
    unfold f_X0_lay
    rw [(fm_refs hF).2.2.2.2.2.1, c_base hR hcc, Option.bind_some, r0, c_widthOf hs hc hD hcc, Option.bind_some, c_heightOf ha hs hc hD hcc, Option.bind_some, g1, Option.bind_some, c_firstMark (hR.away g5 (by omega)) hF hcc hn1, Option.bind_some]
    exact h1
  · rintro j ⟨s, x⟩ ⟨hx, hj, hW, ht, hb, hFi⟩ hlt
    dsimp only at hx hW ht hb hFi ⊢
    subst hx
    left
    have hci := hc.away hFi h40 (by omega)
    have hRi := hR.away hFi (by omega)
    have hmk : fm w D c + j < D.length := by unfold mks at hlt; omega
    obtain ⟨s', d1, d2, d3, d4, d5⟩ := c_layMark ha hs hci hD hcc hlt h65 hW ht hb
    refine ⟨(s', iZ ((fm w D c : Int) + (j : Int) + 1)), ⟨by congr 1, hlt, d2, d3, d4, hFi.trans d5⟩, fun n' => ?_⟩
    show (f_X1_endOf s F (iZ (c : Int))).bind _ = _
    have hg := c_sgn hRi hmk
    rw [show (((fm w D c + j : Nat)) : Int) = (fm w D c : Int) + (j : Int) from by omega] at hg
    have hg' : f_X5_get s (F + 3) (iZ ((fm w D c : Int) + (j : Int))) = some (iZ (bxm w D c j : Int)) := hg
    rw [c_endOf hRi hF hcc, Option.bind_some, iltT rfl rfl (by omega) (by unfold mks at hlt; omega) (by omega), (fm_refs hF).2.2.1, hg', Option.bind_some, d1, Option.bind_some, i1, iZ_add]
  · rintro ⟨s, x⟩ ⟨hx, hj, hW, ht, hb, hFi⟩
    dsimp only at hx hW ht hb hFi ⊢
    subst hx
    have hRi := hR.away hFi (by omega)
    have hS := bS_bd hs hD hcc (by omega) (mks w D c) (Nat.le_refl _)
    have hT := tb_bd hs hD hcc (mks w D c) (Nat.le_refl _)
    obtain ⟨h1, h2, h3, h4, h5, h6, h7, h8, h9⟩ := hW
    have q : ∀ k, In a (a + 11) a k := fun k => ⟨by omega, by omega⟩
    refine ⟨ms_si (ms_si s a 10 (iZ (bS w D c (mks w D c)).2.2.1)) a 11 (iZ (bS w D c (mks w D c)).2.2.2), ⟨⟨(h1.si (by omega) (by omega)).si (by omega) (by omega), (h2.si (by omega) (by omega)).si (by omega) (by omega), (h3.si (by omega) (by omega)).si (by omega) (by omega), (h4.si (by omega) (by omega)).si (by omega) (by omega), (h5.si (by omega) (by omega)).si (by omega) (by omega), by rw [i_si_ne (Or.inr (by omega)), i_si_ne (Or.inr (by omega)), h6], by rw [i_si_ne (Or.inr (by omega)), i_si_ne (Or.inr (by omega)), h7], by rw [i_si_ne (Or.inr (by omega)), i_si_same], by rw [i_si_same]⟩, (hFi.trans (Fr.si _ _ (q 10))).trans (Fr.si _ _ (q 11))⟩, fun n' => ?_⟩
    show (f_X1_endOf s F (iZ (c : Int))).bind _ = _
    rw [c_endOf hRi hF hcc, Option.bind_some, iltF rfl rfl (by omega) (by unfold mks; omega) (by unfold mks; omega)]
    rw [ilt_iZ (a := (bS w D c (mks w D c)).2.2.1) (b := (tb w D c (mks w D c)).1) (c := (tb w D c (mks w D c)).1) (d := (bS w D c (mks w D c)).2.2.1) h8 ht ht h8 (by omega) (by omega) (by omega) (by omega), nm_s, if_neg (by omega)]
    rw [ilt_iZ (a := (tb w D c (mks w D c)).2) (b := (bS w D c (mks w D c)).2.2.2) (c := (tb w D c (mks w D c)).2) (d := (bS w D c (mks w D c)).2.2.2) (by rw [i_si_ne (Or.inr (by omega)), hb]) (by rw [i_si_ne (Or.inr (by omega)), h9]) (by rw [i_si_ne (Or.inr (by omega)), hb]) (by rw [i_si_ne (Or.inr (by omega)), h9]) (by omega) (by omega) (by omega) (by omega), nm_s, if_neg (by omega)]
