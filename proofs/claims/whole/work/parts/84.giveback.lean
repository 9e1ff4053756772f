/-! a memory gives back -/
section Gb
variable {σ : MsSt} {w v : Nat → Nat} {a : Nat}
def SameSg (w v : Nat → Nat) : Prop := v 0 = w 0 ∧ v 1 = w 1 ∧ ∀ s, s < w 0 → Kd v s = Kd w s ∧ (∀ f, f < 7 → f ≠ 1 → f ≠ 5 → sgF v s f = sgF w s f) ∧ (Kd w s ≠ 2 → sgF v s 5 = sgF w s 5)
theorem same_exF (hs : SgsOK w (w 0)) (h : SameSg w v) : ∀ (k s : Nat), s < w 0 → exF v k s = exF w k s := by
  intro k
  induction k with
  | zero => intro s _; rfl
  | succ k ih =>
    intro s hl
    obtain ⟨h1, h2, h3⟩ := h.2.2 s hl
    unfold exF
    rw [h1, h2 3 (by omega) (by omega) (by omega), h2 4 (by omega) (by omega) (by omega)]
    by_cases q : Kd w s = 2
    · have := ((hs.2.1 s hl).1.2.2.2 q).2.1
      rw [if_pos q, if_pos q, ih _ (by omega)]
    · rw [if_neg q, if_neg q]
theorem giveSign (hs : SgsOK w (w 0)) (hv : SgsOK v (v 0)) (h : SameSg w v) {s : Nat} (hl : s < w 0) (hR : SgRep σ 3 w s) : SgRep (ms_si (ms_si σ (3 + 2 + 3 * s) 4 (iZ (Cl v s : Int))) (3 + 2 + 3 * s) 13 (iZ (spV v s : Int))) 3 v s := by
  obtain ⟨h1, h2, h3⟩ := h.2.2 s hl
  obtain ⟨g1, g2, g3, g4, g5, g6, g7, g8⟩ := hR
  have hex : ex v s = ex w s := same_exF hs h s s hl
  have hvs := hv.2.1 s (by rw [h.1]; exact hl)
  have ne : ∀ k, k ≠ 4 → k ≠ 13 → ms_i (ms_si (ms_si σ (3 + 2 + 3 * s) 4 (iZ (Cl v s : Int))) (3 + 2 + 3 * s) 13 (iZ (spV v s : Int))) (3 + 2 + 3 * s) k = ms_i σ (3 + 2 + 3 * s) k := fun k k1 k2 => by
    rw [i_si_ne (Or.inr k2), i_si_ne (Or.inr k1)]
  have f3 := h2 3 (by omega) (by omega) (by omega)
  have f4 := h2 4 (by omega) (by omega) (by omega)
  have f6 := h2 6 (by omega) (by omega) (by omega)
  refine ⟨?_, ?_, ?_, ?_, ?_, ?_, ?_, ?_⟩
  · rw [ne 1 (by omega) (by omega), g1, h1]
  · rw [ne 3 (by omega) (by omega), g2, hex]
  · rw [i_si_ne (Or.inr (by omega)), i_si_same]
  · rw [hex]
    exact (g4.si (by omega) (by omega)).si (by omega) (by omega)
  · intro q
    rw [h1] at q
    obtain ⟨e1, e2, e3⟩ := g5 q
    refine ⟨by rw [ne 6 (by omega) (by omega), e1, f3], by rw [ne 7 (by omega) (by omega), e2, f4], ?_⟩
    have z : spV v s = 0 := if_neg (by unfold spB; rw [h1]; simp [q])
    rw [i_si_same, z]
    rfl
  · intro q
    rw [h1] at q
    obtain ⟨e1, e2⟩ := g6 q
    exact ⟨by rw [ne 8 (by omega) (by omega), e1, h3 (by omega)], by rw [ne 9 (by omega) (by omega), e2, f6]⟩
  · intro q
    rw [h1] at q
    obtain ⟨e1, e2⟩ := g7 q
    exact ⟨by rw [ne 10 (by omega) (by omega), e1, h3 (by omega)], by rw [ne 5 (by omega) (by omega), e2, f6]⟩
  · intro q
    have hb := (hvs.1.2.2.2 q).2.2.2.2.2
    have z : spV v s = sgF v s 5 := by
      unfold spV spB
      by_cases g : sgF v s 5 = 1
      · rw [if_pos (by simp [q, g]), g]
      · rw [if_neg (by simp [g])]
        omega
    rw [h1] at q
    obtain ⟨e1, e2, e3⟩ := g8 q
    exact ⟨by rw [ne 11 (by omega) (by omega), e1, f3], by rw [ne 12 (by omega) (by omega), e2, f4], by rw [i_si_same, z]⟩
/-- of a script: all but the names -/
def FNow : Nat → Nat → Prop := fun a k => 3 ≤ a ∧ a < 139 ∧ ¬ (a < 125 ∧ k = 2)
theorem FNow.in {σ σ' : MsSt} (h : Fr FNow σ σ') : Fr (In 3 139) σ σ' := h.mono fun a k q => ⟨q.1, q.2.1⟩
theorem giveBack_s (hW : WF w) (hV : WF v) (hS : SameSg w v) (hN : NowRep σ 3 w) (hm : MemAt a) (hM : MemRep σ a v) : ∃ σ', f_X3_giveBack σ a 3 = some σ' ∧ NowRep σ' 3 v ∧ Fr FNow σ σ' := by
  have hlo := mem_lo hm
  have hs := hW.1
  have h40 := hs.1
  have h0 := hS.1
  obtain ⟨r0, r1, r2, r3⟩ := mem_refs hm
  have lB : ∀ s : MsSt, Fr FNow σ s → ScRep s 3 w (w 0) → LnRep s 3 v → ms_i s 3 5 = iZ (v 1 : Int) → ∃ σ', f_X3_giveBack_39 ms_fuel s a 3 0 = some σ' ∧ NowRep σ' 3 v ∧ Fr FNow σ σ' := by
    intro s hF hC hL h5
    refine lp0 (S := MsSt × Int32) (f := fun n t => f_X3_giveBack_39 n t.1 a 3 t.2) (Q := fun σ' => NowRep σ' 3 v ∧ Fr FNow σ σ')
      (fun i t => t.2 = iZ (i : Int) ∧ i ≤ w 0 ∧ Fr FNow σ t.1 ∧ LnRep t.1 3 v ∧ ms_i t.1 3 5 = iZ (v 1 : Int) ∧ ms_i t.1 3 4 = iZ (w 0 : Int) ∧ (∀ p, p < i → SgRep t.1 3 v p) ∧ ∀ p, i ≤ p → p < w 0 → SgRep t.1 3 w p) (w 0) (s := (s, 0)) ⟨rfl, Nat.zero_le _, hF, hL, h5, hC.1, fun p hp => absurd hp (by omega), fun p _ hp => hC.2 p hp⟩ (by omega) ?_ ?_
    · rintro i ⟨t, x⟩ ⟨hx, hi, hFt, hLt, h5t, h4t, hA, hB⟩ hlt
      dsimp only at hx hFt hLt h5t h4t hA hB ⊢
      subst hx
      left
      have hMt := hM.away (FNow.in hFt) (by omega)
      have G : Fr (In (3 + 2 + 3 * i) (3 + 2 + 3 * i + 1)) t (ms_si (ms_si t (3 + 2 + 3 * i) 4 (iZ (Cl v i : Int))) (3 + 2 + 3 * i) 13 (iZ (spV v i : Int))) := (Fr.si _ _ ⟨Nat.le_refl _, by omega⟩).trans (Fr.si _ _ ⟨Nat.le_refl _, by omega⟩)
      have G1 : Fr (In (3 + 2 + 3 * i) (3 + 2 + 3 * i + 1)) t (ms_si t (3 + 2 + 3 * i) 4 (iZ (Cl v i : Int))) := Fr.si _ _ ⟨Nat.le_refl _, by omega⟩
      have e1 : iZ (i : Int) + 1 = iZ ((i + 1 : Nat) : Int) := by rw [i1, iZ_add]; rfl
      have hc1 : f_X5_get t (a + 10) (iZ (i : Int)) = some (iZ (Cl v i : Int)) := up_get hMt.2.1 (by omega)
      have hc2 : f_X5_get (ms_si t (3 + 2 + 3 * i) 4 (iZ (Cl v i : Int))) (a + 12) (iZ (i : Int)) = some (iZ (spV v i : Int)) := up_get (hMt.away G1 (by omega)).2.2.1 (by omega)
      refine ⟨(ms_si (ms_si t (3 + 2 + 3 * i) 4 (iZ (Cl v i : Int))) (3 + 2 + 3 * i) 13 (iZ (spV v i : Int)), iZ ((i + 1 : Nat) : Int)), ⟨rfl, hlt, hFt.trans ((Fr.si (P := FNow) _ _ ⟨by omega, by omega, by omega⟩).trans (Fr.si _ _ ⟨by omega, by omega, by omega⟩)), hLt.away G (by omega), by rw [G.at (by omega)]; exact h5t, by rw [G.at (by omega)]; exact h4t, fun p hp => ?_, fun p hp1 hp2 => (hB p (by omega) hp2).away G (by omega)⟩, fun n' => ?_⟩
      · by_cases q : p = i
        · rw [q]
          exact giveSign hs hV.1 hS hlt (hB i (Nat.le_refl _) hlt)
        · exact (hA p (by omega)).away G (by omega)
      · show (if iZ (i : Int) < ms_i t 3 4 then _ else _) = _
        rw [iltT rfl h4t (by omega) (by omega) (by omega), told_s (a := 3) (Or.inl rfl) (by omega), Option.bind_some, r1, hc1, Option.bind_some, nm_s, told_s (a := 3) (Or.inl rfl) (by omega), Option.bind_some, r2, hc2, Option.bind_some, e1]
        by_cases q : spB v i = true
        · have ev : spV v i = 1 := if_pos q
          rw [ev, if_pos (show iZ ((1 : Nat) : Int) = 1 from rfl), nm_s]
          rfl
        · have ev : spV v i = 0 := if_neg q
          rw [ev, if_neg (show ¬ iZ ((0 : Nat) : Int) = 1 from by decide), nm_s]
          rfl
    · rintro ⟨t, x⟩ ⟨hx, hi, hFt, hLt, h5t, h4t, hA, hB⟩
      dsimp only at hx hFt hLt h5t h4t hA hB ⊢
      subst hx
      have hMt := hM.away (FNow.in hFt) (by omega)
      have G : Fr (In 3 4) t (ms_si t 3 6 (ms_i t a 3)) := Fr.si _ _ ⟨Nat.le_refl _, by omega⟩
      refine ⟨ms_si t 3 6 (ms_i t a 3), ⟨⟨⟨?_, fun p hp => (hA p (by omega)).away G (by omega)⟩, ?_, ?_, hLt.away G (by omega)⟩, hFt.trans (Fr.si (P := FNow) _ _ ⟨by omega, by omega, by omega⟩)⟩, fun n' => ?_⟩
      · rw [i_si_ne (Or.inr (by omega)), h4t, h0]
      · rw [i_si_ne (Or.inr (by omega)), h5t]
      · rw [i_si_same, hMt.2.2.2]
      · show (if iZ (w 0 : Int) < ms_i t 3 4 then _ else _) = _
        rw [iltF rfl h4t (by omega) (by omega) (by omega), nm_s]
  unfold f_X3_giveBack
  refine lp0 (S := MsSt × Int32) (f := fun n t => f_X3_giveBack_2 n t.1 a 3 t.2) (Q := fun σ' => NowRep σ' 3 v ∧ Fr FNow σ σ')
    (fun i t => t.2 = iZ (i : Int) ∧ i ≤ 4 ∧ Fr (In 126 134) σ t.1 ∧ ∀ l, l < i → Rw cN t.1 (3 + 123 + 2 * l) 60 (ln v l)) 4 (s := (σ, 0)) ⟨rfl, Nat.zero_le _, Fr.refl _ _, fun l hl => absurd hl (by omega)⟩ (by omega) ?_ ?_
  · rintro i ⟨t, x⟩ ⟨hx, hi, hFt, hLt⟩ hlt
    dsimp only at hx hFt hLt ⊢
    subst hx
    left
    have hMt := hM.away hFt (by omega)
    obtain ⟨e1, e2⟩ := mem_line hm hlt
    obtain ⟨s1, b1, b2, b3⟩ := takeOver_s (hN.2.2.2 i hlt).1 (hMt.1 i hlt) (σ := t) (by omega) (hV.line hlt).2
    refine ⟨(s1, iZ ((i + 1 : Nat) : Int)), ⟨rfl, hlt, hFt.trans (b3.widen (by omega) (by omega)), fun l hl => ?_⟩, fun n' => ?_⟩
    · by_cases q : l = i
      · rw [q]; exact b2
      · exact (hLt l (by omega)).away b3 (by omega)
    · show (if iZ (i : Int) < Int32.ofNat (ms_ln (ms_rf a 0)) then _ else _) = _
      rw [r0, r3, iltT rfl (iZ_nat 4) (by omega) (by omega) (by omega), ala_iZ (by omega) (by omega), Option.bind_some, e1, lineAt_s (a := 3) (Or.inl rfl) hlt, Option.bind_some, b1, Option.bind_some, i1, iZ_add]
      rfl
  · rintro ⟨t, x⟩ ⟨hx, hi, hFt, hLt⟩
    dsimp only at hx hFt hLt ⊢
    subst hx
    obtain ⟨u, d1, d2⟩ := lB t (hFt.mono fun a k q => ⟨by have := q.1; omega, by have := q.2; omega, by have := q.1; omega⟩) (hN.1.away hFt h40 (by omega)) hLt (by rw [hFt.at (by omega), hN.2.1, hS.2.1])
    refine ⟨u, d2, fun n' => ?_⟩
    show (if iZ ((4 : Nat) : Int) < Int32.ofNat (ms_ln (ms_rf a 0)) then _ else _) = _
    rw [r0, r3, iltF rfl (iZ_nat 4) (by omega) (by omega) (by omega), d1]
end Gb
