/-! query: the line at hand and its properties -/
section Q1
variable {σ τ : MsSt} {w : Nat → Nat}
theorem z_rf0 : ms_rf 276 0 = 1 := by decide +kernel
theorem z_rf1 : ms_rf 276 1 = 3 := by decide +kernel
theorem z_rf2 : ms_rf 276 2 = 277 := by decide +kernel
theorem z_rf3 : ms_rf 276 3 = 279 := by decide +kernel
theorem z_rf4 : ms_rf 276 4 = 281 := by decide +kernel
theorem z_rf5 : ms_rf 276 5 = 283 := by decide +kernel
theorem z_row : RowAt 277 60 ∧ RowAt 279 60 ∧ RowAt 281 60 ∧ RowAt 283 60 := by
  refine ⟨⟨by decide +kernel, by decide +kernel, by omega⟩, ⟨by decide +kernel, by decide +kernel, by omega⟩, ⟨by decide +kernel, by decide +kernel, by omega⟩, ⟨by decide +kernel, by decide +kernel, by omega⟩⟩
def qL (w : Nat → Nat) : List Nat := ln w (w 2)
def qC (w : Nat → Nat) (p : Nat) : Nat := cAt w (qL w) (p + 1) - 1
/-- a property of a place of the line at hand -/
def pv (w : Nat → Nat) (p : Nat) (i : Int) : Nat := if i = 0 then p else if i = 1 then w (7 + 60 * w 2 + p) else if i = 2 then Kd w (w (7 + 60 * w 2 + p)) else if i = 3 then Cl w (w (7 + 60 * w 2 + p)) else if i = 4 then (ex w (w (7 + 60 * w 2 + p))).length else qC w p
/-- what the class's reader holds -/
def QE (σ : MsSt) (w : Nat → Nat) : Prop := InvS σ w ∧ Rw cN σ 277 60 (qL w) ∧ Rw cN σ 279 60 (upTo (qC w) (qL w).length)
theorem qL_ok (h : WF w) : w 2 < 4 ∧ (qL w).length ≤ 60 ∧ ∀ x ∈ qL w, x < w 0 := by
  have h2 : w 2 < 4 := by have := h.2.2.1; have := h.2.2.2.1; omega
  obtain ⟨a, b⟩ := h.line h2
  exact ⟨h2, b, a⟩
theorem c_clAt {L : List Nat} {r N p : Nat} (h : InvS σ w) (hR : Rw cN σ r N L) (hL : ∀ x ∈ L, x < w 0) (h60 : L.length ≤ 60) (hp : p < L.length) : f_X6_clusterAt σ 3 r (iZ (p : Int)) = some (iZ ((cAt w L (p + 1) : Int) - 1)) := by
  have h40 := h.1.1.1
  unfold f_X6_clusterAt
  refine lpx (S := Int32 × Int32) (f := fun n s => f_X6_clusterAt_5 σ n 3 r (iZ (p : Int)) s.1 s.2) (fun i s => s.2 = iZ (i : Int) ∧ i ≤ p + 1 ∧ s.1 = iZ (cAt w L i : Int)) (p + 1) ?_ ?_ (p + 1) 0 (0, 0) ms_fuel ⟨rfl, Nat.zero_le _, rfl⟩ (by omega) (by show _ < 100000; omega)
  · rintro i ⟨a, x⟩ ⟨hx, hi, ha⟩ hlt
    dsimp only at hx ha ⊢
    subst hx; subst ha
    refine ⟨(iZ (cAt w L (i + 1) : Int), iZ ((i + 1 : Nat) : Int)), ⟨rfl, hlt, rfl⟩, fun n' => ?_⟩
    have hil : i < L.length := by omega
    have hc := cAt_bd w L i
    have e1 : iZ (i : Int) + 1 = iZ ((i + 1 : Nat) : Int) := by rw [i1, iZ_add]; rfl
    have e2 : iZ (cAt w L i : Int) + 1 = iZ ((cAt w L i + 1 : Nat) : Int) := by rw [i1, iZ_add]; rfl
    have ec : cAt w L (i + 1) = cAt w L i + if i = 0 ∨ Kd w (L.getD i 0) ≠ 1 then 1 else 0 := rfl
    have eg : L.getD i 0 = L[i] := by simp [List.getD, hil]
    have hx0 := hL _ (List.getElem_mem hil)
    have hk9 := (h.1.1.2.1 _ hx0).1.1
    show (if iZ (p : Int) < iZ (i : Int) then _ else _) = _
    rw [iltF rfl rfl (by omega) (by omega) (by omega), iltT rfl hR.cnt (by omega) (by omega) (by omega), e1, e2, ec]
    by_cases q0 : i = 0
    · rw [ieqT rfl i0 (by omega), if_pos (Or.inl q0)]
    · rw [ieqF rfl i0 (by omega) (by omega) (by omega) (by omega) (by omega), get_in hR hil, Option.bind_some]
      show (f_X6_kindOf σ 3 (iZ (L[i] : Int))).bind _ = _
      rw [kindOf_s h.2.1.1 (Or.inl rfl) hx0 h40, Option.bind_some, eg]
      by_cases qk : Kd w L[i] = 1
      · rw [ieqT rfl i1 (by omega), if_neg (by rintro (g | g) <;> omega)]
        rfl
      · rw [ieqF rfl i1 (by omega) (by omega) (by omega) (by omega) (by omega), if_pos (Or.inr qk)]
  · rintro ⟨a, x⟩ ⟨hx, hi, ha⟩ n'
    dsimp only at hx ha ⊢
    subst hx; subst ha
    have hc := cAt_bd w L (p + 1)
    show (if iZ (p : Int) < iZ ((p + 1 : Nat) : Int) then _ else _) = _
    rw [iltT rfl rfl (by omega) (by omega) (by omega), i1, iZ_sub]
theorem c_tell (h : InvS σ w) : ∃ σ', f_X4_tellLine σ 276 = some σ' ∧ Rw cN σ' 277 60 (qL w) ∧ Rw cN σ' 279 60 (upTo (qC w) (qL w).length) ∧ Fr (In 277 281) σ σ' := by
  obtain ⟨h2, h60, hlt⟩ := qL_ok h.1
  obtain ⟨s1, a1, a2, a3⟩ := takeOver_s z_row.1 (h.2.1.2.2.2 _ h2) (by omega) h60
  obtain ⟨s2, b1, b2, b3⟩ := clear_s (e := cN) (σ := s1) z_row.2.1
  have F2 : Fr (In 277 281) σ s2 := (a3.widen (by omega) (by omega)).trans (b3.widen (by omega) (by omega))
  have a1' : f_X5_takeOver σ 277 (3 + 123 + 2 * w 2) = some s1 := a1
  unfold f_X4_tellLine
  rw [z_rf1, h.2.1.2.2.1, lineAt_s (a := 3) (Or.inl rfl) h2, Option.bind_some, z_rf2, a1', Option.bind_some, z_rf3, b1, Option.bind_some]
  refine lp0 (S := MsSt × Int32) (f := fun n t => f_X4_tellLine_30 n t.1 276 t.2) (Q := fun σ' => Rw cN σ' 277 60 (qL w) ∧ Rw cN σ' 279 60 (upTo (qC w) (qL w).length) ∧ Fr (In 277 281) σ σ')
    (fun i t => t.2 = iZ (i : Int) ∧ i ≤ (qL w).length ∧ Rw cN t.1 277 60 (qL w) ∧ Rw cN t.1 279 60 (upTo (qC w) i) ∧ Fr (In 277 281) σ t.1) (qL w).length (s := (s2, 0)) ⟨rfl, Nat.zero_le _, a2.away b3 (by omega), b2, F2⟩ (by omega) ?_ ?_
  · rintro i ⟨t, x⟩ ⟨hx, hi, hR, hC, hF⟩ hlt'
    dsimp only at hx hR hC hF ⊢
    subst hx
    left
    have hI : InvS t w := h.fr (hF.mono fun a k g => by have g1 := g.1; have g2 := g.2; unfold FScr; omega)
    have hbd := cAt_bd w (qL w) (i + 1)
    have ec : (cAt w (qL w) (i + 1) : Int) - 1 = ((qC w i : Nat) : Int) := by unfold qC; omega
    obtain ⟨s3, c1, c2, c3⟩ := add_s hC (by rw [upTo_length]; omega) (qC w i)
    have c1' : f_X5_add t 279 (iZ (qC w i : Int)) = some s3 := c1
    refine ⟨(s3, iZ ((i + 1 : Nat) : Int)), ⟨rfl, hlt', hR.away c3 (by omega), by rw [upTo_succ]; exact c2, hF.trans (c3.widen (by omega) (by omega))⟩, fun n' => ?_⟩
    show (if iZ (i : Int) < ms_i t (ms_rf 276 2) 1 then _ else _) = _
    rw [z_rf2, iltT rfl hR.cnt (by omega) (by omega) (by omega), z_rf1, c_clAt hI hR hlt h60 hlt', Option.bind_some, z_rf3, ec, c1', Option.bind_some, i1, iZ_add]
    rfl
  · rintro ⟨t, x⟩ ⟨hx, hi, hR, hC, hF⟩
    dsimp only at hx hR hC hF ⊢
    subst hx
    refine ⟨t, ⟨hR, hC, hF⟩, fun n' => ?_⟩
    show (if iZ ((qL w).length : Int) < ms_i t (ms_rf 276 2) 1 then _ else _) = _
    rw [z_rf2, iltF rfl hR.cnt (by omega) (by omega) (by omega)]
theorem qL_get {p : Nat} (hp : p < (qL w).length) : (qL w)[p] = w (7 + 60 * w 2 + p) := ln_get w (w 2) p hp
theorem c_valueAt (h : QE σ w) {p : Nat} (hp : p < (qL w).length) {i : Int} (h1 : -10 ≤ i) (h2 : i < 10) : f_X4_valueAt σ 276 (iZ (p : Int)) (iZ i) = some (iZ (pv w p i : Int)) := by
  obtain ⟨hI, hR, hC⟩ := h
  obtain ⟨k2, k60, klt⟩ := qL_ok hI.1
  have h40 := hI.1.1.1
  have hx := klt _ (List.getElem_mem hp)
  have e := qL_get hp
  rw [e] at hx
  have hS := hI.2.1.1.2 _ hx
  have hg : f_X5_get σ 277 (iZ (p : Int)) = some (iZ (w (7 + 60 * w 2 + p) : Int)) := by
    rw [get_in hR hp, e]; rfl
  have hg2 : f_X5_get σ 279 (iZ (p : Int)) = some (iZ (qC w p : Int)) := by
    rw [get_in hC (by rw [upTo_length]; exact hp)]
    simp [upTo, cN]
  unfold f_X4_valueAt pv
  rw [z_rf2, hg, Option.bind_some, z_rf1, told_s (a := 3) (Or.inl rfl) (by omega), Option.bind_some]
  by_cases g0 : i = 0
  · rw [ieqT rfl i0 g0, if_pos g0]
  · rw [ieqF rfl i0 g0 (by omega) (by omega) (by omega) (by omega), if_neg g0]
    by_cases g1 : i = 1
    · rw [ieqT rfl i1 g1, if_pos g1]
    · rw [ieqF rfl i1 g1 (by omega) (by omega) (by omega) (by omega), if_neg g1]
      by_cases g2 : i = 2
      · rw [ieqT (y := 2) (b := 2) rfl rfl g2, if_pos g2, hS.1]
      · rw [ieqF (y := 2) (b := 2) rfl rfl g2 (by omega) (by omega) (by omega) (by omega), if_neg g2]
        by_cases g3 : i = 3
        · rw [ieqT (y := 3) (b := 3) rfl rfl g3, if_pos g3, hS.2.2.1]
        · rw [ieqF (y := 3) (b := 3) rfl rfl g3 (by omega) (by omega) (by omega) (by omega), if_neg g3]
          by_cases g4 : i = 4
          · rw [ieqT (y := 4) (b := 4) rfl rfl g4, if_pos g4, hS.2.1]
          · rw [ieqF (y := 4) (b := 4) rfl rfl g4 (by omega) (by omega) (by omega) (by omega), if_neg g4, z_rf3, hg2, Option.bind_some]
theorem m_property (h : InvS τ w) {p : Nat} (hp : p < (qL w).length) {i : Int} (h1 : 0 ≤ i) (h2 : i < 10) : f_X12_property τ 493 (iZ (p : Int)) (iZ i) = some (iZ (pv w p i : Int)) := by
  obtain ⟨k2, k60, klt⟩ := qL_ok h.1
  have h40 := h.1.1.1
  have hx := klt _ (List.getElem_mem hp)
  have e := qL_get hp
  rw [e] at hx
  have hM := h.2.2
  have eh : ms_ald τ 494 2 = some (iZ (w 2 : Int)) := mw_get hM (Or.inl rfl) (z := 2) (k := 2) rfl (by omega)
  unfold f_X12_property pv
  rw [m_rf0, eh, Option.bind_some, spot_s, Option.bind_some, mw_get hM (Or.inl rfl) (k := 7 + 60 * w 2 + p) (by omega) (by omega), Option.bind_some]
  by_cases g0 : i = 0
  · rw [ieqT rfl i0 g0, if_pos g0]
  · rw [ieqF rfl i0 g0 (by omega) (by omega) (by omega) (by omega), if_neg g0]
    by_cases g1 : i = 1
    · rw [ieqT rfl i1 g1, if_pos g1]
    · rw [ieqF rfl i1 g1 (by omega) (by omega) (by omega) (by omega), if_neg g1]
      by_cases g2 : i = 2
      · rw [ieqT (y := 2) (b := 2) rfl rfl g2, if_pos g2, of_0, Option.bind_some, mw_get hM (Or.inl rfl) (k := 247 + 7 * w (7 + 60 * w 2 + p)) (by omega) (by omega), Option.bind_some]
        rfl
      · rw [ieqF (y := 2) (b := 2) rfl rfl g2 (by omega) (by omega) (by omega) (by omega), if_neg g2]
        by_cases g3 : i = 3
        · rw [ieqT (y := 3) (b := 3) rfl rfl g3, if_pos g3, of_1, Option.bind_some, mw_get hM (Or.inl rfl) (k := 247 + 7 * w (7 + 60 * w 2 + p) + 1) (by omega) (by omega), Option.bind_some]
          rfl
        · rw [ieqF (y := 3) (b := 3) rfl rfl g3 (by omega) (by omega) (by omega) (by omega), if_neg g3]
          by_cases g4 : i = 4
          · rw [ieqT (y := 4) (b := 4) rfl rfl g4, if_pos g4, m_parts hM (Or.inl rfl) h.1.1 hx, Option.bind_some]
          · have hbd := cAt_bd w (qL w) (p + 1)
            rw [ieqF (y := 4) (b := 4) rfl rfl g4 (by omega) (by omega) (by omega) (by omega), if_neg g4, Option.bind_some, m_clusterAt h k2 hp, Option.bind_some]
            congr 2
            unfold qC qL
            unfold qL at hbd
            omega
theorem pv_bd (h : WF w) {p : Nat} (hp : p < (qL w).length) {i : Int} : pv w p i < 1000 := by
  obtain ⟨k2, k60, klt⟩ := qL_ok h
  have h40 := h.1.1
  have hx := klt _ (List.getElem_mem hp)
  rw [qL_get hp] at hx
  obtain ⟨⟨g1, g2, g3, g4⟩, g5⟩ := h.1.2.1 _ hx
  have hbd := cAt_bd w (qL w) (p + 1)
  unfold pv qC
  split
  · omega
  · split
    · omega
    · split
      · omega
      · split
        · have : Kd w (w (7 + 60 * w 2 + p)) = 0 ∨ Kd w (w (7 + 60 * w 2 + p)) = 1 ∨ Kd w (w (7 + 60 * w 2 + p)) = 2 := by omega
          rcases this with q | q | q
          · have := (g2 q).1; omega
          · have := (g3 q).2.1; omega
          · have := (g4 q).1; omega
        · split <;> omega
end Q1
