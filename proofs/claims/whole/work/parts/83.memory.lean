/-! what a memory keeps -/
section Mm
variable {σ : MsSt} {w : Nat → Nat} {a : Nat}
def MemAt (a : Nat) : Prop := ∃ j, j < 11 ∧ a = 287 + 14 * j
theorem mem_tab : ∀ j, j < 11 → (ms_rf (287 + 14 * j) 0 = 287 + 14 * j + 1 ∧ ms_rf (287 + 14 * j) 1 = 287 + 14 * j + 10 ∧ ms_rf (287 + 14 * j) 2 = 287 + 14 * j + 12 ∧ ms_ln (287 + 14 * j + 1) = 4) ∧ (∀ l, l < 4 → ms_rf (287 + 14 * j + 1) l = 287 + 14 * j + 2 + 2 * l ∧ ms_rf (287 + 14 * j + 2 + 2 * l) 0 = 287 + 14 * j + 2 + 2 * l + 1 ∧ ms_ln (287 + 14 * j + 2 + 2 * l + 1) = 60) ∧ ms_rf (287 + 14 * j + 10) 0 = 287 + 14 * j + 10 + 1 ∧ ms_ln (287 + 14 * j + 10 + 1) = 40 ∧ ms_rf (287 + 14 * j + 12) 0 = 287 + 14 * j + 12 + 1 ∧ ms_ln (287 + 14 * j + 12 + 1) = 40 := by decide +kernel
theorem mem_lo (h : MemAt a) : 287 ≤ a ∧ a ≤ 427 := by obtain ⟨j, h1, rfl⟩ := h; omega
theorem mem_refs (h : MemAt a) : ms_rf a 0 = a + 1 ∧ ms_rf a 1 = a + 10 ∧ ms_rf a 2 = a + 12 ∧ ms_ln (a + 1) = 4 := by
  obtain ⟨j, h1, rfl⟩ := h
  exact (mem_tab j h1).1
theorem mem_line (h : MemAt a) {l : Nat} (hl : l < 4) : ms_rf (a + 1) l = a + 2 + 2 * l ∧ RowAt (a + 2 + 2 * l) 60 := by
  obtain ⟨j, h1, rfl⟩ := h
  obtain ⟨e1, e2, e3⟩ := (mem_tab j h1).2.1 l hl
  exact ⟨e1, e2, e3, by omega⟩
theorem mem_rows (h : MemAt a) : RowAt (a + 10) 40 ∧ RowAt (a + 12) 40 := by
  obtain ⟨j, h1, rfl⟩ := h
  obtain ⟨e1, e2, e3, e4⟩ := (mem_tab j h1).2.2
  exact ⟨⟨e1, e2, by omega⟩, ⟨e3, e4, by omega⟩⟩
def spV (w : Nat → Nat) (s : Nat) : Nat := if spB w s = true then 1 else 0
def MemRep (σ : MsSt) (a : Nat) (w : Nat → Nat) : Prop := (∀ l, l < 4 → Rw cN σ (a + 2 + 2 * l) 60 (ln w l)) ∧ Rw cN σ (a + 10) 40 (upTo (Cl w) (w 0)) ∧ Rw cN σ (a + 12) 40 (upTo (spV w) (w 0)) ∧ ms_i σ a 3 = iZ (w 2 : Int)
theorem MemRep.away {σ' : MsSt} {lo hi : Nat} (h : MemRep σ a w) (hF : Fr (In lo hi) σ σ') (hd : a + 14 ≤ lo ∨ hi ≤ a) : MemRep σ' a w :=
  ⟨fun l hl => (h.1 l hl).away hF (by omega), h.2.1.away hF (by omega), h.2.2.1.away hF (by omega), by rw [hF.at (by omega)]; exact h.2.2.2⟩
/-- a memory keeps what is there now -/
theorem keep_s (hW : WF w) (hN : NowRep σ 3 w) (hm : MemAt a) : ∃ σ', f_X3_keep σ a 3 = some σ' ∧ MemRep σ' a w ∧ Fr (In a (a + 14)) σ σ' := by
  have hlo := mem_lo hm
  have hs := hW.1
  have h40 := hs.1
  obtain ⟨r0, r1, r2, r3⟩ := mem_refs hm
  obtain ⟨w1, w2⟩ := mem_rows hm
  have lB : ∀ s : MsSt, Fr (In a (a + 14)) σ s → (∀ l, l < 4 → Rw cN s (a + 2 + 2 * l) 60 (ln w l)) → Rw cN s (a + 10) 40 ([] : List Nat) → Rw cN s (a + 12) 40 ([] : List Nat) → ∃ σ', f_X3_keep_53 ms_fuel s a 3 0 = some σ' ∧ MemRep σ' a w ∧ Fr (In a (a + 14)) σ σ' := by
    intro s hF hL hC hS
    refine lp0 (S := MsSt × Int32) (f := fun n t => f_X3_keep_53 n t.1 a 3 t.2) (Q := fun σ' => MemRep σ' a w ∧ Fr (In a (a + 14)) σ σ')
      (fun i t => t.2 = iZ (i : Int) ∧ i ≤ w 0 ∧ Fr (In a (a + 14)) σ t.1 ∧ (∀ l, l < 4 → Rw cN t.1 (a + 2 + 2 * l) 60 (ln w l)) ∧ Rw cN t.1 (a + 10) 40 (upTo (Cl w) i) ∧ Rw cN t.1 (a + 12) 40 (upTo (spV w) i)) (w 0) (s := (s, 0)) ⟨rfl, Nat.zero_le _, hF, hL, hC, hS⟩ (by omega) ?_ ?_
    · rintro i ⟨t, x⟩ ⟨hx, hi, hFt, hLt, hCt, hSt⟩ hlt
      dsimp only at hx hFt hLt hCt hSt ⊢
      subst hx
      left
      have hNt := hN.away hFt h40 (by omega)
      obtain ⟨s1, b1, b2, b3⟩ := add_s hCt (by rw [upTo_length]; omega) (Cl w i)
      have b1' : f_X5_add t (a + 10) (iZ (Cl w i : Int)) = some s1 := b1
      have hNs := hNt.away b3 h40 (by omega)
      obtain ⟨s2, c1, c2, c3⟩ := add_s (hSt.away b3 (by omega)) (by rw [upTo_length]; omega) (spV w i)
      have c1' : f_X5_add s1 (a + 12) (iZ (spV w i : Int)) = some s2 := c1
      have e1 : iZ (i : Int) + 1 = iZ ((i + 1 : Nat) : Int) := by rw [i1, iZ_add]; rfl
      refine ⟨(s2, iZ ((i + 1 : Nat) : Int)), ⟨rfl, hlt, (hFt.trans (b3.widen (by omega) (by omega))).trans (c3.widen (by omega) (by omega)), fun l hl => ((hLt l hl).away b3 (by omega)).away c3 (by omega), ?_, ?_⟩, fun n' => ?_⟩
      · rw [upTo_succ]; exact b2.away c3 (by omega)
      · rw [upTo_succ]; exact c2
      · show (if iZ (i : Int) < ms_i t 3 4 then _ else _) = _
        rw [iltT rfl hNt.1.1 (by omega) (by omega) (by omega), told_s (a := 3) (Or.inl rfl) (by omega), Option.bind_some, (hNt.1.2 i hlt).2.2.1, r1, b1', Option.bind_some, told_s (a := 3) (Or.inl rfl) (by omega), Option.bind_some, sg_spare hs hNs.1 hlt, r2, e1]
        by_cases q : spB w i = true
        · have ev : spV w i = 1 := if_pos q
          rw [ev] at c1'
          have c1'' : f_X5_add s1 (a + 12) 1 = some s2 := c1'
          rw [if_pos q, ieqF rfl i0 (by omega) (by omega) (by omega) (by omega) (by omega), c1'', Option.bind_some]
        · have ev : spV w i = 0 := if_neg q
          rw [ev] at c1'
          have c1'' : f_X5_add s1 (a + 12) 0 = some s2 := c1'
          rw [if_neg q, ieqT rfl i0 rfl, c1'', Option.bind_some]
    · rintro ⟨t, x⟩ ⟨hx, hi, hFt, hLt, hCt, hSt⟩
      dsimp only at hx hFt hLt hCt hSt ⊢
      subst hx
      have hNt := hN.away hFt h40 (by omega)
      have G : Fr (In a (a + 1)) t (ms_si t a 3 (ms_i t 3 6)) := Fr.si _ _ ⟨Nat.le_refl _, by omega⟩
      refine ⟨ms_si t a 3 (ms_i t 3 6), ⟨⟨fun l hl => (hLt l hl).away G (by omega), hCt.away G (by omega), hSt.away G (by omega), ?_⟩, hFt.trans (G.widen (by omega) (by omega))⟩, fun n' => ?_⟩
      · rw [i_si_same]; exact hNt.2.2.1
      · show (if iZ (w 0 : Int) < ms_i t 3 4 then _ else _) = _
        rw [iltF rfl hNt.1.1 (by omega) (by omega) (by omega), nm_s]
  unfold f_X3_keep
  refine lp0 (S := MsSt × Int32) (f := fun n t => f_X3_keep_2 n t.1 a 3 t.2) (Q := fun σ' => MemRep σ' a w ∧ Fr (In a (a + 14)) σ σ')
    (fun i t => t.2 = iZ (i : Int) ∧ i ≤ 4 ∧ Fr (In a (a + 14)) σ t.1 ∧ ∀ l, l < i → Rw cN t.1 (a + 2 + 2 * l) 60 (ln w l)) 4 (s := (σ, 0)) ⟨rfl, Nat.zero_le _, Fr.refl _ _, fun l hl => absurd hl (by omega)⟩ (by omega) ?_ ?_
  · rintro i ⟨t, x⟩ ⟨hx, hi, hFt, hLt⟩ hlt
    dsimp only at hx hFt hLt ⊢
    subst hx
    left
    have hNt := hN.away hFt h40 (by omega)
    obtain ⟨e1, e2⟩ := mem_line hm hlt
    obtain ⟨s1, b1, b2, b3⟩ := takeOver_s e2 (hNt.2.2.2 i hlt) (by omega) (hW.line hlt).2
    refine ⟨(s1, iZ ((i + 1 : Nat) : Int)), ⟨rfl, hlt, hFt.trans (b3.widen (by omega) (by omega)), fun l hl => ?_⟩, fun n' => ?_⟩
    · by_cases q : l = i
      · rw [q]; exact b2
      · exact (hLt l (by omega)).away b3 (by omega)
    · show (if iZ (i : Int) < Int32.ofNat (ms_ln (ms_rf a 0)) then _ else _) = _
      rw [r0, r3, iltT rfl (iZ_nat 4) (by omega) (by omega) (by omega), ala_iZ (by omega) (by omega), Option.bind_some, e1, lineAt_s (a := 3) (Or.inl rfl) hlt, Option.bind_some, b1, Option.bind_some, i1, iZ_add]
      rfl
  · rintro ⟨t, x⟩ ⟨hx, hi, hFt, hLt⟩
    dsimp only at hx hFt hLt ⊢
    subst hx
    obtain ⟨s1, b1, b2, b3⟩ := clear_s (e := cN) (σ := t) w1
    obtain ⟨s2, c1, c2, c3⟩ := clear_s (e := cN) (σ := s1) w2
    obtain ⟨u, d1, d2⟩ := lB s2 ((hFt.trans (b3.widen (by omega) (by omega))).trans (c3.widen (by omega) (by omega))) (fun l hl => ((hLt l hl).away b3 (by omega)).away c3 (by omega)) (b2.away c3 (by omega)) c2
    refine ⟨u, d2, fun n' => ?_⟩
    show (if iZ ((4 : Nat) : Int) < Int32.ofNat (ms_ln (ms_rf a 0)) then _ else _) = _
    rw [r0, r3, iltF rfl (iZ_nat 4) (by omega) (by omega) (by omega), r1, b1, Option.bind_some, r2, c1, Option.bind_some, d1]
end Mm
