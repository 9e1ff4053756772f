/-! what a memory keeps -/
section Mm
variable {σ : MsSt} {w : Nat → Nat} {a : Nat}
def MemAt (a : Nat) : Prop := ∃ j, j < 11 ∧ a = 287 + 14 * j
theorem mem_tab : ∀ j, j < 11 → (ms_rf (287 + 14 * j) 0 = 287 + 14 * j + 1 ∧ ms_rf (287 + 14 * j) 1 = 287 + 14 * j + 10 ∧ ms_rf (287 + 14 * j) 2 = 287 + 14 * j + 12 ∧ ms_ln (287 + 14 * j + 1) = 4) ∧ (∀ l, l < 4 → ms_rf (287 + 14 * j + 1) l = 287 + 14 * j + 2 + 2 * l ∧ ms_rf (287 + 14 * j + 2 + 2 * l) 0 = 287 + 14 * j + 2 + 2 * l + 1 ∧ ms_ln (287 + 14 * j + 2 + 2 * l + 1) = 60) ∧ ms_rf (287 + 14 * j + 10) 0 = 287 + 14 * j + 10 + 1 ∧ ms_ln (287 + 14 * j + 10 + 1) = 40 ∧ ms_rf (287 + 14 * j + 12) 0 = 287 + 14 * j + 12 + 1 ∧ ms_ln (287 + 14 * j + 12 + 1) = 40 := by decide +kernel
theorem mem_lo (h : MemAt a) : 287 ≤ a ∧ a ≤ 427 := by obtain ⟨j, h1, rfl⟩ := h; omega
theorem mem_refs (h : MemAt a) : ms_rf a 0 = a + 1 ∧ ms_rf a 1 = a + 10 ∧ ms_rf a 2 = a + 12 ∧ ms_ln (a + 1) = 4 := by
  obtain ⟨j, h1, rfl⟩ := h
  exact (mem_tab j h1).1
theorem mem_line (h : MemAt a) {l : Nat} (hl : l < 4) : ms_rf (a + 1) l = a + 2 + 2 * l ∧ RowAt (a + 2 + 2 * l) 60 := by
  obtain ⟨j, h1, rfl⟩ := h
  obtain ⟨e1, e2, e3⟩ := (mem_tab j h1).2.1 l hl
  exact ⟨e1, e2, e3, by omega⟩
theorem mem_rows (h : MemAt a) : RowAt (a + 10) 40 ∧ RowAt (a + 12) 40 := by
  obtain ⟨j, h1, rfl⟩ := h
  obtain ⟨e1, e2, e3, e4⟩ := (mem_tab j h1).2.2
  exact ⟨⟨e1, e2, by omega⟩, ⟨e3, e4, by omega⟩⟩
def spV (w : Nat → Nat) (s : Nat) : Nat := if spB w s = true then 1 else 0
def MemRep (σ : MsSt) (a : Nat) (w : Nat → Nat) : Prop := (∀ l, l < 4 → Rw cN σ (a + 2 + 2 * l) 60 (ln w l)) ∧ Rw cN σ (a + 10) 40 (upTo (Cl w) (w 0)) ∧ Rw cN σ (a + 12) 40 (upTo (spV w) (w 0)) ∧ ms_i σ a 3 = iZ (w 2 : Int)
end Mm
