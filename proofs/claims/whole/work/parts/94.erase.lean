/-! erase -/
section Er
variable {σ : MsSt} {w : Nat → Nat}
/-- what is left of a line without the places i to j -/
def cutL (L : List Nat) (i j : Nat) : List Nat := L.take i ++ L.drop (j + 1)
theorem cutL_length {L : List Nat} {i j : Nat} (h1 : i ≤ j) (h2 : j < L.length) : (cutL L i j).length = L.length - (j - i + 1) := by
  unfold cutL
  rw [List.length_append, List.length_take, List.length_drop]
  omega
theorem cutL_mem {L : List Nat} {i j x : Nat} (h : x ∈ cutL L i j) : x ∈ L := by
  unfold cutL at h
  rcases List.mem_append.mp h with g | g
  · exact List.mem_of_mem_take g
  · exact List.mem_of_mem_drop g
theorem cutL_get {L : List Nat} {i j p : Nat} (h1 : i ≤ j) (h2 : j < L.length) (hp : p < (cutL L i j).length) : (cutL L i j)[p] = if p < i then L.getD p 0 else L.getD (p + (j - i + 1)) 0 := by
  have hl := cutL_length h1 h2
  have hp' := hp
  rw [hl] at hp'
  rw [← getD_get hp, List.getD_eq_getElem?_getD]
  unfold cutL
  by_cases q : p < i
  · rw [if_pos q, List.getElem?_append_left (by rw [List.length_take]; omega), List.getElem?_take_of_lt q, ← List.getD_eq_getElem?_getD]
  · rw [if_neg q, List.getElem?_append_right (by rw [List.length_take]; omega), List.getElem?_drop, ← List.getD_eq_getElem?_getD]
    congr 1
    rw [List.length_take]
    omega
/-- the class cuts: every place is kept or passed over -/
theorem c_cut {r N : Nat} {L : List Nat} {i j : Nat} (h : Rw cN σ r N L) (h1 : i ≤ j) (h2 : j < L.length) : ∃ σ', f_X5_cut σ r (iZ (i : Int)) (iZ (j : Int)) = some σ' ∧ Rw cN σ' r N (cutL L i j) ∧ Fr (In r (r + 2)) σ σ' := by
  have hlen := h.len
  have hN := h.2.1
  have hcl := cutL_length h1 h2
  -- places filled when the first q are read
  have key := lp0 (S := MsSt × Int32 × Int32) (f := fun n t => f_X5_cut_5 n t.1 r (iZ (i : Int)) (iZ (j : Int)) t.2.1 t.2.2) (Q := fun σ' => Rw cN σ' r N (cutL L i j) ∧ Fr (In r (r + 2)) σ σ')
    (fun q t => t.2.2 = iZ (q : Int) ∧ q ≤ L.length ∧ Fr (In r (r + 2)) σ t.1 ∧ ∃ M : List Nat, Rw cN t.1 r N M ∧ M.length = L.length ∧ t.2.1 = iZ ((if q ≤ i then q else if q ≤ j + 1 then i else q - (j - i + 1) : Nat) : Int) ∧ (∀ p, p < (if q ≤ i then q else if q ≤ j + 1 then i else q - (j - i + 1)) → M.getD p 0 = if p < i then L.getD p 0 else L.getD (p + (j - i + 1)) 0) ∧ ∀ p, q ≤ p → M.getD p 0 = L.getD p 0) L.length (s := (σ, 0, 0)) ⟨rfl, Nat.zero_le _, Fr.refl _ _, L, h, rfl, by rw [if_pos (Nat.zero_le _)]; rfl, fun p hp => by rw [if_pos (Nat.zero_le _)] at hp; omega, fun p _ => rfl⟩ (by omega) ?_ ?_
  · obtain ⟨σ', g1, g2⟩ := key
    exact ⟨σ', g1, g2⟩
  · rintro q ⟨t, a, x⟩ ⟨hx, hq, hF, M, hM, hMl, ha, hA, hB⟩ hlt
    dsimp only at hx ha hF hM ⊢
    subst hx; subst ha
    left
    have e1 : iZ (q : Int) + 1 = iZ ((q + 1 : Nat) : Int) := by rw [i1, iZ_add]; rfl
    by_cases g : i ≤ q ∧ q ≤ j
    · refine ⟨(t, iZ ((if q + 1 ≤ i then q + 1 else if q + 1 ≤ j + 1 then i else q + 1 - (j - i + 1) : Nat) : Int), iZ ((q + 1 : Nat) : Int)), ⟨rfl, hlt, hF, M, hM, hMl, rfl, fun p hp => ?_, fun p hp => hB p (by omega)⟩, fun n' => ?_⟩
      · have e : (if q + 1 ≤ i then q + 1 else if q + 1 ≤ j + 1 then i else q + 1 - (j - i + 1)) = (if q ≤ i then q else if q ≤ j + 1 then i else q - (j - i + 1)) := by split <;> split <;> (try split) <;> (try split) <;> omega
        rw [e] at hp
        exact hA p hp
      · have e : (if q + 1 ≤ i then q + 1 else if q + 1 ≤ j + 1 then i else q + 1 - (j - i + 1)) = (if q ≤ i then q else if q ≤ j + 1 then i else q - (j - i + 1)) := by split <;> split <;> (try split) <;> (try split) <;> omega
        show (if iZ (q : Int) < ms_i t r 1 then _ else _) = _
        rw [iltT rfl hM.cnt (by omega) (by omega) (by omega), iltF rfl rfl (by omega) (by omega) (by omega), iltF rfl rfl (by omega) (by omega) (by omega), e1, e]
    · have hc : (if q ≤ i then q else if q ≤ j + 1 then i else q - (j - i + 1)) = if q < i then q else q - (j - i + 1) := by split <;> split <;> (try split) <;> omega
      have hcl2 : (if q < i then q else q - (j - i + 1)) ≤ q := by split <;> omega
      have hgq : M.getD q 0 = L.getD q 0 := hB q (Nat.le_refl _)
      have hv : f_X5_get t r (iZ (q : Int)) = some (iZ (M.getD q 0 : Int)) := by
        rw [get_in hM (by omega), getD_get (by omega)]
        rfl
      obtain ⟨s1, b1, b2, b3⟩ := put_s hM (k := if q < i then q else q - (j - i + 1)) (by omega) (M.getD q 0)
      have b1' : f_X5_put t r (iZ ((if q < i then q else q - (j - i + 1) : Nat) : Int)) (iZ (M.getD q 0 : Int)) = some s1 := b1
      have hc2 : (if q + 1 ≤ i then q + 1 else if q + 1 ≤ j + 1 then i else q + 1 - (j - i + 1)) = (if q < i then q else q - (j - i + 1)) + 1 := by split <;> split <;> (try split) <;> omega
      have e2 : iZ ((if q < i then q else q - (j - i + 1) : Nat) : Int) + 1 = iZ (((if q < i then q else q - (j - i + 1)) + 1 : Nat) : Int) := by rw [i1, iZ_add]; rfl
      refine ⟨(s1, iZ ((if q + 1 ≤ i then q + 1 else if q + 1 ≤ j + 1 then i else q + 1 - (j - i + 1) : Nat) : Int), iZ ((q + 1 : Nat) : Int)), ⟨rfl, hlt, hF.trans b3, _, b2, by rw [List.length_set]; exact hMl, rfl, fun p hp => ?_, fun p hp => ?_⟩, fun n' => ?_⟩
      · rw [hc2] at hp
        by_cases e : p = (if q < i then q else q - (j - i + 1))
        · rw [e, getD_get (by rw [List.length_set]; omega), List.getElem_set_self, hgq]
          by_cases gi : q < i
          · rw [if_pos gi, if_pos gi]
          · rw [if_neg gi, if_neg (by omega)]
            congr 1
            omega
        · have := hA p (by rw [hc]; omega)
          rw [← this]
          by_cases hpM : p < M.length
          · rw [getD_get (by rw [List.length_set]; exact hpM), getD_get hpM, List.getElem_set_ne (by omega)]
          · omega
      · rw [← hB p (by omega)]
        by_cases hpM : p < M.length
        · rw [getD_get (by rw [List.length_set]; exact hpM), getD_get hpM, List.getElem_set_ne (by omega)]
        · have z1 : M[p]? = none := List.getElem?_eq_none (by omega)
          have z2 : ∀ (k x : Nat), (M.set k x)[p]? = none := fun k x => List.getElem?_eq_none (by rw [List.length_set]; omega)
          have y1 : M.getD p 0 = 0 := by rw [List.getD_eq_getElem?_getD, z1]; rfl
          have y2 : ∀ (k x : Nat), (M.set k x).getD p 0 = 0 := fun k x => by rw [List.getD_eq_getElem?_getD, z2]; rfl
          rw [y1, y2]
      · have h26 : ∀ k5 : MsSt → Nat → Int32 → Int32 → Int32 → Int32 → Option MsSt, f_X5_cut_26 k5 t r (iZ (i : Int)) (iZ (j : Int)) (iZ ((if q < i then q else q - (j - i + 1) : Nat) : Int)) (iZ (q : Int)) = k5 s1 r (iZ (i : Int)) (iZ (j : Int)) (iZ (((if q < i then q else q - (j - i + 1)) + 1 : Nat) : Int)) (iZ ((q + 1 : Nat) : Int)) := by
          intro k5
          unfold f_X5_cut_26
          rw [hv, Option.bind_some, b1', Option.bind_some, e1, e2]
        show (if iZ (q : Int) < ms_i t r 1 then _ else _) = _
        rw [iltT rfl hM.cnt (by omega) (by omega) (by omega), hc, hc2]
        by_cases gi : q < i
        · rw [iltT (x := iZ (q : Int)) (y := iZ (i : Int)) rfl rfl (by omega) (by omega) (by omega)]
          exact h26 _
        · rw [iltF (x := iZ (q : Int)) (y := iZ (i : Int)) rfl rfl (by omega) (by omega) (by omega), iltT (x := iZ (j : Int)) (y := iZ (q : Int)) rfl rfl (by omega) (by omega) (by omega)]
          exact h26 _
  · rintro ⟨t, a, x⟩ ⟨hx, hq, hF, M, hM, hMl, ha, hA, hB⟩
    dsimp only at hx ha hF hM ⊢
    subst hx; subst ha
    have hc : (if L.length ≤ i then L.length else if L.length ≤ j + 1 then i else L.length - (j - i + 1)) = (cutL L i j).length := by rw [hcl]; split <;> (try split) <;> omega
    rw [hc] at hA ⊢
    refine ⟨ms_si t r 1 (iZ ((cutL L i j).length : Int)), ⟨⟨h.1, by omega, i_si_same _ _ _ _, fun p hp => ?_⟩, hF.trans (Fr.si _ _ ⟨Nat.le_refl _, by omega⟩)⟩, fun n' => ?_⟩
    · rw [i_si_ne (Or.inl (by omega)), hM.2.2.2 p (by omega), cutL_get h1 h2 hp, ← hA p hp, getD_get (by omega)]
    · show (if iZ (L.length : Int) < ms_i t r 1 then _ else _) = _
      rw [iltF rfl hM.cnt (by omega) (by omega) (by omega), nm_s]
end Er
