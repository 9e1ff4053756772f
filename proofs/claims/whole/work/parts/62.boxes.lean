/-! boxes: the marks of a cluster, one after the other -/
/-- the sign of the mark j of a cluster -/
def bxm (w : Nat → Nat) (D : List Nat) (c j : Nat) : Nat := D.getD (fm w D c + j) 0
/-- top and bottom in front of the mark j -/
def tb (w : Nat → Nat) (D : List Nat) (c : Nat) : Nat → Int × Int
  | 0 => ((obf w D c 4 : Int), 0)
  | j + 1 => (if sgF w (bxm w D c j) 6 = 0 then (tb w D c j).1 + 1 + (sgF w (bxm w D c j) 4 : Int) else (tb w D c j).1, if sgF w (bxm w D c j) 6 = 1 then (tb w D c j).2 - 1 - (sgF w (bxm w D c j) 4 : Int) else (tb w D c j).2)
def bxA (w : Nat → Nat) (D : List Nat) (c j : Nat) : Int := if sgF w (bxm w D c j) 6 = 0 then (obf w D c 5 : Int) else if sgF w (bxm w D c j) 6 = 1 then (obf w D c 6 : Int) else ((obf w D c 3 / 2 : Nat) : Int)
def bxL (w : Nat → Nat) (D : List Nat) (c j : Nat) : Int := bxA w D c j - (sgF w (bxm w D c j) 5 : Int)
def bxR (w : Nat → Nat) (D : List Nat) (c j : Nat) : Int := bxL w D c j + (sgF w (bxm w D c j) 3 : Int)
def bxB (w : Nat → Nat) (D : List Nat) (c j : Nat) : Int := if sgF w (bxm w D c j) 6 = 0 then (tb w D c j).1 + 1 else if sgF w (bxm w D c j) 6 = 1 then (tb w D c j).2 - 1 - (sgF w (bxm w D c j) 4 : Int) else ((obf w D c 4 / 2 : Nat) : Int)
def bxT (w : Nat → Nat) (D : List Nat) (c j : Nat) : Int := bxB w D c j + (sgF w (bxm w D c j) 4 : Int)
/-- left side, right side, crown, foot behind j marks -/
def bS (w : Nat → Nat) (D : List Nat) (c : Nat) : Nat → Int × Int × Int × Int
  | 0 => (0, (obf w D c 3 : Int), (obf w D c 4 : Int), 0)
  | j + 1 => (if bxL w D c j < (bS w D c j).1 then bxL w D c j else (bS w D c j).1, if (bS w D c j).2.1 < bxR w D c j then bxR w D c j else (bS w D c j).2.1, if (bS w D c j).2.2.1 < bxT w D c j then bxT w D c j else (bS w D c j).2.2.1, if bxB w D c j < (bS w D c j).2.2.2 then bxB w D c j else (bS w D c j).2.2.2)
def mks (w : Nat → Nat) (D : List Nat) (c : Nat) : Nat := be w D (c + 1) - fm w D c
/-- what is known of a mark of a cluster -/
theorem bxm_ok {w : Nat → Nat} {n : Nat} {D : List Nat} {c j : Nat} (hs : SgsOK w n) (hD : ∀ y ∈ D, y < n ∧ Kd w y ≤ 1 ∧ Cl w y ≤ 60) (hc : c < (bg w D).length) (hj : j < mks w D c) :
    fm w D c + j < D.length ∧ bxm w D c j < n ∧ Kd w (bxm w D c j) = 1 ∧ 1 ≤ Cl w (bxm w D c j) ∧ Cl w (bxm w D c j) ≤ 60 ∧ sgF w (bxm w D c j) 3 ≤ 9 ∧ sgF w (bxm w D c j) 4 ≤ 9 ∧ sgF w (bxm w D c j) 5 ≤ 9 ∧ sgF w (bxm w D c j) 6 ≤ 2 := by
  unfold mks at hj
  have hb := be_lt hc
  have hk : fm w D c + j < D.length := by omega
  have hm := fm_mark hc (k := fm w D c + j) (by omega) (by omega)
  have hx : D.getD (fm w D c + j) 0 < n := by rw [getD_get hk]; exact (hD _ (List.getElem_mem hk)).1
  obtain ⟨q1, q2, q3, q4, q5, q6, q7, q8⟩ := (hs.2.1 _ hx).1.2.2.1 hm
  exact ⟨hk, hx, hm, q1, q2, q4, q6, q7, q8⟩
theorem obf_le' {w : Nat → Nat} {n : Nat} {D : List Nat} {c : Nat} (hs : SgsOK w n) (hD : ∀ y ∈ D, y < n ∧ Kd w y ≤ 1 ∧ Cl w y ≤ 60) (hc : c < (bg w D).length) {f : Nat} (h3 : 3 ≤ f) (hf : f < 7) : obf w D c f ≤ 20 := by
  have hk := (be_lt hc).2.2
  have ha := hD _ (List.getElem_mem hk)
  unfold obf
  rw [getD_get hk]
  by_cases q : Kd w D[be w D c] = 1
  · rw [if_pos q]; omega
  · rw [if_neg q]
    have h0 := (hs.2.1 _ ha.1).1.2.1 (by omega)
    have hf' : f = 3 ∨ f = 4 ∨ f = 5 ∨ f = 6 := by omega
    rcases hf' with rfl | rfl | rfl | rfl <;> omega
theorem tb_bd {w : Nat → Nat} {n : Nat} {D : List Nat} {c : Nat} (hs : SgsOK w n) (hD : ∀ y ∈ D, y < n ∧ Kd w y ≤ 1 ∧ Cl w y ≤ 60) (hc : c < (bg w D).length) : ∀ j, j ≤ mks w D c → 0 ≤ (tb w D c j).1 ∧ (tb w D c j).1 ≤ 20 + 10 * (j : Int) ∧ (tb w D c j).2 ≤ 0 ∧ -10 * (j : Int) ≤ (tb w D c j).2 := by
  intro j
  induction j with
  | zero =>
    intro _
    have := obf_le' hs hD hc (f := 4) (by omega) (by omega)
    refine ⟨by show (0 : Int) ≤ (obf w D c 4 : Int); omega, by show (obf w D c 4 : Int) ≤ _; omega, Int.le_refl _, by show _ ≤ (0 : Int); omega⟩
  | succ j ih =>
    intro hj
    obtain ⟨h1, h2, h3, h4⟩ := ih (by omega)
    have hb := bxm_ok hs hD hc (j := j) (by omega)
    unfold tb
    dsimp only
    refine ⟨?_, ?_, ?_, ?_⟩ <;> split <;> omega
theorem bx_bd {w : Nat → Nat} {n : Nat} {D : List Nat} {c j : Nat} (hs : SgsOK w n) (hD : ∀ y ∈ D, y < n ∧ Kd w y ≤ 1 ∧ Cl w y ≤ 60) (hc : c < (bg w D).length) (hj : j < mks w D c) (h65 : mks w D c ≤ 400) :
    -10 ≤ bxL w D c j ∧ bxL w D c j ≤ 20 ∧ -10 ≤ bxR w D c j ∧ bxR w D c j ≤ 40 ∧ -5000 ≤ bxB w D c j ∧ bxB w D c j ≤ 5000 ∧ -5000 ≤ bxT w D c j ∧ bxT w D c j ≤ 5010 := by
  have hb := bxm_ok hs hD hc hj
  obtain ⟨h1, h2, h3, h4⟩ := tb_bd hs hD hc j (by omega)
  have o3 := obf_le' hs hD hc (f := 3) (by omega) (by omega)
  have o4 := obf_le' hs hD hc (f := 4) (by omega) (by omega)
  have o5 := obf_le' hs hD hc (f := 5) (by omega) (by omega)
  have o6 := obf_le' hs hD hc (f := 6) (by omega) (by omega)
  have hA : 0 ≤ bxA w D c j ∧ bxA w D c j ≤ 20 := by
    unfold bxA
    split
    · omega
    · split <;> omega
  have hB : -5000 ≤ bxB w D c j ∧ bxB w D c j ≤ 5000 := by
    unfold bxB
    split
    · omega
    · split <;> omega
  unfold bxR bxT bxL
  omega
theorem bS_bd {w : Nat → Nat} {n : Nat} {D : List Nat} {c : Nat} (hs : SgsOK w n) (hD : ∀ y ∈ D, y < n ∧ Kd w y ≤ 1 ∧ Cl w y ≤ 60) (hc : c < (bg w D).length) (h65 : mks w D c ≤ 400) : ∀ j, j ≤ mks w D c →
    -10 ≤ (bS w D c j).1 ∧ (bS w D c j).1 ≤ 0 ∧ 0 ≤ (bS w D c j).2.1 ∧ (bS w D c j).2.1 ≤ 40 ∧ 0 ≤ (bS w D c j).2.2.1 ∧ (bS w D c j).2.2.1 ≤ 5010 ∧ -5000 ≤ (bS w D c j).2.2.2 ∧ (bS w D c j).2.2.2 ≤ 0 ∧ (tb w D c j).1 ≤ (bS w D c j).2.2.1 ∧ (bS w D c j).2.2.2 ≤ (tb w D c j).2 := by
  intro j
  induction j with
  | zero =>
    intro _
    have o3 := obf_le' hs hD hc (f := 3) (by omega) (by omega)
    have o4 := obf_le' hs hD hc (f := 4) (by omega) (by omega)
    unfold bS tb
    dsimp only
    omega
  | succ j ih =>
    intro hj
    obtain ⟨h1, h2, h3, h4, h5, h6, h7, h8, h9, h10⟩ := ih (by omega)
    have hx := bx_bd hs hD hc (j := j) (by omega) h65
    have ht : (tb w D c (j + 1)).1 ≤ (tb w D c j).1 ∨ (tb w D c (j + 1)).1 = bxT w D c j := by
      unfold bxT bxB
      show (if _ then _ else _) ≤ _ ∨ (if _ then _ else _) = _
      by_cases q : sgF w (bxm w D c j) 6 = 0
      · rw [if_pos q, if_pos q]; omega
      · rw [if_neg q]; omega
    have hb : (tb w D c j).2 ≤ (tb w D c (j + 1)).2 ∨ (tb w D c (j + 1)).2 = bxB w D c j := by
      unfold bxB
      show _ ≤ (if _ then _ else _) ∨ (if _ then _ else _) = _
      by_cases q : sgF w (bxm w D c j) 6 = 1
      · rw [if_pos q, if_neg (by omega), if_pos q]; omega
      · rw [if_neg q]; omega
    have e : bS w D c (j + 1) = (if bxL w D c j < (bS w D c j).1 then bxL w D c j else (bS w D c j).1, if (bS w D c j).2.1 < bxR w D c j then bxR w D c j else (bS w D c j).2.1, if (bS w D c j).2.2.1 < bxT w D c j then bxT w D c j else (bS w D c j).2.2.1, if bxB w D c j < (bS w D c j).2.2.2 then bxB w D c j else (bS w D c j).2.2.2) := rfl
    rw [e]
    dsimp only
    refine ⟨?_, ?_, ?_, ?_, ?_, ?_, ?_, ?_, ?_, ?_⟩ <;> split <;> omega
/-! the system's boxes -/
def BxAt (a : Nat) : Prop := a = 467 ∨ a = 478
theorem bx_refs {a : Nat} (h : BxAt a) : ms_rf a 0 = 3 ∧ ms_rf a 1 = a + 1 ∧ ms_rf a 2 = a + 3 ∧ ms_rf a 3 = a + 5 ∧ ms_rf a 4 = a + 7 ∧ ms_rf a 5 = a + 9 := by
  rcases h with rfl | rfl <;> decide +kernel
theorem bx_rws {a : Nat} (h : BxAt a) : RowAt (a + 1) 66 ∧ RowAt (a + 3) 66 ∧ RowAt (a + 5) 66 ∧ RowAt (a + 7) 66 ∧ RowAt (a + 9) 66 := by
  rcases h with rfl | rfl <;> exact ⟨⟨by decide +kernel, by decide +kernel, by omega⟩, ⟨by decide +kernel, by decide +kernel, by omega⟩, ⟨by decide +kernel, by decide +kernel, by omega⟩, ⟨by decide +kernel, by decide +kernel, by omega⟩, ⟨by decide +kernel, by decide +kernel, by omega⟩⟩
theorem bx_lo {a : Nat} (h : BxAt a) : 467 ≤ a ∧ a ≤ 478 := by rcases h with rfl | rfl <;> omega
def upTo {α : Type} (f : Nat → α) (j : Nat) : List α := (List.range j).map f
theorem upTo_succ {α : Type} (f : Nat → α) (j : Nat) : upTo f (j + 1) = upTo f j ++ [f j] := by
  unfold upTo
  rw [List.range_succ, List.map_append]
  rfl
theorem upTo_length {α : Type} (f : Nat → α) (j : Nat) : (upTo f j).length = j := by
  unfold upTo
  rw [List.length_map, List.length_range]
theorem upTo_get {α : Type} (f : Nat → α) (j k : Nat) (h : k < (upTo f j).length) : (upTo f j)[k] = f k := by simp [upTo]
/-- the rows of boxes behind j marks -/
def BxW (σ : MsSt) (a : Nat) (w : Nat → Nat) (D : List Nat) (c j : Nat) : Prop :=
  Rw cN σ (a + 1) 66 (upTo (bxm w D c) j) ∧ Rw cI σ (a + 3) 66 (upTo (bxL w D c) j) ∧ Rw cI σ (a + 5) 66 (upTo (bxR w D c) j) ∧ Rw cI σ (a + 7) 66 (upTo (bxB w D c) j) ∧ Rw cI σ (a + 9) 66 (upTo (bxT w D c) j) ∧
    ms_i σ a 8 = iZ (bS w D c j).1 ∧ ms_i σ a 9 = iZ (bS w D c j).2.1 ∧ ms_i σ a 10 = iZ (bS w D c j).2.2.1 ∧ ms_i σ a 11 = iZ (bS w D c j).2.2.2
theorem BxW.away {σ σ' : MsSt} {a : Nat} {w : Nat → Nat} {D : List Nat} {c j lo hi : Nat} (h : BxW σ a w D c j) (hF : Fr (In lo hi) σ σ') (hd : a + 11 ≤ lo ∨ hi ≤ a) : BxW σ' a w D c j := by
  obtain ⟨h1, h2, h3, h4, h5, h6, h7, h8, h9⟩ := h
  exact ⟨h1.away hF (by omega), h2.away hF (by omega), h3.away hF (by omega), h4.away hF (by omega), h5.away hF (by omega), (hF.at (by omega) _).trans h6, (hF.at (by omega) _).trans h7, (hF.at (by omega) _).trans h8, (hF.at (by omega) _).trans h9⟩
theorem Rw.si {α : Type} {e : α → Int} {σ : MsSt} {r N a k : Nat} {L : List α} {v : Int32} (h : Rw e σ r N L) (hd : r ≠ a) (hd2 : r + 1 ≠ a) : Rw e (ms_si σ a k v) r N L :=
  ⟨h.1, h.2.1, (i_si_ne (Or.inl hd)).trans h.2.2.1, fun j hj => (i_si_ne (Or.inl hd2)).trans (h.2.2.2 j hj)⟩
theorem c_widthOf {σ : MsSt} {w : Nat → Nat} {n c : Nat} {D : List Nat} (hs : SgsOK w n) (hc : ScRep σ 3 w n) (hD : ∀ y ∈ D, y < n ∧ Kd w y ≤ 1 ∧ Cl w y ≤ 60) (hcc : c < (bg w D).length) : f_X6_widthOf σ 3 (iZ (bsv w D (be w D c))) = some (iZ (obf w D c 3 : Int)) := by
  have hk := (be_lt hcc).2.2
  have ha := hD _ (List.getElem_mem hk)
  have h40 := hs.1
  unfold f_X6_widthOf bsv obf
  rw [getD_get hk]
  by_cases q : Kd w D[be w D c] = 1
  · rw [if_pos q, if_pos q, ieqT rfl im1 rfl]
    rfl
  · rw [if_neg q, if_neg q, ieqF rfl im1 (by omega) (by omega) (by omega) (by omega) (by omega), told_s (Or.inl rfl) (by omega), Option.bind_some, ((hc.2 _ ha.1).2.2.2.2.1 (by omega)).1]
theorem c_heightOf {σ : MsSt} {w : Nat → Nat} {n c a : Nat} {D : List Nat} (ha' : BxAt a) (hs : SgsOK w n) (hc : ScRep σ 3 w n) (hD : ∀ y ∈ D, y < n ∧ Kd w y ≤ 1 ∧ Cl w y ≤ 60) (hcc : c < (bg w D).length) : f_X0_heightOf σ a (iZ (bsv w D (be w D c))) = some (iZ (obf w D c 4 : Int)) := by
  have hk := (be_lt hcc).2.2
  have ha := hD _ (List.getElem_mem hk)
  have h40 := hs.1
  unfold f_X0_heightOf bsv obf
  rw [getD_get hk, (bx_refs ha').1]
  by_cases q : Kd w D[be w D c] = 1
  · rw [if_pos q, if_pos q, ieqT rfl im1 rfl]
    rfl
  · rw [if_neg q, if_neg q, ieqF rfl im1 (by omega) (by omega) (by omega) (by omega) (by omega), told_s (Or.inl rfl) (by omega), Option.bind_some, ((hc.2 _ ha.1).2.2.2.2.1 (by omega)).2.1]
theorem idiv2 {k : Nat} (h : k < 1000) : ms_idiv (iZ (k : Int)) 2 = some (iZ ((k / 2 : Nat) : Int)) := by
  have key : ∀ k : Nat, k < 1000 → ms_idiv (iZ (k : Int)) 2 = some (iZ ((k / 2 : Nat) : Int)) := by decide +kernel
  exact key k h
theorem c_anchorFor {σ : MsSt} {w : Nat → Nat} {n c a s : Nat} {D : List Nat} (ha' : BxAt a) (hs : SgsOK w n) (hc : ScRep σ 3 w n) (hD : ∀ y ∈ D, y < n ∧ Kd w y ≤ 1 ∧ Cl w y ≤ 60) (hcc : c < (bg w D).length) (hsd : s ≤ 2) :
    f_X0_anchorFor σ a (iZ (s : Int)) (iZ (bsv w D (be w D c))) = some (iZ (if s = 0 then (obf w D c 5 : Int) else if s = 1 then (obf w D c 6 : Int) else ((obf w D c 3 / 2 : Nat) : Int))) := by
  have hk := (be_lt hcc).2.2
  have ha := hD _ (List.getElem_mem hk)
  have h40 := hs.1
  unfold f_X0_anchorFor bsv obf
  rw [getD_get hk, (bx_refs ha').1]
  by_cases q : Kd w D[be w D c] = 1
  · simp only [if_pos q]
    rw [ieqT rfl im1 rfl]
    congr 2
    split
    · rfl
    · split <;> rfl
  · simp only [if_neg q]
    have hb := (hs.2.1 _ ha.1).1.2.1 (by omega)
    rw [ieqF rfl im1 (by omega) (by omega) (by omega) (by omega) (by omega), told_s (Or.inl rfl) (by omega), Option.bind_some, ((hc.2 _ ha.1).2.2.2.2.1 (by omega)).1, ((hc.2 _ ha.1).2.2.2.2.2.1 (by omega)).1, ((hc.2 _ ha.1).2.2.2.2.2.1 (by omega)).2]
    by_cases s2 : s = 2
    · rw [ieqT rfl i2 (by omega), idiv2 (by omega), if_neg (by omega), if_neg (by omega)]
      rfl
    · rw [ieqF rfl i2 (by omega) (by omega) (by omega) (by omega) (by omega)]
      by_cases s0 : s = 0
      · rw [ieqT rfl i0 (by omega), if_pos s0]
      · rw [ieqF rfl i0 (by omega) (by omega) (by omega) (by omega) (by omega), if_neg s0, if_pos (by omega)]
