/-! bits of a long number, and where clusters begin -/
def mb (m : Int64) (c : Nat) : Bool := m.toBitVec.getLsbD c
theorem sh_amt : ∀ c : Nat, c < 64 → (((iZ (c : Int)).toInt64 &&& 63).toBitVec.smod 64).toNat = c := by decide +kernel
theorem mb_shl {c : Nat} (h : c < 64) (d : Nat) (hd : d < 64) : mb ((1 : Int64) <<< ((iZ (c : Int)).toInt64 &&& 63)) d = decide (d = c) := by
  have key : ∀ c : Nat, c < 64 → ((1 : Int64) <<< ((iZ (c : Int)).toInt64 &&& 63)).toBitVec = BitVec.ofNat 64 (2 ^ c) := by decide +kernel
  unfold mb
  rw [key c h, BitVec.getLsbD_ofNat]
  simp [hd, Nat.testBit_two_pow]
  exact eq_comm
theorem mb_or (x y : Int64) (d : Nat) : mb (x ||| y) d = (mb x d || mb y d) := by
  unfold mb
  rw [Int64.toBitVec_or, BitVec.getLsbD_or]
theorem mb_and (x y : Int64) (d : Nat) : mb (x &&& y) d = (mb x d && mb y d) := by
  unfold mb
  rw [Int64.toBitVec_and, BitVec.getLsbD_and]
theorem mb_zero (d : Nat) : mb 0 d = false := by
  unfold mb
  simp
theorem mb_ext {x y : Int64} (h : ∀ d, d < 64 → mb x d = mb y d) : x = y := by
  rw [← Int64.toBitVec_inj]
  exact BitVec.eq_of_getLsbD_eq h
theorem shr_bit (m : Int64) {c : Nat} (h : c < 64) : ((m >>> ((iZ (c : Int)).toInt64 &&& 63)) &&& 1) = if mb m c = true then 1 else 0 := by
  have e : ((m >>> ((iZ (c : Int)).toInt64 &&& 63)) &&& 1).toBitVec = (m.toBitVec.sshiftRight c) &&& 1#64 := by
    rw [Int64.toBitVec_and, Int64.toBitVec_shiftRight, BitVec.sshiftRight']
    rw [sh_amt c h]
    rfl
  rw [← Int64.toBitVec_inj, e]
  apply BitVec.eq_of_getLsbD_eq
  intro i hi
  rw [BitVec.getLsbD_and, BitVec.getLsbD_sshiftRight]
  by_cases i0 : i = 0
  · subst i0
    by_cases q : mb m c = true
    · rw [if_pos q]
      unfold mb at q
      simp [h, q]
    · rw [if_neg q]
      have q' : m.toBitVec.getLsbD c = false := by
        unfold mb at q
        exact Bool.eq_false_iff.mpr q
      simp [h]
      rw [← BitVec.getLsbD_eq_getElem]
      exact q'
  · have h1 : (1#64).getLsbD i = false := by
      rw [BitVec.getLsbD_one]
      simp [i0]
    rw [h1, Bool.and_false]
    by_cases q : mb m c = true
    · rw [if_pos q]
      exact h1.symm
    · rw [if_neg q]
      simp
theorem cmp_bit (m : Int64) {c : Nat} (h : c < 64) {α : Type} {p q : α} [Decidable (lg_cmp ((m >>> ((iZ (c : Int)).toInt64 &&& 63)) &&& 1) 0 = 0)] : (if lg_cmp ((m >>> ((iZ (c : Int)).toInt64 &&& 63)) &&& 1) 0 = 0 then p else q) = if mb m c = true then q else p := by
  by_cases b : mb m c = true
  · rw [if_pos b, if_neg]
    rw [shr_bit m h, if_pos b]
    decide
  · rw [if_neg b, if_pos]
    rw [shr_bit m h, if_neg b]
    decide
/-! a row of the places that are so -/
theorem fl_lt {p : Nat → Bool} {n : Nat} : ∀ (i j : Nat) (hi : i < ((List.range n).filter p).length) (hj : j < ((List.range n).filter p).length), i < j → ((List.range n).filter p)[i] < ((List.range n).filter p)[j] := by
  have h : List.Pairwise (· < ·) ((List.range n).filter p) := List.Pairwise.filter p List.pairwise_lt_range
  exact fun i j hi hj hij => List.pairwise_iff_getElem.mp h i j hi hj hij
theorem fl_mem {p : Nat → Bool} {n i : Nat} (hi : i < ((List.range n).filter p).length) : ((List.range n).filter p)[i] < n ∧ p ((List.range n).filter p)[i] = true := by
  have h := List.getElem_mem hi
  rw [List.mem_filter, List.mem_range] at h
  exact h
theorem fl_find {p : Nat → Bool} {n k : Nat} (hk : k < n) (hp : p k = true) : ∃ j, ∃ hj : j < ((List.range n).filter p).length, ((List.range n).filter p)[j] = k := by
  have : k ∈ (List.range n).filter p := by rw [List.mem_filter, List.mem_range]; exact ⟨hk, hp⟩
  obtain ⟨j, hj, e⟩ := List.mem_iff_getElem.mp this
  exact ⟨j, hj, e⟩
def be (w : Nat → Nat) (D : List Nat) (c : Nat) : Nat := (bg w D ++ [D.length]).getD c 0
theorem be_in {w : Nat → Nat} {D : List Nat} {c : Nat} (h : c < (bg w D).length) : be w D c = (bg w D)[c] := by
  unfold be
  rw [List.getD_eq_getElem?_getD, List.getElem?_append_left h, List.getElem?_eq_getElem h]
  rfl
theorem be_end (w : Nat → Nat) (D : List Nat) : be w D (bg w D).length = D.length := by
  unfold be
  rw [List.getD_eq_getElem?_getD, List.getElem?_append_right (Nat.le_refl _)]
  simp
theorem be_lt {w : Nat → Nat} {D : List Nat} {c : Nat} (h : c < (bg w D).length) : be w D c < be w D (c + 1) ∧ be w D (c + 1) ≤ D.length ∧ be w D c < D.length := by
  have h1 : be w D c < D.length := by rw [be_in h]; exact (fl_mem h).1
  by_cases q : c + 1 < (bg w D).length
  · have h2 : be w D (c + 1) < D.length := by rw [be_in q]; exact (fl_mem q).1
    refine ⟨?_, by omega, h1⟩
    rw [be_in h, be_in q]
    exact fl_lt c (c + 1) h q (by omega)
  · have e : c + 1 = (bg w D).length := by omega
    rw [e, be_end]
    exact ⟨h1, Nat.le_refl _, h1⟩
theorem be_le {w : Nat → Nat} {D : List Nat} {c : Nat} (h : c ≤ (bg w D).length) : be w D c ≤ D.length := by
  by_cases q : c < (bg w D).length
  · exact Nat.le_of_lt (be_lt q).2.2
  · have e : c = (bg w D).length := by omega
    rw [e, be_end]
    exact Nat.le_refl _
theorem be_mono {w : Nat → Nat} {D : List Nat} {c d : Nat} (hd : d ≤ (bg w D).length) (h : c ≤ d) : be w D c ≤ be w D d := by
  induction h with
  | refl => exact Nat.le_refl _
  | @step d _ ih =>
    have h1 := ih (by omega)
    have h2 := (be_lt (c := d) (w := w) (D := D) (by omega)).1
    exact Nat.le_trans h1 (Nat.le_of_lt h2)
theorem be_zero (w : Nat → Nat) (D : List Nat) : be w D 0 = 0 := by
  by_cases q : 0 < (bg w D).length
  · have hl : 0 < D.length := Nat.lt_of_le_of_lt (Nat.zero_le _) (be_lt q).2.2
    obtain ⟨j, hj, e⟩ := fl_find (p := bgf w D) (n := D.length) (k := 0) hl (by simp [bgf])
    rw [be_in q]
    by_cases q2 : j = 0
    · subst q2
      exact e
    · have := fl_lt 0 j q hj (by omega)
      rw [e] at this
      omega
  · have e : 0 = (bg w D).length := by omega
    have h2 : be w D 0 = D.length := by
      conv => lhs; rw [e]
      exact be_end w D
    rw [h2]
    by_cases h3 : D.length = 0
    · exact h3
    · obtain ⟨j, hj, _⟩ := fl_find (p := bgf w D) (n := D.length) (k := 0) (by omega) (by simp [bgf])
      exact absurd (Nat.lt_of_le_of_lt (Nat.zero_le _) hj) q
theorem getD_get {D : List Nat} {k : Nat} (h : k < D.length) : D.getD k 0 = D[k] := by rw [List.getD_eq_getElem?_getD, List.getElem?_eq_getElem h]; rfl
/-- between two beginnings there are marks -/
theorem be_mark {w : Nat → Nat} {D : List Nat} {c k : Nat} (h : c < (bg w D).length) (h1 : be w D c < k) (h2 : k < be w D (c + 1)) : Kd w (D.getD k 0) = 1 := by
  have hk : k < D.length := Nat.lt_of_lt_of_le h2 (be_lt h).2.1
  by_cases q : bgf w D k = true
  · exfalso
    obtain ⟨j, hj, e⟩ := fl_find hk q
    rw [be_in h] at h1
    by_cases a : j ≤ c
    · by_cases b : j = c
      · subst b
        rw [← e] at h1
        exact Nat.lt_irrefl _ h1
      · have := fl_lt j c hj h (by omega)
        rw [e] at this
        exact absurd (Nat.lt_trans h1 this) (Nat.lt_irrefl _)
    · have q1 : c + 1 < (bg w D).length := Nat.lt_of_le_of_lt (by omega : c + 1 ≤ j) hj
      rw [be_in q1] at h2
      by_cases b : j = c + 1
      · subst b
        rw [← e] at h2
        exact Nat.lt_irrefl _ h2
      · have := fl_lt (c + 1) j q1 hj (by omega)
        rw [e] at this
        exact absurd (Nat.lt_trans h2 this) (Nat.lt_irrefl _)
  · unfold bgf at q
    simp at q
    exact q.2
theorem be_base {w : Nat → Nat} {D : List Nat} {c : Nat} (h : c < (bg w D).length) (h0 : 0 < be w D c) : Kd w (D.getD (be w D c) 0) ≠ 1 := by
  have hb : bgf w D (be w D c) = true := by rw [be_in h]; exact (fl_mem h).2
  unfold bgf at hb
  have : be w D c ≠ 0 := by omega
  simp [this] at hb
  exact hb
def fm (w : Nat → Nat) (D : List Nat) (c : Nat) : Nat := if Kd w (D.getD (be w D c) 0) = 1 then be w D c else be w D c + 1
theorem fm_le {w : Nat → Nat} {D : List Nat} {c : Nat} (h : c < (bg w D).length) : be w D c ≤ fm w D c ∧ fm w D c ≤ be w D (c + 1) := by
  have := (be_lt h).1
  unfold fm
  split <;> omega
/-- the marks of a cluster -/
theorem fm_mark {w : Nat → Nat} {D : List Nat} {c k : Nat} (h : c < (bg w D).length) (h1 : fm w D c ≤ k) (h2 : k < be w D (c + 1)) : Kd w (D.getD k 0) = 1 := by
  unfold fm at h1
  by_cases q : Kd w (D.getD (be w D c) 0) = 1
  · rw [if_pos q] at h1
    by_cases e : k = be w D c
    · rw [e]; exact q
    · exact be_mark h (by omega) h2
  · rw [if_neg q] at h1
    exact be_mark h (by omega) h2
/-- what the system holds of clusters -/
def FmR (σ : MsSt) (F : Nat) (w : Nat → Nat) (D : List Nat) : Prop := Rw cN σ (F + 3) 360 D ∧ Rw cN σ (F + 7) 60 (bg w D) ∧ Rw cI σ (F + 9) 60 ((bg w D).map (bsv w D))
theorem FmR.away {σ σ' : MsSt} {F : Nat} {w : Nat → Nat} {D : List Nat} {lo hi : Nat} (h : FmR σ F w D) (hF : Fr (In lo hi) σ σ') (hd : F + 11 ≤ lo ∨ hi ≤ F + 3 ∨ (F + 5 ≤ lo ∧ hi ≤ F + 7)) : FmR σ' F w D :=
  ⟨h.1.away hF (by omega), h.2.1.away hF (by omega), h.2.2.away hF (by omega)⟩
section Cl1
variable {σ : MsSt} {F : Nat} {w : Nat → Nat} {D : List Nat} {c : Nat}
theorem c_start (h : FmR σ F w D) (hc : c < (bg w D).length) : f_X5_get σ (F + 7) (iZ (c : Int)) = some (iZ (be w D c : Int)) := by
  rw [get_in h.2.1 hc, be_in hc]
  rfl
theorem c_base (h : FmR σ F w D) (hc : c < (bg w D).length) : f_X5_get σ (F + 9) (iZ (c : Int)) = some (iZ (bsv w D (be w D c))) := by
  rw [get_in h.2.2 (by rw [List.length_map]; exact hc), be_in hc, List.getElem_map]
  rfl
theorem c_endOf (h : FmR σ F w D) (hF : FmAt F) (hc : c < (bg w D).length) : f_X1_endOf σ F (iZ (c : Int)) = some (iZ (be w D (c + 1) : Int)) := by
  obtain ⟨r0, r1, r2, r3, r4, r5, r6⟩ := fm_refs hF
  have h1 := h.2.1.2.1
  have e : iZ (c : Int) + 1 = iZ ((c + 1 : Nat) : Int) := by rw [i1, iZ_add]; rfl
  unfold f_X1_endOf
  rw [r4, r2, e]
  by_cases q : c + 1 < (bg w D).length
  · rw [iltT rfl h.2.1.cnt (by omega) (by omega) (by omega), c_start h q]
    rfl
  · rw [iltF rfl h.2.1.cnt (by omega) (by omega) (by omega), h.1.cnt]
    have e2 : c + 1 = (bg w D).length := by omega
    rw [e2, be_end]
theorem c_firstMark (h : FmR σ F w D) (hF : FmAt F) (hc : c < (bg w D).length) (hn : ∀ y ∈ D, y < 1000) : f_X1_firstMark σ F (iZ (c : Int)) = some (iZ (fm w D c : Int)) := by
  obtain ⟨r0, r1, r2, r3, r4, r5, r6⟩ := fm_refs hF
  have hk := (be_lt hc).2.2
  have h1 := hn _ (List.getElem_mem hk)
  have hl := h.1.2.1
  unfold f_X1_firstMark
  rw [r5, r4, c_base h hc, Option.bind_some]
  unfold bsv fm
  by_cases q : Kd w (D.getD (be w D c) 0) = 1
  · rw [if_pos q, if_pos q, ieqT rfl im1 rfl, c_start h hc]
    rfl
  · rw [if_neg q, if_neg q, ieqF rfl im1 (by omega) (by omega) (by rw [getD_get hk]; omega) (by omega) (by omega), c_start h hc, Option.bind_some, i1, iZ_add]
    rfl
theorem c_marksIn (h : FmR σ F w D) (hF : FmAt F) (hc : c < (bg w D).length) (hn : ∀ y ∈ D, y < 1000) : f_X1_marksIn σ F (iZ (c : Int)) = some (iZ ((be w D (c + 1) - fm w D c : Nat) : Int)) := by
  have := (fm_le hc).2
  unfold f_X1_marksIn
  rw [c_endOf h hF hc, Option.bind_some, c_firstMark h hF hc hn, Option.bind_some, iZ_sub]
  congr 2
  omega
theorem c_sgn (h : FmR σ F w D) {k : Nat} (hk : k < D.length) : f_X5_get σ (F + 3) (iZ (k : Int)) = some (iZ ((D.getD k 0 : Nat) : Int)) := by
  rw [get_in h.1 hk, getD_get hk]
  rfl
end Cl1
