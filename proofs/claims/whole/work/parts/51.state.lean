/-! the script as a row of numbers: 0 signs, 1 lines, 2 the line at hand, 3 .. 6 how many signs the lines have, 7 .. 246 their signs, from 247 on seven numbers a sign -/
def Kd (w : Nat → Nat) (s : Nat) : Nat := w (247 + 7 * s)
def Cl (w : Nat → Nat) (s : Nat) : Nat := w (247 + 7 * s + 1)
def sgF (w : Nat → Nat) (s f : Nat) : Nat := w (247 + 7 * s + f)
def ln (w : Nat → Nat) (l : Nat) : List Nat := (List.range (w (3 + l))).map fun p => w (7 + 60 * l + p)
theorem ln_length (w : Nat → Nat) (l : Nat) : (ln w l).length = w (3 + l) := by unfold ln; rw [List.length_map, List.length_range]
theorem ln_get (w : Nat → Nat) (l p : Nat) (h : p < (ln w l).length) : (ln w l)[p] = w (7 + 60 * l + p) := by
  simp [ln]
/-- the expansion -/
def exF (w : Nat → Nat) : Nat → Nat → List Nat
  | 0, s => [s]
  | k + 1, s => if Kd w s = 2 then exF w k (sgF w s 3) ++ [sgF w s 4] else [s]
def ex (w : Nat → Nat) (s : Nat) : List Nat := exF w s s
def SgOK (w : Nat → Nat) (s : Nat) : Prop :=
  Kd w s ≤ 2 ∧ (Kd w s = 0 → Cl w s = 0 ∧ 1 ≤ sgF w s 3 ∧ sgF w s 3 ≤ 20 ∧ 1 ≤ sgF w s 4 ∧ sgF w s 4 ≤ 20 ∧ sgF w s 5 ≤ 20 ∧ sgF w s 6 ≤ 20) ∧
    (Kd w s = 1 → 1 ≤ Cl w s ∧ Cl w s ≤ 60 ∧ 1 ≤ sgF w s 3 ∧ sgF w s 3 ≤ 9 ∧ 1 ≤ sgF w s 4 ∧ sgF w s 4 ≤ 9 ∧ sgF w s 5 ≤ 9 ∧ sgF w s 6 ≤ 2) ∧
    (Kd w s = 2 → Cl w s = 0 ∧ sgF w s 3 < s ∧ Kd w (sgF w s 3) ≠ 1 ∧ sgF w s 4 < s ∧ Kd w (sgF w s 4) = 1 ∧ sgF w s 5 ≤ 1)
/-- the signs below n -/
def SgsOK (w : Nat → Nat) (n : Nat) : Prop := n ≤ 40 ∧ (∀ s, s < n → SgOK w s ∧ (ex w s).length ≤ 6) ∧ ∀ s t, s < n → t < n → Kd w s = 1 → Kd w t = 1 → Cl w s = Cl w t → sgF w s 6 = sgF w t 6
def WF (w : Nat → Nat) : Prop :=
  SgsOK w (w 0) ∧ 1 ≤ w 1 ∧ w 1 ≤ 4 ∧ w 2 < w 1 ∧ (∀ l, l < 4 → w (3 + l) ≤ 60) ∧ (∀ l, l < 4 → w 1 ≤ l → w (3 + l) = 0) ∧ ∀ l p, l < 4 → p < w (3 + l) → w (7 + 60 * l + p) < w 0
theorem exF_stable {w : Nat → Nat} : ∀ (s : Nat), (∀ t, t ≤ s → Kd w t = 2 → sgF w t 3 < t) → ∀ k, s ≤ k → exF w k s = exF w s s := by
  intro s
  induction s using Nat.strongRecOn with
  | _ s ih =>
    intro h k hk
    by_cases h2 : Kd w s = 2
    · have hf := h s (Nat.le_refl _) h2
      obtain ⟨k', rfl⟩ : ∃ k', k = k' + 1 := ⟨k - 1, by omega⟩
      obtain ⟨s', rfl⟩ : ∃ s', s = s' + 1 := ⟨s - 1, by omega⟩
      show (if Kd w (s' + 1) = 2 then exF w k' (sgF w (s' + 1) 3) ++ [sgF w (s' + 1) 4] else [s' + 1]) = (if Kd w (s' + 1) = 2 then exF w s' (sgF w (s' + 1) 3) ++ [sgF w (s' + 1) 4] else [s' + 1])
      rw [if_pos h2, if_pos h2, ih _ hf (fun t ht => h t (by omega)) k' (by omega), ih _ hf (fun t ht => h t (by omega)) s' (by omega)]
    · cases k <;> cases s <;> simp [exF, h2]
theorem ex_pair {w : Nat → Nat} {s : Nat} (h : ∀ t, t ≤ s → Kd w t = 2 → sgF w t 3 < t) (h2 : Kd w s = 2) : ex w s = ex w (sgF w s 3) ++ [sgF w s 4] := by
  have hf := h s (Nat.le_refl _) h2
  obtain ⟨s', rfl⟩ : ∃ s', s = s' + 1 := ⟨s - 1, by omega⟩
  show (if Kd w (s' + 1) = 2 then exF w s' (sgF w (s' + 1) 3) ++ [sgF w (s' + 1) 4] else [s' + 1]) = _
  rw [if_pos h2, exF_stable _ (fun t ht => h t (by omega)) s' (by omega)]
  rfl
theorem ex_one {w : Nat → Nat} {s : Nat} (h2 : Kd w s ≠ 2) : ex w s = [s] := by
  unfold ex
  cases s <;> simp [exF, h2]
theorem SgsOK.desc {w : Nat → Nat} {n s : Nat} (h : SgsOK w n) (hs : s < n) : ∀ t, t ≤ s → Kd w t = 2 → sgF w t 3 < t := fun t ht h2 => ((h.2.1 t (by omega)).1.2.2.2 h2).2.1
theorem SgsOK.exPair {w : Nat → Nat} {n s : Nat} (h : SgsOK w n) (hs : s < n) (h2 : Kd w s = 2) : ex w s = ex w (sgF w s 3) ++ [sgF w s 4] := ex_pair (h.desc hs) h2
/-- an expansion: a mark alone, or a base with marks behind it -/
theorem SgsOK.shape {w : Nat → Nat} {n : Nat} (h : SgsOK w n) : ∀ s, s < n → (Kd w s = 1 ∧ ex w s = [s]) ∨ (Kd w s ≠ 1 ∧ ∃ b ms, ex w s = b :: ms ∧ b < n ∧ Kd w b = 0 ∧ ∀ m ∈ ms, m < n ∧ Kd w m = 1) := by
  intro s
  induction s using Nat.strongRecOn with
  | _ s ih =>
    intro hs
    obtain ⟨⟨k1, k2, k3, k4⟩, k5⟩ := h.2.1 s hs
    by_cases c1 : Kd w s = 1
    · exact Or.inl ⟨c1, ex_one (by omega)⟩
    · refine Or.inr ⟨c1, ?_⟩
      by_cases c2 : Kd w s = 2
      · obtain ⟨q1, q2, q3, q4, q5, q6⟩ := k4 c2
        rcases ih _ q2 (by omega) with ⟨g, _⟩ | ⟨_, b, ms, e1, e2, e3, e4⟩
        · exact absurd g q3
        · refine ⟨b, ms ++ [sgF w s 4], by rw [h.exPair hs c2, e1]; rfl, e2, e3, fun m hm => ?_⟩
          rcases List.mem_append.mp hm with hm | hm
          · exact e4 m hm
          · rw [List.mem_singleton.mp hm]
            exact ⟨by omega, q5⟩
      · exact ⟨s, [], ex_one c2, hs, by omega, fun m hm => by cases hm⟩
theorem SgsOK.exMem {w : Nat → Nat} {n s : Nat} (h : SgsOK w n) (hs : s < n) : ∀ x ∈ ex w s, x < n ∧ Kd w x ≤ 1 := by
  intro x hx
  rcases h.shape s hs with ⟨h1, e⟩ | ⟨_, b, ms, e, e2, e3, e4⟩
  · rw [e] at hx
    rw [List.mem_singleton.mp hx]
    exact ⟨hs, by omega⟩
  · rw [e] at hx
    rcases List.mem_cons.mp hx with rfl | hx
    · exact ⟨e2, by omega⟩
    · exact ⟨(e4 x hx).1, by have := (e4 x hx).2; omega⟩
theorem SgsOK.exPos {w : Nat → Nat} {n s : Nat} (h : SgsOK w n) (hs : s < n) : 1 ≤ (ex w s).length := by
  rcases h.shape s hs with ⟨_, e⟩ | ⟨_, b, ms, e, _⟩ <;> rw [e] <;> simp
/-! what the system holds -/
def cN : Nat → Int := fun x => (x : Int)
/-- the cells of a sign -/
def SgRep (σ : MsSt) (a : Nat) (w : Nat → Nat) (s : Nat) : Prop :=
  ms_i σ (a + 2 + 3 * s) 1 = iZ (Kd w s : Int) ∧ ms_i σ (a + 2 + 3 * s) 3 = iZ ((ex w s).length : Int) ∧ ms_i σ (a + 2 + 3 * s) 4 = iZ (Cl w s : Int) ∧ Rw cN σ (a + 3 + 3 * s) 6 (ex w s) ∧
    (Kd w s ≠ 2 → ms_i σ (a + 2 + 3 * s) 6 = iZ (sgF w s 3 : Int) ∧ ms_i σ (a + 2 + 3 * s) 7 = iZ (sgF w s 4 : Int) ∧ ms_i σ (a + 2 + 3 * s) 13 = iZ 0) ∧
    (Kd w s = 0 → ms_i σ (a + 2 + 3 * s) 8 = iZ (sgF w s 5 : Int) ∧ ms_i σ (a + 2 + 3 * s) 9 = iZ (sgF w s 6 : Int)) ∧
    (Kd w s = 1 → ms_i σ (a + 2 + 3 * s) 10 = iZ (sgF w s 5 : Int) ∧ ms_i σ (a + 2 + 3 * s) 5 = iZ (sgF w s 6 : Int)) ∧
    (Kd w s = 2 → ms_i σ (a + 2 + 3 * s) 11 = iZ (sgF w s 3 : Int) ∧ ms_i σ (a + 2 + 3 * s) 12 = iZ (sgF w s 4 : Int) ∧ ms_i σ (a + 2 + 3 * s) 13 = iZ (sgF w s 5 : Int))
/-- a script of the system (at 3: that of the object; at 140: the draft) -/
def ScRep (σ : MsSt) (a : Nat) (w : Nat → Nat) (n : Nat) : Prop := ms_i σ a 4 = iZ (n : Int) ∧ ∀ s, s < n → SgRep σ a w s
def LnRep (σ : MsSt) (a : Nat) (w : Nat → Nat) : Prop := ∀ l, l < 4 → Rw cN σ (a + 123 + 2 * l) 60 (ln w l)
def NowRep (σ : MsSt) (a : Nat) (w : Nat → Nat) : Prop := ScRep σ a w (w 0) ∧ ms_i σ a 5 = iZ (w 1 : Int) ∧ ms_i σ a 6 = iZ (w 2 : Int) ∧ LnRep σ a w
theorem SgRep.away {σ σ' : MsSt} {a : Nat} {w : Nat → Nat} {s lo hi : Nat} (h : SgRep σ a w s) (hF : Fr (In lo hi) σ σ') (hd : a + 5 + 3 * s ≤ lo ∨ hi ≤ a + 2 + 3 * s) : SgRep σ' a w s := by
  obtain ⟨h1, h2, h3, h4, h5, h6, h7, h8⟩ := h
  have q : ∀ k, ms_i σ' (a + 2 + 3 * s) k = ms_i σ (a + 2 + 3 * s) k := fun k => hF.at (by omega) k
  refine ⟨by rw [q]; exact h1, by rw [q]; exact h2, by rw [q]; exact h3, h4.away hF (by omega), fun c => ?_, fun c => ?_, fun c => ?_, fun c => ?_⟩
  · rw [q, q, q]; exact h5 c
  · rw [q, q]; exact h6 c
  · rw [q, q]; exact h7 c
  · rw [q, q, q]; exact h8 c
theorem ScRep.away {σ σ' : MsSt} {a : Nat} {w : Nat → Nat} {n lo hi : Nat} (h : ScRep σ a w n) (hF : Fr (In lo hi) σ σ') (hn : n ≤ 40) (hd : a + 122 ≤ lo ∨ hi ≤ a) : ScRep σ' a w n :=
  ⟨by rw [hF.at (by omega)]; exact h.1, fun s hs => (h.2 s hs).away hF (by omega)⟩
theorem LnRep.away {σ σ' : MsSt} {a : Nat} {w : Nat → Nat} {lo hi : Nat} (h : LnRep σ a w) (hF : Fr (In lo hi) σ σ') (hd : a + 131 ≤ lo ∨ hi ≤ a + 123) : LnRep σ' a w :=
  fun l hl => (h l hl).away hF (by omega)
theorem NowRep.away {σ σ' : MsSt} {a : Nat} {w : Nat → Nat} {lo hi : Nat} (h : NowRep σ a w) (hF : Fr (In lo hi) σ σ') (hn : w 0 ≤ 40) (hd : a + 136 ≤ lo ∨ hi ≤ a) : NowRep σ' a w :=
  ⟨h.1.away hF hn (by omega), by rw [hF.at (by omega)]; exact h.2.1, by rw [hF.at (by omega)]; exact h.2.2.1, h.2.2.2.away hF (by omega)⟩
/-! where things lie -/
def ScAt (a : Nat) : Prop := a = 3 ∨ a = 140
theorem sc_refs {a : Nat} (h : ScAt a) : ms_rf a 0 = a + 1 ∧ ms_rf a 1 = a + 122 ∧ ms_rf a 2 = a + 131 ∧ ms_rf a 3 = a + 134 ∧ ms_ln (a + 1) = 40 ∧ ms_ln (a + 122) = 4 := by
  rcases h with rfl | rfl <;> exact ⟨by decide +kernel, by decide +kernel, by decide +kernel, by decide +kernel, by decide +kernel, by decide +kernel⟩
theorem sc_sign {a s : Nat} (h : ScAt a) (hs : s < 40) : ms_rf (a + 1) s = a + 2 + 3 * s ∧ ms_rf (a + 2 + 3 * s) 0 = a + 3 + 3 * s ∧ RowAt (a + 3 + 3 * s) 6 := by
  have h3 : ∀ s, s < 40 → ms_rf (3 + 1) s = 3 + 2 + 3 * s ∧ ms_rf (3 + 2 + 3 * s) 0 = 3 + 3 + 3 * s ∧ ms_rf (3 + 3 + 3 * s) 0 = 3 + 3 + 3 * s + 1 ∧ ms_ln (3 + 3 + 3 * s + 1) = 6 := by decide +kernel
  have h4 : ∀ s, s < 40 → ms_rf (140 + 1) s = 140 + 2 + 3 * s ∧ ms_rf (140 + 2 + 3 * s) 0 = 140 + 3 + 3 * s ∧ ms_rf (140 + 3 + 3 * s) 0 = 140 + 3 + 3 * s + 1 ∧ ms_ln (140 + 3 + 3 * s + 1) = 6 := by decide +kernel
  rcases h with rfl | rfl
  · obtain ⟨q1, q2, q3, q4⟩ := h3 s hs
    exact ⟨q1, q2, q3, q4, by omega⟩
  · obtain ⟨q1, q2, q3, q4⟩ := h4 s hs
    exact ⟨q1, q2, q3, q4, by omega⟩
theorem sc_line {a l : Nat} (h : ScAt a) (hl : l < 4) : ms_rf (a + 122) l = a + 123 + 2 * l ∧ RowAt (a + 123 + 2 * l) 60 := by
  have h3 : ∀ l, l < 4 → ms_rf (3 + 122) l = 3 + 123 + 2 * l ∧ ms_rf (3 + 123 + 2 * l) 0 = 3 + 123 + 2 * l + 1 ∧ ms_ln (3 + 123 + 2 * l + 1) = 60 := by decide +kernel
  have h4 : ∀ l, l < 4 → ms_rf (140 + 122) l = 140 + 123 + 2 * l ∧ ms_rf (140 + 123 + 2 * l) 0 = 140 + 123 + 2 * l + 1 ∧ ms_ln (140 + 123 + 2 * l + 1) = 60 := by decide +kernel
  rcases h with rfl | rfl
  · obtain ⟨q1, q2, q3⟩ := h3 l hl
    exact ⟨q1, q2, q3, by omega⟩
  · obtain ⟨q1, q2, q3⟩ := h4 l hl
    exact ⟨q1, q2, q3, by omega⟩
theorem told_s {σ : MsSt} {a s : Nat} (h : ScAt a) (hs : s < 40) : f_X6_told σ a (iZ (s : Int)) = some (a + 2 + 3 * s) := by
  obtain ⟨r0, r1, r2, r3, r4, r5⟩ := sc_refs h
  unfold f_X6_told
  rw [iltF rfl i0 (by omega) (by omega) (by omega), r0, r4, iltT rfl (iZ_nat 40) (by omega) (by omega) (by omega), ala_iZ (by omega) (by omega), (sc_sign h hs).1]
  rfl
theorem told_none {σ : MsSt} {a : Nat} (h : ScAt a) : f_X6_told σ a (iZ (-1)) = some (a + 131) := by
  obtain ⟨r0, r1, r2, r3, r4, r5⟩ := sc_refs h
  unfold f_X6_told
  rw [iltT rfl i0 (by omega) (by omega) (by omega), r2]
theorem lineAt_s {σ : MsSt} {a l : Nat} (h : ScAt a) (hl : l < 4) : f_X6_lineAt σ a (iZ (l : Int)) = some (a + 123 + 2 * l) := by
  obtain ⟨r0, r1, r2, r3, r4, r5⟩ := sc_refs h
  unfold f_X6_lineAt
  rw [iltF rfl i0 (by omega) (by omega) (by omega), r1, r5, iltT rfl (iZ_nat 4) (by omega) (by omega) (by omega), ala_iZ (by omega) (by omega), (sc_line h hl).1]
  rfl
section Sc
variable {σ : MsSt} {a n s : Nat} {w : Nat → Nat}
theorem kindOf_s (h : ScRep σ a w n) (ha : ScAt a) (hs : s < n) (hn : n ≤ 40) : f_X6_kindOf σ a (iZ (s : Int)) = some (iZ (Kd w s : Int)) := by
  unfold f_X6_kindOf
  rw [told_s ha (by omega), Option.bind_some, (h.2 s hs).1]
theorem classOf_s (h : ScRep σ a w n) (ha : ScAt a) (hs : s < n) (hn : n ≤ 40) : f_X6_classOf σ a (iZ (s : Int)) = some (iZ (Cl w s : Int)) := by
  unfold f_X6_classOf
  rw [told_s ha (by omega), Option.bind_some, (h.2 s hs).2.2.1]
end Sc
/-! the reference's row -/
def Mw (σ : MsSt) (a : Nat) (w : Nat → Nat) : Prop := ∀ k, k < 527 → ms_i σ a k = iZ (w k : Int)
theorem Mw.fr {σ σ' : MsSt} {a : Nat} {w : Nat → Nat} {P : Nat → Nat → Prop} (h : Mw σ a w) (hF : Fr P σ σ') (hp : ∀ k, ¬ P a k) : Mw σ' a w := fun k hk => (hF.1 a k (hp k)).trans (h k hk)
def MwAt (a : Nat) : Prop := a = 494 ∨ a = 495
theorem mw_ln {a : Nat} (h : MwAt a) : ms_ln a = 527 := by rcases h with rfl | rfl <;> decide +kernel
theorem mw_get {σ : MsSt} {a : Nat} {w : Nat → Nat} (h : Mw σ a w) (ha : MwAt a) {z : Int} {k : Nat} (hz : z = (k : Int)) (hk : k < 527) : ms_ald σ a (iZ z) = some (iZ (w k : Int)) := by
  rw [ald_z hz (by rw [mw_ln ha]; exact hk) (by rw [mw_ln ha]; omega), h k hk]
theorem of_s {σ : MsSt} (s f : Int) : f_X12_of σ (iZ s) (iZ f) = some (iZ (247 + 7 * s + f)) := by
  unfold f_X12_of
  rw [i247, i7, iZ_mul, iZ_add, iZ_add]
theorem spot_s {σ : MsSt} (l p : Int) : f_X12_spot σ (iZ l) (iZ p) = some (iZ (7 + 60 * l + p)) := by
  unfold f_X12_spot
  rw [i60, i7, iZ_mul, iZ_add, iZ_add]
theorem of_0 {σ : MsSt} (s : Int) : f_X12_of σ (iZ s) 0 = some (iZ (247 + 7 * s)) := (of_s s 0).trans (by rw [Int.add_zero])
theorem of_1 {σ : MsSt} (s : Int) : f_X12_of σ (iZ s) 1 = some (iZ (247 + 7 * s + 1)) := of_s s 1
theorem of_3 {σ : MsSt} (s : Int) : f_X12_of σ (iZ s) 3 = some (iZ (247 + 7 * s + 3)) := of_s s 3
theorem of_4 {σ : MsSt} (s : Int) : f_X12_of σ (iZ s) 4 = some (iZ (247 + 7 * s + 4)) := of_s s 4
theorem of_5 {σ : MsSt} (s : Int) : f_X12_of σ (iZ s) 5 = some (iZ (247 + 7 * s + 5)) := of_s s 5
theorem of_6 {σ : MsSt} (s : Int) : f_X12_of σ (iZ s) 6 = some (iZ (247 + 7 * s + 6)) := of_s s 6
theorem m_rf0 : ms_rf 493 0 = 494 := by decide +kernel
theorem m_rf1 : ms_rf 493 1 = 495 := by decide +kernel
theorem m_rf2 : ms_rf 493 2 = 496 := by decide +kernel
theorem m_rf3 : ms_rf 493 3 = 497 := by decide +kernel
theorem m_rf4 : ms_rf 493 4 = 498 := by decide +kernel
theorem m_rf5 : ms_rf 493 5 = 499 := by decide +kernel
theorem m_rf9 : ms_rf 493 9 = 500 := by decide +kernel
theorem m_rf10 : ms_rf 493 10 = 501 := by decide +kernel
theorem m_rf13 : ms_rf 493 13 = 502 := by decide +kernel
theorem m_rf14 : ms_rf 493 14 = 503 := by decide +kernel
theorem m_rf16 : ms_rf 493 16 = 504 := by decide +kernel
theorem m_rf18 : ms_rf 493 18 = 505 := by decide +kernel
theorem m_rf19 : ms_rf 493 19 = 507 := by decide +kernel
theorem m_rf20 : ms_rf 493 20 = 509 := by decide +kernel
theorem m_rf21 : ms_rf 493 21 = 510 := by decide +kernel
theorem m_rf24 : ms_rf 493 24 = 511 := by decide +kernel
theorem m_rf26 : ms_rf 493 26 = 512 := by decide +kernel
theorem m_rf36 : ms_rf 493 36 = 513 := by decide +kernel
theorem m_rf37 : ms_rf 493 37 = 514 := by decide +kernel
theorem m_rf38 : ms_rf 493 38 = 515 := by decide +kernel
theorem m_rf39 : ms_rf 493 39 = 516 := by decide +kernel
theorem m_rfB : ms_rf 505 0 = 506 := by decide +kernel
theorem m_rfC : ms_rf 507 0 = 508 := by decide +kernel
theorem m_ln : ms_ln 494 = 527 ∧ ms_ln 495 = 527 ∧ ms_ln 496 = 527 ∧ ms_ln 497 = 5270 ∧ ms_ln 498 = 160 ∧ ms_ln 499 = 160 ∧ ms_ln 500 = 6 ∧ ms_ln 501 = 361 ∧ ms_ln 502 = 361 ∧ ms_ln 503 = 361 ∧ ms_ln 504 = 362 ∧ ms_ln 506 = 1444 ∧ ms_ln 508 = 1444 ∧ ms_ln 509 = 361 ∧ ms_ln 510 = 362 ∧ ms_ln 511 = 2166 ∧ ms_ln 512 = 900 ∧ ms_ln 513 = 5 ∧ ms_ln 514 = 6 ∧ ms_ln 515 = 200 ∧ ms_ln 516 = 200 := by decide +kernel
section Mo
variable {σ : MsSt} {n s : Nat} {w : Nat → Nat}
def b01 (p : Prop) [Decidable p] : Int32 := if p then 1 else 0
theorem b01_z {p : Prop} [Decidable p] : (b01 p = 0) = ¬ p := by
  unfold b01
  by_cases h : p
  · rw [if_pos h]; simp [h]
  · rw [if_neg h]; simp [h]
theorem ib01 {α : Type} {P : Prop} [Decidable P] {p q : α} [Decidable (b01 P = 0)] : (if b01 P = 0 then p else q) = if P then q else p := by
  by_cases h : P
  · rw [if_pos h, if_neg (by rw [b01_z]; exact fun g => g h)]
  · rw [if_neg h, if_pos (by rw [b01_z]; exact h)]
theorem ibT {α : Type} {P : Prop} [Decidable P] {p q : α} [Decidable (b01 P = 0)] (h : P) : (if b01 P = 0 then p else q) = q := by rw [ib01, if_pos h]
theorem ibF {α : Type} {P : Prop} [Decidable P] {p q : α} [Decidable (b01 P = 0)] (h : ¬ P) : (if b01 P = 0 then p else q) = p := by rw [ib01, if_neg h]
theorem bz_b01 {p : Prop} [Decidable p] : ms_bz (b01 p) = some (b01 p) := by
  unfold ms_bz b01
  by_cases h : p
  · rw [if_pos h]; rfl
  · rw [if_neg h]; rfl
theorem isOfKind_s (h : Mw σ 494 w) (hs : s < 40) {k : Nat} (hk : k < 1000) (hb : Kd w s < 1000) : f_X12_isOfKind σ 493 (iZ (s : Int)) (iZ (k : Int)) = some (b01 (Kd w s = k)) := by
  unfold f_X12_isOfKind
  rw [of_0, Option.bind_some, m_rf0, mw_get h (Or.inl rfl) (k := 247 + 7 * s) (by omega) (by omega), Option.bind_some]
  show (if iZ (Kd w s : Int) = iZ (k : Int) then _ else _) = _
  unfold b01
  by_cases q : Kd w s = k
  · rw [ieqT rfl rfl (by omega), if_pos q]
  · rw [ieqF rfl rfl (by omega) (by omega) (by omega) (by omega) (by omega), if_neg q]
theorem isMark_s (h : Mw σ 494 w) (hs : s < 40) (hb : Kd w s < 1000) : f_X12_isMark σ 493 (iZ (s : Int)) = some (b01 (Kd w s = 1)) := by
  unfold f_X12_isMark
  have := isOfKind_s h hs (k := 1) (by omega) hb
  rw [show ((1 : Nat) : Int) = 1 from rfl, ← i1] at this
  rw [this, Option.bind_some, bz_b01]
  rfl
end Mo
