/-! a class that a mark may have; bestClass -/
section Bc
variable {σ : MsSt} {w : Nat → Nat}
theorem anyF_iff (P : Nat → Bool) : ∀ d k, anyF P k d = true ↔ ∃ t, k ≤ t ∧ t < k + d ∧ P t = true := by
  intro d
  induction d with
  | zero =>
    intro k
    constructor
    · intro h; exact absurd h (by simp [anyF])
    · rintro ⟨t, h1, h2, _⟩; omega
  | succ d ih =>
    intro k
    unfold anyF
    rw [Bool.or_eq_true, ih]
    constructor
    · rintro (h | ⟨t, h1, h2, h3⟩)
      · exact ⟨k, Nat.le_refl _, by omega, h⟩
      · exact ⟨t, by omega, by omega, h3⟩
    · rintro ⟨t, h1, h2, h3⟩
      by_cases q : t = k
      · left; rw [← q]; exact h3
      · right; exact ⟨t, by omega, by omega, h3⟩
theorem fsU_none (P : Nat → Bool) : ∀ n i, fsU P i n = -1 → ∀ t, i ≤ t → t < i + n → ¬ P t = true := by
  intro n
  induction n with
  | zero => intro i _ t h1 h2; omega
  | succ n ih =>
    intro i
    show (if P i = true then (i : Int) else fsU P (i + 1) n) = -1 → _
    by_cases q : P i = true
    · rw [if_pos q]; intro g; omega
    · rw [if_neg q]
      intro g t h1 h2
      by_cases e : t = i
      · rw [e]; exact q
      · exact ih (i + 1) g t (by omega) (by omega)
def clP (w : Nat → Nat) (s c t : Nat) : Bool := decide (t ≠ s ∧ Kd w t = 1 ∧ Cl w t = c)
def clQ (w : Nat → Nat) (s c t : Nat) : Bool := decide (t ≠ s ∧ Kd w t = 1 ∧ Cl w t = c ∧ sgF w t 6 ≠ sgF w s 6)
def mhB (w : Nat → Nat) (n s c : Nat) : Bool := !anyF (clQ w s c) 0 n
theorem c_sideOf {n s c : Nat} (hs : SgsOK w n) (hc : ScRep σ 3 w n) (hsn : s < n) (hc60 : c < 1000) : f_X6_sideOfClass σ 3 (iZ (c : Int)) (iZ (s : Int)) = some (iZ (if fsU (clP w s c) 0 n = -1 then -1 else (sgF w (fsU (clP w s c) 0 n).toNat 6 : Int))) := by
  have h40 := hs.1
  have key := fs_loop (f := fun n' i => f_X6_sideOfClass_2 σ n' 3 (iZ (c : Int)) (iZ (s : Int)) i) (o := fun z => some (iZ (sgF w z.toNat 6 : Int))) (e := some (-1)) (clP w s c) n ?_ ?_ n 0 ms_fuel (by omega) (by show _ < 100000; omega)
  · unfold f_X6_sideOfClass
    refine key.trans ?_
    by_cases q : fsU (clP w s c) 0 n = -1
    · rw [if_pos q, if_pos q]
      rfl
    · rw [if_neg q, if_neg q]
  · intro n' t ht
    have hk := (hs.2.1 t ht).1
    have hkb := hk.1
    have hR := hc.2 t ht
    have hC := hk.2.2.1
    show (if iZ (t : Int) < ms_i σ 3 4 then _ else _) = _
    rw [iltT rfl hc.1 (by omega) (by omega) (by omega), ieq rfl rfl (by omega) (by omega) (by omega) (by omega), kindOf_s hc (Or.inl rfl) ht h40, Option.bind_some, ieq rfl i1 (by omega) (by omega) (by omega) (by omega)]
    have e1 : iZ (t : Int) + 1 = iZ ((t : Int) + 1) := by rw [i1, iZ_add]
    rw [e1]
    unfold clP
    by_cases q1 : t = s
    · rw [if_pos (show (t : Int) = (s : Int) from by omega), if_neg (by simp [q1])]
    · rw [if_neg (show ¬ (t : Int) = (s : Int) from by omega)]
      by_cases q2 : Kd w t = 1
      · have hC1 := hC q2
        rw [if_pos (show ((Kd w t : Nat) : Int) = 1 from by omega), classOf_s hc (Or.inl rfl) ht h40, Option.bind_some, told_s (a := 3) (Or.inl rfl) (by omega), Option.bind_some, ieq rfl rfl (by omega) (by omega) (by omega) (by omega)]
        by_cases q3 : Cl w t = c
        · rw [if_pos (show ((Cl w t : Nat) : Int) = (c : Int) from by omega), if_pos (by simp [q1, q2, q3]), (hR.2.2.2.2.2.2.1 q2).2, Int.toNat_natCast]
        · rw [if_neg (show ¬ ((Cl w t : Nat) : Int) = (c : Int) from by omega), if_neg (by simp [q3])]
      · rw [if_neg (show ¬ ((Kd w t : Nat) : Int) = 1 from by omega), if_neg (by simp [q2])]
  · intro n'
    show (if iZ (n : Int) < ms_i σ 3 4 then _ else _) = _
    rw [iltF rfl hc.1 (by omega) (by omega) (by omega)]
theorem c_mayHave {n s c : Nat} (hs : SgsOK w n) (hc : ScRep σ 3 w n) (hsn : s < n) (hk1 : Kd w s = 1) (hc60 : c < 1000) : f_X6_mayHaveClass σ 3 (iZ (s : Int)) (iZ (c : Int)) = some (b01 (mhB w n s c = true)) := by
  have h40 := hs.1
  have h6s := ((hs.2.1 s hsn).1.2.2.1 hk1).2.2.2.2.2.2.2
  have hR := hc.2 s hsn
  unfold f_X6_mayHaveClass
  rw [c_sideOf hs hc hsn hc60, Option.bind_some, told_s (a := 3) (Or.inl rfl) (by omega), Option.bind_some, (hR.2.2.2.2.2.2.1 hk1).2]
  by_cases q : fsU (clP w s c) 0 n = -1
  · rw [if_pos q, ieqT rfl im1 rfl]
    have : mhB w n s c = true := by
      unfold mhB
      rw [Bool.not_eq_true', Bool.eq_false_iff]
      intro g
      obtain ⟨t, t1, t2, t3⟩ := (anyF_iff _ _ _).mp g
      have t4 := of_decide_eq_true t3
      exact fsU_none _ _ _ q t t1 t2 (decide_eq_true ⟨t4.1, t4.2.1, t4.2.2.1⟩)
    unfold b01
    rw [if_pos this]
  · have hb := fsU_lt (clP w s c) n 0
    have ht := of_decide_eq_true (fsU_true _ _ _ q)
    have htn : (fsU (clP w s c) 0 n).toNat < n := by omega
    have h6t := ((hs.2.1 _ htn).1.2.2.1 ht.2.1).2.2.2.2.2.2.2
    rw [if_neg q, ieqF rfl im1 (by omega) (by omega) (by omega) (by omega) (by omega), ieq rfl rfl (by omega) (by omega) (by omega) (by omega)]
    unfold b01
    by_cases q2 : sgF w (fsU (clP w s c) 0 n).toNat 6 = sgF w s 6
    · have : mhB w n s c = true := by
        unfold mhB
        rw [Bool.not_eq_true', Bool.eq_false_iff]
        intro g
        obtain ⟨t, t1, t2, t3⟩ := (anyF_iff _ _ _).mp g
        have t4 := of_decide_eq_true t3
        exact t4.2.2.2 ((hs.2.2 t _ (by omega) htn t4.2.1 ht.2.1 (t4.2.2.1.trans ht.2.2.symm)).trans q2)
      rw [if_pos this, if_pos (show ((sgF w (fsU (clP w s c) 0 n).toNat 6 : Nat) : Int) = ((sgF w s 6 : Nat) : Int) from by omega)]
    · have : ¬ mhB w n s c = true := by
        unfold mhB
        rw [Bool.not_eq_true', Bool.eq_false_iff]
        intro g
        exact g ((anyF_iff _ _ _).mpr ⟨(fsU (clP w s c) 0 n).toNat, by omega, by omega, decide_eq_true ⟨ht.1, ht.2.1, ht.2.2, q2⟩⟩)
      rw [if_neg this, if_neg (show ¬ ((sgF w (fsU (clP w s c) 0 n).toNat 6 : Nat) : Int) = ((sgF w s 6 : Nat) : Int) from by omega)]
/-- the reference, whatever class the sign itself has just now -/
theorem m_mayHave {n s c v : Nat} (hs : SgsOK w n) (hn : w 0 = n) (hw : Mw σ 494 (uw w (247 + 7 * s + 1) v)) (hsn : s < n) (hk1 : Kd w s = 1) (hc60 : c < 1000) : f_X12_mayHave σ 493 (iZ (s : Int)) (iZ (c : Int)) = some (b01 (mhB w n s c = true)) := by
  have h40 := hs.1
  have h6s := ((hs.2.1 s hsn).1.2.2.1 hk1).2.2.2.2.2.2.2
  have g0 : ms_ald σ 494 0 = some (iZ (n : Int)) := by
    have := mw_get hw (Or.inl rfl) (z := 0) (k := 0) rfl (by omega)
    rw [uw_ne (by omega), hn] at this
    exact this
  have gs : ∀ p f : Nat, p < 40 → f < 7 → (p ≠ s ∨ f ≠ 1) → ms_ald σ 494 (iZ (247 + 7 * (p : Int) + (f : Int))) = some (iZ (sgF w p f : Int)) := by
    intro p f hp hf h
    have := mw_get hw (Or.inl rfl) (z := 247 + 7 * (p : Int) + (f : Int)) (k := 247 + 7 * p + f) (by omega) (by omega)
    rw [uw_ne (by omega)] at this
    exact this
  unfold f_X12_mayHave
  refine (any_loop (f := fun n' k => f_X12_mayHave_2 σ n' 493 (iZ (s : Int)) (iZ (c : Int)) (iZ (k : Int))) (P := clQ w s c) (o1 := some 0) (o2 := some 1) n ?_ ?_ n 0 ms_fuel (by omega) (by show _ < 100000; omega)).trans ?_
  · intro n' t ht
    have hk := (hs.2.1 t ht).1
    have e1 : iZ (t : Int) + 1 = iZ ((t + 1 : Nat) : Int) := by rw [i1, iZ_add]; rfl
    show (ms_ald σ (ms_rf 493 0) 0).bind _ = _
    rw [m_rf0, g0, Option.bind_some, iltT rfl rfl (by omega) (by omega) (by omega), ieq rfl rfl (by omega) (by omega) (by omega) (by omega), e1]
    unfold clQ
    by_cases q1 : t = s
    · rw [if_pos (show (t : Int) = (s : Int) from by omega), if_neg (by simp [q1])]
    · have gk : f_X12_isMark σ 493 (iZ (t : Int)) = some (b01 (Kd w t = 1)) := by
        have := isMark_s hw (s := t) (by omega) (by unfold Kd; rw [uw_ne (by omega)]; have := hk.1; unfold Kd at this; omega)
        rw [show Kd (uw w (247 + 7 * s + 1) v) t = Kd w t from uw_ne (by omega)] at this
        exact this
      rw [if_neg (show ¬ (t : Int) = (s : Int) from by omega), gk, Option.bind_some, ib01]
      by_cases q2 : Kd w t = 1
      · have hC1 := hk.2.2.1 q2
        have gc : ms_ald σ 494 (iZ (247 + 7 * (t : Int) + 1)) = some (iZ (Cl w t : Int)) := gs t 1 (by omega) (by omega) (Or.inl q1)
        have ga : ms_ald σ 494 (iZ (247 + 7 * (t : Int) + 6)) = some (iZ (sgF w t 6 : Int)) := gs t 6 (by omega) (by omega) (Or.inl q1)
        have gb : ms_ald σ 494 (iZ (247 + 7 * (s : Int) + 6)) = some (iZ (sgF w s 6 : Int)) := gs s 6 (by omega) (by omega) (Or.inr (by omega))
        rw [if_pos q2, of_1, Option.bind_some, gc, Option.bind_some, ieq rfl rfl (by omega) (by omega) (by omega) (by omega)]
        by_cases q3 : Cl w t = c
        · rw [if_pos (show ((Cl w t : Nat) : Int) = (c : Int) from by omega), of_6, Option.bind_some, ga, Option.bind_some, of_6, Option.bind_some, gb, Option.bind_some, ieq rfl rfl (by omega) (by omega) (by omega) (by omega)]
          by_cases q4 : sgF w t 6 = sgF w s 6
          · rw [if_pos (show ((sgF w t 6 : Nat) : Int) = ((sgF w s 6 : Nat) : Int) from by omega), if_neg (by simp [q4])]
          · rw [if_neg (show ¬ ((sgF w t 6 : Nat) : Int) = ((sgF w s 6 : Nat) : Int) from by omega), if_pos (by simp [q1, q2, q3, q4])]
        · rw [if_neg (show ¬ ((Cl w t : Nat) : Int) = (c : Int) from by omega), if_neg (by simp [q3])]
      · rw [if_neg q2, if_neg (by simp [q2])]
  · intro n'
    show (ms_ald σ (ms_rf 493 0) 0).bind _ = _
    rw [m_rf0, g0, Option.bind_some, iltF rfl rfl (by omega) (by omega) (by omega)]
  · unfold mhB b01
    by_cases q : anyF (clQ w s c) 0 n = true
    · rw [if_pos q, q]
      rfl
    · rw [if_neg q, Bool.eq_false_iff.mpr q]
      rfl
end Bc
