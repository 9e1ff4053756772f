/-! the calls that ask signs -/
theorem anyF_snoc (P : Nat → Bool) : ∀ (d k : Nat), anyF P k (d + 1) = (anyF P k d || P (k + d)) := by
  intro d
  induction d with
  | zero => intro k; simp [anyF]
  | succ d ih =>
    intro k
    show (P k || anyF P (k + 1) (d + 1)) = ((P k || anyF P (k + 1) d) || P (k + (d + 1)))
    rw [ih, show k + 1 + d = k + (d + 1) from by omega, Bool.or_assoc]
def hasL (L : List Nat) (x : Nat) : Bool := anyF (fun p => decide (L.getD p 0 = x)) 0 L.length
def hasT (L : List Nat) (x k : Nat) : Bool := anyF (fun p => decide (L.getD p 0 = x)) 0 k
theorem hasT_succ (L : List Nat) (x k : Nat) : hasT L x (k + 1) = (hasT L x k || decide (L.getD k 0 = x)) := by
  unfold hasT
  rw [anyF_snoc, Nat.zero_add]
theorem c_contains {σ : MsSt} {r N x : Nat} {L : List Nat} (h : Rw cN σ r N L) (hx : x < 1000) (hL : ∀ y ∈ L, y < 1000) : f_X5_contains σ r (iZ (x : Int)) = some (b01 (hasL L x = true)) := by
  have hl := h.len
  have := any_loop (f := fun n k => f_X5_contains_2 σ n r (iZ (x : Int)) (iZ (k : Int))) (P := fun p => decide (L.getD p 0 = x)) (o1 := some 1) (o2 := some 0) L.length ?_ ?_ L.length 0 ms_fuel (by omega) (by show _ < 100000; omega)
  · unfold f_X5_contains
    refine this.trans ?_
    unfold b01 hasL
    split <;> rfl
  · intro n' k hk
    have hb := hL _ (List.getElem_mem hk)
    show (if iZ (k : Int) < ms_i σ r 1 then _ else _) = _
    rw [iltT rfl h.cnt (by omega) (by omega) (by omega), get_in h hk, Option.bind_some, getD_get hk]
    show (if iZ ((L[k] : Nat) : Int) = iZ (x : Int) then _ else _) = _
    rw [ieq rfl rfl (by omega) (by omega) (by omega) (by omega)]
    by_cases q : L[k] = x
    · rw [if_pos (by omega), if_pos (by simpa using q)]
    · rw [if_neg (by omega), if_neg (by simpa using q), i1, iZ_add]
      rfl
  · intro n'
    show (if iZ (L.length : Int) < ms_i σ r 1 then _ else _) = _
    rw [iltF rfl h.cnt (by omega) (by omega) (by omega)]
section Sg
variable {σ : MsSt} {w : Nat → Nat} {s : Nat}
theorem ln_lt (h : InvS σ w) {l : Nat} (hl : l < 4) : ∀ y ∈ ln w l, y < 1000 := fun y hy => by
  have h1 := (h.1.line hl).1 y hy
  have h2 := h.1.1.1
  omega
theorem ln_getD {l p : Nat} (hp : p < w (3 + l)) : (ln w l).getD p 0 = w (7 + 60 * l + p) := by
  rw [getD_get (by rw [ln_length]; exact hp), ln_get]
theorem c_countLines (h : InvS σ w) (hs : s < 1000) : f_X6_countLinesWith σ 3 (iZ (s : Int)) = some (iZ (cnt (fun l => hasL (ln w l) s) (w 1) : Int)) := by
  have h4 := h.1.2.2.1
  unfold f_X6_countLinesWith
  refine cnt_loop (f := fun n' a i => f_X6_countLinesWith_4 σ n' 3 (iZ (s : Int)) a i) (fun l => hasL (ln w l) s) (w 1) (by omega) (fun n' i a hi => ?_) (fun n' => ?_)
  · show (if iZ (i : Int) < ms_i σ 3 5 then _ else _) = _
    rw [iltT rfl h.2.1.2.1 (by omega) (by omega) (by omega), lineAt_s (Or.inl rfl) (by omega), Option.bind_some, c_contains (h.2.1.2.2.2 i (by omega)) hs (ln_lt h (by omega)), Option.bind_some, ib01]
    by_cases q : hasL (ln w i) s = true
    · rw [if_pos q, if_pos q, i1, iZ_add, iZ_add]
    · rw [if_neg q, if_neg q, i1, iZ_add]
  · show (if iZ (w 1 : Int) < ms_i σ 3 5 then _ else _) = _
    rw [iltF rfl h.2.1.2.1 (by omega) (by omega) (by omega)]
theorem m_linesWith (h : InvS σ w) (hs : s < 1000) : f_X12_linesWith σ 493 (iZ (s : Int)) = some (iZ (cnt (fun l => hasL (ln w l) s) (w 1) : Int)) := by
  have h4 := h.1.2.2.1
  have hw := h.2.2
  have e1 : ms_ald σ 494 1 = some (iZ (w 1 : Int)) := mw_get hw (Or.inl rfl) (z := 1) (k := 1) rfl (by omega)
  have inner : ∀ (k4 : Nat → Int32 → Int32 → Int32 → Option Int32) (l : Nat) (a : Int), l < 4 → f_X12_linesWith_20 σ k4 ms_fuel 493 (iZ (s : Int)) (iZ a) (iZ (l : Int)) 0 0 = k4 493 (iZ (s : Int)) (iZ (if hasL (ln w l) s = true then a + 1 else a)) (iZ ((l : Int) + 1)) := by
    intro k4 l a hl
    have h60 := h.1.2.2.2.2.1 l hl
    have hlen := ln_length w l
    have := lpx (S := Int32 × Int32) (f := fun n s' => f_X12_linesWith_20 σ k4 n 493 (iZ (s : Int)) (iZ a) (iZ (l : Int)) s'.1 s'.2) (o := k4 493 (iZ (s : Int)) (iZ (if hasL (ln w l) s = true then a + 1 else a)) (iZ ((l : Int) + 1)))
      (fun i s' => s'.2 = iZ (i : Int) ∧ i ≤ w (3 + l) ∧ s'.1 = b01 (hasT (ln w l) s i = true)) (w (3 + l)) ?_ ?_ (w (3 + l)) 0 (0, 0) ms_fuel ⟨rfl, Nat.zero_le _, by unfold b01 hasT; rfl⟩ (by omega) (by show _ < 100000; omega)
    · exact this
    · rintro i ⟨b, x⟩ ⟨hx, hi, hb⟩ hlt
      dsimp only at hx hb ⊢
      subst hx; subst hb
      refine ⟨(b01 (hasT (ln w l) s (i + 1) = true), iZ ((i + 1 : Nat) : Int)), ⟨rfl, hlt, rfl⟩, fun n' => ?_⟩
      have hin := h.1.2.2.2.2.2.2 l i hl hlt
      have h40 := h.1.1.1
      show (ms_ald σ (ms_rf 493 0) (3 + iZ (l : Int))).bind _ = _
      rw [m_rf0, i3, iZ_add, mw_get hw (Or.inl rfl) (k := 3 + l) (by omega) (by omega), Option.bind_some, iltT rfl rfl (by omega) (by omega) (by omega), ib01, spot_s, Option.bind_some, mw_get hw (Or.inl rfl) (k := 7 + 60 * l + i) (by omega) (by omega), Option.bind_some, hasT_succ, ln_getD hlt]
      have e : iZ (i : Int) + 1 = iZ ((i + 1 : Nat) : Int) := by rw [i1, iZ_add]; rfl
      rw [e]
      by_cases q : hasT (ln w l) s i = true
      · rw [if_pos q, q]
        rfl
      · rw [if_neg q, ieq rfl rfl (by omega) (by omega) (by omega) (by omega)]
        have q' : hasT (ln w l) s i = false := by simpa using q
        rw [q', Bool.false_or]
        by_cases q2 : w (7 + 60 * l + i) = s
        · rw [if_pos (by omega)]
          unfold b01
          rw [if_pos (by simpa using q2)]
        · rw [if_neg (by omega)]
          unfold b01
          rw [if_neg (by simpa using q2)]
    · rintro ⟨b, x⟩ ⟨hx, hi, hb⟩ n'
      dsimp only at hx hb ⊢
      subst hx; subst hb
      show (ms_ald σ (ms_rf 493 0) (3 + iZ (l : Int))).bind _ = _
      have eh : hasL (ln w l) s = hasT (ln w l) s (w (3 + l)) := by unfold hasL hasT; rw [hlen]
      rw [m_rf0, i3, iZ_add, mw_get hw (Or.inl rfl) (k := 3 + l) (by omega) (by omega), Option.bind_some, iltF rfl rfl (by omega) (by omega) (by omega), ib01, eh]
      by_cases q : hasT (ln w l) s (w (3 + l)) = true
      · rw [if_pos q, if_pos q, i1, iZ_add, iZ_add]
      · rw [if_neg q, if_neg q, i0, i1, iZ_add, iZ_add, Int.add_zero]
  unfold f_X12_linesWith
  refine cnt_loop (f := fun n' a i => f_X12_linesWith_4 σ n' 493 (iZ (s : Int)) a i) (fun l => hasL (ln w l) s) (w 1) (by omega) (fun n' i a hi => ?_) (fun n' => ?_)
  · show (ms_ald σ (ms_rf 493 0) 1).bind _ = _
    rw [m_rf0, e1, Option.bind_some, iltT rfl rfl (by omega) (by omega) (by omega), inner _ i a (by omega)]
  · show (ms_ald σ (ms_rf 493 0) 1).bind _ = _
    rw [m_rf0, e1, Option.bind_some, iltF rfl rfl (by omega) (by omega) (by omega)]
/-- a number of a sign, as the system tells it -/
def nmb (w : Nat → Nat) (s k : Nat) : Nat := if k = 2 then (ex w s).length else w (247 + 7 * s + k)
theorem c_number (h : InvS σ w) (hs : s < w 0) {k : Nat} (hk : k ≤ 6) (hk6 : ¬ (k = 6 ∧ Kd w s = 2)) : f_X7_number σ (3 + 2 + 3 * s) (iZ (k : Int)) = some (iZ (nmb w s k : Int)) := by
  have hsg := h.1.1
  have h40 := hsg.1
  obtain ⟨g1, g2, g3, g4, g5, g6, g7, g8⟩ := h.2.1.1.2 s hs
  obtain ⟨kk1, kk2, kk3, kk4⟩ := (hsg.2.1 s hs).1
  have hkk : k = 0 ∨ k = 1 ∨ k = 2 ∨ k = 3 ∨ k = 4 ∨ k = 5 ∨ k = 6 := by omega
  have h2 : ∀ (o1 o2 : Option Int32), (if ms_i σ (3 + 2 + 3 * s) 1 = 2 then o1 else o2) = if Kd w s = 2 then o1 else o2 := fun o1 o2 => by
    rw [ieq g1 i2 (by omega) (by omega) (by omega) (by omega)]
    by_cases q : Kd w s = 2
    · rw [if_pos (by omega), if_pos q]
    · rw [if_neg (by omega), if_neg q]
  have h1 : ∀ (o1 o2 : Option Int32), (if ms_i σ (3 + 2 + 3 * s) 1 = 1 then o1 else o2) = if Kd w s = 1 then o1 else o2 := fun o1 o2 => by
    rw [ieq g1 i1 (by omega) (by omega) (by omega) (by omega)]
    by_cases q : Kd w s = 1
    · rw [if_pos (by omega), if_pos q]
    · rw [if_neg (by omega), if_neg q]
  unfold f_X7_number nmb
  rcases hkk with rfl | rfl | rfl | rfl | rfl | rfl | rfl
  · rw [if_pos (by decide), g1]; rfl
  · rw [if_neg (by decide), if_pos (by decide), g3]; rfl
  · rw [if_neg (by decide), if_neg (by decide), if_pos (by decide), g2]; rfl
  · rw [if_neg (by decide), if_neg (by decide), if_neg (by decide), if_pos (by decide), h2]
    by_cases q : Kd w s = 2
    · rw [if_pos q, (g8 q).1]; rfl
    · rw [if_neg q, (g5 q).1]; rfl
  · rw [if_neg (by decide), if_neg (by decide), if_neg (by decide), if_neg (by decide), if_pos (by decide), h2]
    by_cases q : Kd w s = 2
    · rw [if_pos q, (g8 q).2.1]; rfl
    · rw [if_neg q, (g5 q).2.1]; rfl
  · rw [if_neg (by decide), if_neg (by decide), if_neg (by decide), if_neg (by decide), if_neg (by decide), if_pos (by decide), h2]
    by_cases q : Kd w s = 2
    · rw [if_pos q]
      have h5 := (kk4 q).2.2.2.2.2
      by_cases q5 : sgF w s 5 = 0
      · rw [ieqT (g8 q).2.2 i0 (by omega)]
        show some (0 : Int32) = some (iZ (sgF w s 5 : Int))
        rw [q5]; rfl
      · rw [ieqF (g8 q).2.2 i0 (by omega) (by omega) (by omega) (by omega) (by omega)]
        show some (1 : Int32) = some (iZ (sgF w s 5 : Int))
        rw [show sgF w s 5 = 1 from by omega]; rfl
    · rw [if_neg q, h1]
      by_cases q1 : Kd w s = 1
      · rw [if_pos q1, (g7 q1).1]; rfl
      · rw [if_neg q1, (g6 (by omega)).1]; rfl
  · rw [if_neg (by decide), if_neg (by decide), if_neg (by decide), if_neg (by decide), if_neg (by decide), if_neg (by decide), h1]
    by_cases q1 : Kd w s = 1
    · rw [if_pos q1, (g7 q1).2]; rfl
    · rw [if_neg q1, (g6 (by omega)).2]; rfl
end Sg
theorem inRi {σ : MsSt} {a b c : Int} (a1 : -2147483648 ≤ a) (a2 : a < 2147483648) (b1 : -2147483648 ≤ b) (b2 : b < 2147483648) (c1 : -2147483648 ≤ c) (c2 : c < 2147483648) : f_X12_inRange σ (iZ a).toInt64 (jZ b) (jZ c) = some (b01 (b ≤ a ∧ a ≤ c)) := by
  rw [iZ_long a1 a2, inR (by omega) (by omega) (by omega) (by omega) (by omega) (by omega)]
theorem raise_s {σ : MsSt} : f_X12_raise σ 493 1 = some (0, ms_si σ 493 7 1) := rfl
section Sg2
variable {σ : MsSt} {w : Nat → Nat}
theorem fr7 (σ : MsSt) (v : Int32) : Fr FScr σ (ms_si σ 493 7 v) := Fr.si _ _ (by unfold FScr; omega)
/-- the call of sign -/
theorem q_sign (h : InvS σ w) (x y : Int32) : ∃ r b σ2, f_X10_sign σ 0 x y = some r ∧ f_X12_sign σ 493 x y = some (b, σ2) ∧ Ok r (ms_i σ2 493 7) b ∧ Fr FScr σ σ2 := by
  obtain ⟨z, z1, z2, rfl⟩ := iZ_of x
  obtain ⟨v, v1, v2, rfl⟩ := iZ_of y
  have h40 := h.1.1.1
  have hn : f_X10_needIn σ (iZ v) 0 6 = some (if 0 ≤ v ∧ v ≤ 6 then none else some 0) := needIn_s v1 v2 (b := 0) (c := 6) (by omega) (by omega) (by omega) (by omega)
  unfold f_X10_sign f_X12_sign
  rw [needSign_s h z1 z2, m_noSign h.2.2 h40 z1 z2, b2_s]
  by_cases q : 0 ≤ z ∧ z ≤ (w 0 : Int) - 1
  · have e0 : (b01 (¬ (0 ≤ z ∧ z ≤ (w 0 : Int) - 1))) = 0 := by unfold b01; rw [if_neg (fun g => g q)]
    rw [btT q, e0, if_pos rfl]
    obtain ⟨s, rfl⟩ : ∃ s : Nat, z = (s : Int) := ⟨z.toNat, by omega⟩
    have hs : s < w 0 := by omega
    have h' := h.fr (fr7 σ 0)
    have hk := (h.1.1.2.1 s hs).1.1
    have ht : ms_i (ms_si σ 493 7 0) 493 7 = 0 := i_si_same _ _ _ _
    have hr : f_X12_inRange (ms_si σ 493 7 0) (iZ v).toInt64 0 6 = some (b01 (0 ≤ v ∧ v ≤ 6)) := inRi v1 v2 (b := 0) (c := 6) (by omega) (by omega) (by omega) (by omega)
    rw [hn, hr, Option.bind_some]
    by_cases q2 : 0 ≤ v ∧ v ≤ 6
    · obtain ⟨k, rfl⟩ : ∃ k : Nat, v = (k : Int) := ⟨v.toNat, by omega⟩
      have e6 : ∀ (o1 o2 : Option (Int32 ⊕ Nat)), (if iZ (k : Int) = 6 then o1 else o2) = if k = 6 then o1 else o2 := fun o1 o2 => by
        by_cases g : k = 6
        · rw [ieqT rfl i6 (by omega), if_pos g]
        · rw [ieqF rfl i6 (by omega) (by omega) (by omega) (by omega) (by omega), if_neg g]
      have e6' : ∀ (o1 o2 : Option (Int32 × MsSt)), (if iZ (k : Int) = 6 then o1 else o2) = if k = 6 then o1 else o2 := fun o1 o2 => by
        by_cases g : k = 6
        · rw [ieqT rfl i6 (by omega), if_pos g]
        · rw [ieqF rfl i6 (by omega) (by omega) (by omega) (by omega) (by omega), if_neg g]
      have e2' : ∀ (o1 o2 : Option (Int32 × MsSt)), (if iZ (k : Int) = 2 then o1 else o2) = if k = 2 then o1 else o2 := fun o1 o2 => by
        by_cases g : k = 2
        · rw [ieqT rfl i2 (by omega), if_pos g]
        · rw [ieqF rfl i2 (by omega) (by omega) (by omega) (by omega) (by omega), if_neg g]
      have hc1 : (f_X6_told σ 3 (iZ (s : Int))) = some (3 + 2 + 3 * s) := told_s (Or.inl rfl) (by omega)
      rw [btT q2, ibT q2, x_rf1, hc1, Option.bind_some, e2', e6', m_rf0, m_parts h'.2.2 (Or.inl rfl) h.1.1 hs, Option.bind_some]
      have hof : f_X12_of (ms_si σ 493 7 0) (iZ (s : Int)) (iZ (k : Int)) = some (iZ (247 + 7 * (s : Int) + (k : Int))) := of_s _ _
      have hget : ms_ald (ms_si σ 493 7 0) 494 (iZ (247 + 7 * (s : Int) + (k : Int))) = some (iZ (w (247 + 7 * s + k) : Int)) := mw_get h'.2.2 (Or.inl rfl) (k := 247 + 7 * s + k) (by omega) (by omega)
      have hko : f_X12_isOfKind (ms_si σ 493 7 0) 493 (iZ (s : Int)) 2 = some (b01 (Kd w s = 2)) := isOfKind_s h'.2.2 (by omega) (k := 2) (by omega) (by omega)
      rw [hof, Option.bind_some, hget, Option.bind_some, hko, Option.bind_some, m_linesWith h' (by omega), Option.bind_some]
      by_cases g6 : k = 6 ∧ Kd w s = 2
      · rw [ieqT (h.2.1.1.2 s hs).1 i2 (by omega), e6, if_pos g6.1, c_countLines h (by omega), if_neg (by omega), if_pos g6.1, ibT g6.2]
        exact ⟨_, _, _, rfl, rfl, ⟨ht, rfl⟩, fr7 σ 0⟩
      · have hnum := c_number h hs (k := k) (by omega) g6
        have hA : (if ms_i σ (3 + 2 + 3 * s) 1 = 2 then (if iZ (k : Int) = 6 then (f_X6_countLinesWith σ 3 (iZ (s : Int))).bind fun v6 => some (Sum.inl v6 : Int32 ⊕ Nat) else (f_X7_number σ (3 + 2 + 3 * s) (iZ (k : Int))).bind fun v5 => some (.inl v5)) else (f_X7_number σ (3 + 2 + 3 * s) (iZ (k : Int))).bind fun v4 => some (.inl v4)) = some (.inl (iZ (nmb w s k : Int))) := by
          rw [hnum, e6]
          by_cases g : Kd w s = 2
          · rw [ieqT (h.2.1.1.2 s hs).1 i2 (by omega), if_neg (fun e => g6 ⟨e, g⟩)]
            rfl
          · rw [ieqF (h.2.1.1.2 s hs).1 i2 (by omega) (by omega) (by omega) (by omega) (by omega)]
            rfl
        have hB : (if k = 2 then some (iZ ((ex w s).length : Int), ms_si σ 493 7 0) else if k = 6 then (if b01 (Kd w s = 2) = 0 then some (iZ (w (247 + 7 * s + k) : Int), ms_si σ 493 7 0) else some (iZ (cnt (fun l => hasL (ln w l) s) (w 1) : Int), ms_si σ 493 7 0)) else some (iZ (w (247 + 7 * s + k) : Int), ms_si σ 493 7 0)) = some (iZ (nmb w s k : Int), ms_si σ 493 7 0) := by
          unfold nmb
          by_cases g2 : k = 2
          · rw [if_pos g2, if_pos g2]
          · rw [if_neg g2, if_neg g2]
            by_cases g : k = 6
            · rw [if_pos g, ibF (fun e => g6 ⟨g, e⟩)]
            · rw [if_neg g]
        exact ⟨_, _, _, hA, hB, ⟨ht, rfl⟩, fr7 σ 0⟩
    · rw [btF q2, ibF q2, raise_s, b2_s]
      exact ⟨_, _, _, rfl, rfl, i_si_same _ _ _ _, (fr7 σ 0).trans (fr7 _ 1)⟩
  · have e0 : (b01 (¬ (0 ≤ z ∧ z ≤ (w 0 : Int) - 1))) = 1 := by unfold b01; rw [if_pos q]
    rw [btF q, e0, if_neg (by decide)]
    exact ⟨_, _, _, rfl, rfl, i_si_same _ _ _ _, fr7 σ 1⟩
end Sg2
