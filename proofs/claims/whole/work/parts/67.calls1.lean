/-! what both hold between calls (as far as forms are asked), and the first calls -/
def InvS (σ : MsSt) (w : Nat → Nat) : Prop := WF w ∧ NowRep σ 3 w ∧ Mw σ 494 w
def FScr : Nat → Nat → Prop := fun a k => (276 ≤ a ∧ a < 285) ∨ (441 ≤ a ∧ a < 491) ∨ a = 495 ∨ (499 ≤ a ∧ a ≤ 510) ∨ a = 515 ∨ (a = 493 ∧ k ≠ 6 ∧ k ≠ 8 ∧ k ≠ 25 ∧ k ≠ 27 ∧ k ≠ 34) ∨ (a = 1 ∧ 2 ≤ k)
theorem Rw.frS {α : Type} {e : α → Int} {σ σ' : MsSt} {r N : Nat} {L : List α} (h : Rw e σ r N L) (hF : Fr FScr σ σ') (h1 : r + 1 < 139 ∨ (285 ≤ r ∧ r + 1 < 441) ∨ r = 491) (h2 : 2 ≤ r) : Rw e σ' r N L :=
  h.fr hF (by unfold FScr; omega) (fun k => by unfold FScr; omega)
theorem InvS.fr {σ σ' : MsSt} {w : Nat → Nat} (h : InvS σ w) (hF : Fr FScr σ σ') : InvS σ' w := by
  obtain ⟨h1, ⟨⟨h2, h3⟩, h4, h5, h6⟩, h7⟩ := h
  have h40 := h1.1.1
  refine ⟨h1, ⟨⟨?_, fun s hs => ?_⟩, ?_, ?_, fun l hl => ?_⟩, h7.fr hF (by intro k; unfold FScr; omega)⟩
  · rw [hF.1 _ _ (by unfold FScr; omega)]; exact h2
  · obtain ⟨g1, g2, g3, g4, g5, g6, g7, g8⟩ := h3 s hs
    have q : ∀ k, ms_i σ' (3 + 2 + 3 * s) k = ms_i σ (3 + 2 + 3 * s) k := fun k => hF.1 _ _ (by unfold FScr; omega)
    refine ⟨by rw [q]; exact g1, by rw [q]; exact g2, by rw [q]; exact g3, g4.frS hF (by omega) (by omega), fun c => ?_, fun c => ?_, fun c => ?_, fun c => ?_⟩
    · rw [q, q, q]; exact g5 c
    · rw [q, q]; exact g6 c
    · rw [q, q]; exact g7 c
    · rw [q, q, q]; exact g8 c
  · rw [hF.1 _ _ (by unfold FScr; omega)]; exact h4
  · rw [hF.1 _ _ (by unfold FScr; omega)]; exact h5
  · exact (h6 l hl).frS hF (by omega) (by omega)
theorem x_rf0 : ms_rf 0 0 = 1 := by decide +kernel
theorem x_rf1 : ms_rf 0 1 = 3 := by decide +kernel
theorem x_rf2 : ms_rf 0 2 = 139 := by decide +kernel
theorem x_rf3 : ms_rf 0 3 = 276 := by decide +kernel
theorem x_rf4 : ms_rf 0 4 = 285 := by decide +kernel
theorem x_rf5 : ms_rf 0 5 = 427 := by decide +kernel
theorem x_rf6 : ms_rf 0 6 = 441 := by decide +kernel
theorem x_rf7 : ms_rf 0 7 = 454 := by decide +kernel
theorem x_rf8 : ms_rf 0 8 = 467 := by decide +kernel
theorem x_rf9 : ms_rf 0 9 = 478 := by decide +kernel
theorem x_rf10 : ms_rf 0 10 = 489 := by decide +kernel
theorem x_rf11 : ms_rf 0 11 = 491 := by decide +kernel
/-- what a call of the class answers, beside what the reference has thrown and answers -/
def Ok (r : Int32 ⊕ Nat) (t b : Int32) : Prop := match r with
  | .inl v => t = 0 ∧ v = b
  | .inr e => t = if e = 0 then 1 else 2
theorem bt_if {α : Type} {P : Prop} [Decidable P] {e : Nat} {f0 : Option α} {f1 : Nat → Option α} : ms_bt (some (if P then none else some e)) f0 f1 = if P then f0 else f1 e := by
  by_cases h : P
  · rw [if_pos h, if_pos h]; rfl
  · rw [if_neg h, if_neg h]; rfl
theorem btT {α : Type} {P : Prop} [Decidable P] {e : Nat} {f0 : Option α} {f1 : Nat → Option α} (h : P) : ms_bt (some (if P then none else some e)) f0 f1 = f0 := by rw [bt_if, if_pos h]
theorem btF {α : Type} {P : Prop} [Decidable P] {e : Nat} {f0 : Option α} {f1 : Nat → Option α} (h : ¬ P) : ms_bt (some (if P then none else some e)) f0 f1 = f1 e := by rw [bt_if, if_neg h]
theorem needIn_s {σ : MsSt} {a b c : Int} (a1 : -2147483648 ≤ a) (a2 : a < 2147483648) (b1 : -2147483648 ≤ b) (b2 : b < 2147483648) (c1 : -2147483648 ≤ c) (c2 : c < 2147483648) : f_X10_needIn σ (iZ a) (iZ b) (iZ c) = some (if b ≤ a ∧ a ≤ c then none else some 0) := by
  unfold f_X10_needIn
  by_cases h1 : a < b
  · rw [iltT rfl rfl a1 h1 b2, if_neg (by omega)]
  · rw [iltF rfl rfl b1 (by omega) a2]
    by_cases h2 : c < a
    · rw [iltT rfl rfl c1 h2 a2, if_neg (by omega)]
    · rw [iltF rfl rfl a1 (by omega) c2, if_pos (by omega)]
theorem allowIn_s {σ : MsSt} {a b c : Int} (a1 : -2147483648 ≤ a) (a2 : a < 2147483648) (b1 : -2147483648 ≤ b) (b2 : b < 2147483648) (c1 : -2147483648 ≤ c) (c2 : c < 2147483648) : f_X10_allowIn σ (iZ a) (iZ b) (iZ c) = some (if b ≤ a ∧ a ≤ c then none else some 1) := by
  unfold f_X10_allowIn
  by_cases h1 : a < b
  · rw [iltT rfl rfl a1 h1 b2, if_neg (by omega)]
  · rw [iltF rfl rfl b1 (by omega) a2]
    by_cases h2 : c < a
    · rw [iltT rfl rfl c1 h2 a2, if_neg (by omega)]
    · rw [iltF rfl rfl a1 (by omega) c2, if_pos (by omega)]
theorem bt_id {P : Prop} [Decidable P] {e : Nat} : ms_bt (some (if P then none else some e)) (some none) (fun e1 => some (some e1)) = some (if P then none else some e) := by
  by_cases h : P
  · rw [btT h, if_pos h]
  · rw [btF h, if_neg h]
section Nd
variable {σ : MsSt} {w : Nat → Nat} {z : Int}
theorem needSign_s (h : InvS σ w) (z1 : -2147483648 ≤ z) (z2 : z < 2147483648) : f_X10_needSign σ 0 (iZ z) = some (if 0 ≤ z ∧ z ≤ (w 0 : Int) - 1 then none else some 0) := by
  have h40 := h.1.1.1
  unfold f_X10_needSign
  rw [x_rf1, h.2.1.1.1, i1, iZ_sub, i0, needIn_s z1 z2 (by omega) (by omega) (by omega) (by omega)]
  exact bt_id
theorem needLine_s (h : InvS σ w) (z1 : -2147483648 ≤ z) (z2 : z < 2147483648) : f_X10_needLine σ 0 (iZ z) = some (if 0 ≤ z ∧ z ≤ (w 1 : Int) - 1 then none else some 0) := by
  have h4 := h.1.2.2.1
  unfold f_X10_needLine
  rw [x_rf1, h.2.1.2.1, i1, iZ_sub, i0, needIn_s z1 z2 (by omega) (by omega) (by omega) (by omega)]
  exact bt_id
end Nd
/-! counts -/
def cnt (P : Nat → Bool) : Nat → Nat
  | 0 => 0
  | n + 1 => cnt P n + if P n = true then 1 else 0
theorem cnt_succ (P : Nat → Bool) (n : Nat) : cnt P (n + 1) = cnt P n + if P n = true then 1 else 0 := rfl
theorem cnt_le (P : Nat → Bool) (n : Nat) : cnt P n ≤ n := by
  induction n with
  | zero => exact Nat.le_refl _
  | succ n ih => unfold cnt; split <;> omega
theorem cnt_congr {P Q : Nat → Bool} : ∀ {n : Nat}, (∀ t, t < n → P t = Q t) → cnt P n = cnt Q n := by
  intro n
  induction n with
  | zero => intro _; rfl
  | succ n ih =>
    intro h
    unfold cnt
    rw [ih fun t ht => h t (by omega), h n (by omega)]
/-- a loop that counts: acc and index -/
theorem cnt_loop {β : Type} {f : Nat → Int32 → Int32 → β} {o : β} (P : Nat → Bool) (N : Nat) (hN : N < 90000) (hs : ∀ n i (a : Int), i < N → f (n + 1) (iZ a) (iZ (i : Int)) = f n (iZ (if P i = true then a + 1 else a)) (iZ ((i : Int) + 1))) (he : ∀ n, f (n + 1) (iZ (cnt P N : Int)) (iZ (N : Int)) = o) : f ms_fuel (iZ 0) (iZ 0) = o := by
  refine lpx (S := Int32 × Int32) (f := fun n s => f n s.1 s.2) (fun i s => s.1 = iZ (cnt P i : Int) ∧ s.2 = iZ (i : Int)) N ?_ ?_ N 0 (iZ 0, iZ 0) ms_fuel ⟨rfl, rfl⟩ (by omega) (by show _ < 100000; omega)
  · rintro i ⟨a, x⟩ ⟨ha, hx⟩ hlt
    dsimp only at ha hx ⊢
    subst ha; subst hx
    refine ⟨(iZ (cnt P (i + 1) : Int), iZ ((i + 1 : Nat) : Int)), ⟨rfl, rfl⟩, fun n' => ?_⟩
    rw [hs n' i _ hlt]
    have : (if P i = true then (cnt P i : Int) + 1 else (cnt P i : Int)) = (cnt P (i + 1) : Int) := by
      rw [cnt_succ]
      split <;> omega
    rw [this]
    rfl
  · rintro ⟨a, x⟩ ⟨ha, hx⟩ n'
    dsimp only at ha hx ⊢
    subst ha; subst hx
    exact he n'
section Cnt
variable {σ : MsSt} {w : Nat → Nat} {n : Nat}
theorem c_countKind (hs : SgsOK w n) (hc : ScRep σ 3 w n) (k : Nat) (hk : k < 10) : f_X6_countKind σ 3 (iZ (k : Int)) = some (iZ (cnt (fun s => decide (Kd w s = k)) n : Int)) := by
  have h40 := hs.1
  unfold f_X6_countKind
  refine cnt_loop (f := fun n' a i => f_X6_countKind_4 σ n' 3 (iZ (k : Int)) a i) (fun s => decide (Kd w s = k)) n (by omega) (fun n' i a hi => ?_) (fun n' => ?_)
  · have hk1 := (hs.2.1 i hi).1.1
    show (if iZ (i : Int) < ms_i σ 3 4 then _ else _) = _
    rw [iltT rfl hc.1 (by omega) (by omega) (by omega), told_s (Or.inl rfl) (by omega), Option.bind_some, ieq (hc.2 i hi).1 rfl (by omega) (by omega) (by omega) (by omega)]
    by_cases q : Kd w i = k
    · rw [if_pos (by omega), if_pos (by simpa using q), i1, iZ_add, iZ_add]
    · rw [if_neg (by omega), if_neg (by simpa using q), i1, iZ_add]
  · show (if iZ (n : Int) < ms_i σ 3 4 then _ else _) = _
    rw [iltF rfl hc.1 (by omega) (by omega) (by omega)]
theorem m_manyOf (hs : SgsOK w n) (hw : Mw σ 494 w) (h0 : w 0 = n) (k : Nat) (hk : k < 10) : f_X12_manyOf σ 493 (iZ (k : Int)) = some (iZ (cnt (fun s => decide (Kd w s = k)) n : Int)) := by
  have h40 := hs.1
  have hn := mw_get hw (Or.inl rfl) (z := 0) (k := 0) rfl (by omega)
  rw [h0] at hn
  have hn' : ms_ald σ 494 0 = some (iZ (n : Int)) := hn
  unfold f_X12_manyOf
  refine cnt_loop (f := fun n' a i => f_X12_manyOf_4 σ n' 493 (iZ (k : Int)) a i) (fun s => decide (Kd w s = k)) n (by omega) (fun n' i a hi => ?_) (fun n' => ?_)
  · have hk1 := (hs.2.1 i hi).1.1
    show (ms_ald σ (ms_rf 493 0) 0).bind _ = _
    rw [m_rf0, hn', Option.bind_some, iltT rfl rfl (by omega) (by omega) (by omega), isOfKind_s hw (by omega) (by omega) (by omega), Option.bind_some]
    by_cases q : Kd w i = k
    · rw [ibT q, if_pos (by simpa using q), i1, iZ_add, iZ_add]
    · rw [ibF q, if_neg (by simpa using q), i0, i1, iZ_add, iZ_add, Int.add_zero]
  · show (ms_ald σ (ms_rf 493 0) 0).bind _ = _
    rw [m_rf0, hn', Option.bind_some, iltF rfl rfl (by omega) (by omega) (by omega)]
def spB (w : Nat → Nat) (s : Nat) : Bool := decide (Kd w s = 2) && decide (sgF w s 5 = 1)
theorem sg_spare {s : Nat} (hs : SgsOK w n) (hc : ScRep σ 3 w n) (h : s < n) : ms_i σ (3 + 2 + 3 * s) 13 = iZ (if spB w s = true then 1 else 0) := by
  obtain ⟨g1, g2, g3, g4, g5, g6, g7, g8⟩ := hc.2 s h
  unfold spB
  by_cases q : Kd w s = 2
  · have h5 := ((hs.2.1 s h).1.2.2.2 q).2.2.2.2.2
    rw [(g8 q).2.2]
    by_cases q2 : sgF w s 5 = 1
    · rw [if_pos (by simp [q, q2]), q2]; rfl
    · have : sgF w s 5 = 0 := by omega
      rw [if_neg (by simp [q2]), this]; rfl
  · rw [(g5 q).2.2, if_neg (by simp [q])]
theorem c_countSpare (hs : SgsOK w n) (hc : ScRep σ 3 w n) : f_X6_countSpare σ 3 = some (iZ (cnt (spB w) n : Int)) := by
  have h40 := hs.1
  unfold f_X6_countSpare
  refine cnt_loop (f := fun n' a i => f_X6_countSpare_4 σ n' 3 a i) (spB w) n (by omega) (fun n' i a hi => ?_) (fun n' => ?_)
  · have h13 := sg_spare hs hc hi
    show (if iZ (i : Int) < ms_i σ 3 4 then _ else _) = _
    rw [iltT rfl hc.1 (by omega) (by omega) (by omega), told_s (Or.inl rfl) (by omega), Option.bind_some]
    by_cases q : spB w i = true
    · rw [if_pos q] at h13
      rw [ieqF h13 i0 (by omega) (by omega) (by omega) (by omega) (by omega), if_pos q, i1, iZ_add, iZ_add]
    · rw [if_neg q] at h13
      rw [ieqT h13 i0 rfl, if_neg q, i1, iZ_add]
  · show (if iZ (n : Int) < ms_i σ 3 4 then _ else _) = _
    rw [iltF rfl hc.1 (by omega) (by omega) (by omega)]
theorem m_spares (hs : SgsOK w n) (hw : Mw σ 494 w) (h0 : w 0 = n) : f_X12_spares σ 493 = some (iZ (cnt (spB w) n : Int)) := by
  have h40 := hs.1
  have hn := mw_get hw (Or.inl rfl) (z := 0) (k := 0) rfl (by omega)
  rw [h0] at hn
  have hn' : ms_ald σ 494 0 = some (iZ (n : Int)) := hn
  unfold f_X12_spares
  refine cnt_loop (f := fun n' a i => f_X12_spares_4 σ n' 493 a i) (spB w) n (by omega) (fun n' i a hi => ?_) (fun n' => ?_)
  · have hk1 := (hs.2.1 i hi).1.1
    have hk := isOfKind_s hw (s := i) (by omega) (k := 2) (by omega) (by omega)
    have hk' : f_X12_isOfKind σ 493 (iZ (i : Int)) 2 = some (b01 (Kd w i = 2)) := hk
    show (ms_ald σ (ms_rf 493 0) 0).bind _ = _
    rw [m_rf0, hn', Option.bind_some, iltT rfl rfl (by omega) (by omega) (by omega), hk', Option.bind_some]
    unfold spB
    by_cases q : Kd w i = 2
    · have h5 := ((hs.2.1 i hi).1.2.2.2 q).2.2.2.2.2
      rw [ibT q, of_5, Option.bind_some, mw_get hw (Or.inl rfl) (k := 247 + 7 * i + 5) (by omega) (by omega), Option.bind_some, iZ_add, i1, iZ_add]
      unfold sgF at h5 ⊢
      by_cases q2 : w (247 + 7 * i + 5) = 1
      · rw [if_pos (by simp [q, q2]), q2]; rfl
      · have : w (247 + 7 * i + 5) = 0 := by omega
        rw [if_neg (by simp [q2]), this]
        simp
    · rw [ibF q, if_neg (by simp [q]), i0, i1, iZ_add, iZ_add, Int.add_zero]
  · show (ms_ald σ (ms_rf 493 0) 0).bind _ = _
    rw [m_rf0, hn', Option.bind_some, iltF rfl rfl (by omega) (by omega) (by omega)]
end Cnt
/-- the call of size -/
theorem q_size {σ : MsSt} {w : Nat → Nat} (h : InvS σ w) (x : Int32) : ∃ r b σ2, f_X10_size σ 0 x = some r ∧ f_X12_size σ 493 x = some (b, σ2) ∧ Ok r (ms_i σ2 493 7) b ∧ Fr FScr σ σ2 := by
  obtain ⟨z, z1, z2, rfl⟩ := iZ_of x
  have hs := h.1.1
  have hF : ∀ v, Fr FScr σ (ms_si σ 493 7 v) := fun v => Fr.si _ _ (by unfold FScr; omega)
  have hw := (h.fr (hF 0)).2.2
  have hc := h.2.1.1
  have g := fun (k : Nat) (hk : k < 527) => mw_get hw (Or.inl rfl) (z := (k : Int)) (k := k) rfl hk
  have e0 : ms_ald (ms_si σ 493 7 0) 494 0 = some (iZ (w 0 : Int)) := g 0 (by omega)
  have e1 : ms_ald (ms_si σ 493 7 0) 494 1 = some (iZ (w 1 : Int)) := g 1 (by omega)
  have e2 : ms_ald (ms_si σ 493 7 0) 494 2 = some (iZ (w 2 : Int)) := g 2 (by omega)
  have ht : ms_i (ms_si σ 493 7 0) 493 7 = 0 := i_si_same _ _ _ _
  have hn : f_X10_needIn σ (iZ z) 0 6 = some (if 0 ≤ z ∧ z ≤ 6 then none else some 0) := needIn_s z1 z2 (b := 0) (c := 6) (by omega) (by omega) (by omega) (by omega)
  by_cases hz : 0 ≤ z ∧ z ≤ 6
  · have hk : z = 0 ∨ z = 1 ∨ z = 2 ∨ z = 3 ∨ z = 4 ∨ z = 5 ∨ z = 6 := by omega
    unfold f_X10_size f_X12_size
    rw [hn, btT hz, nm_s, x_rf1, m_rf0]
    rcases hk with rfl | rfl | rfl | rfl | rfl | rfl | rfl
    · rw [if_pos (by decide), if_pos (by decide), e0]
      exact ⟨_, _, _, rfl, rfl, ⟨ht, hc.1⟩, hF 0⟩
    · have c1 : f_X6_countKind σ 3 0 = _ := c_countKind hs hc 0 (by omega)
      have m1 : f_X12_manyOf (ms_si σ 493 7 0) 493 (iZ 1 - 1) = _ := m_manyOf hs hw rfl 0 (by omega)
      rw [if_neg (by decide), if_pos (by decide), if_neg (by decide), if_pos (by decide), c1, m1]
      exact ⟨_, _, _, rfl, rfl, ⟨ht, rfl⟩, hF 0⟩
    · have c1 : f_X6_countKind σ 3 1 = _ := c_countKind hs hc 1 (by omega)
      have m1 : f_X12_manyOf (ms_si σ 493 7 0) 493 (iZ 2 - 1) = _ := m_manyOf hs hw rfl 1 (by omega)
      rw [if_neg (by decide), if_neg (by decide), if_pos (by decide), if_neg (by decide), if_neg (by decide), if_pos (by decide), c1, m1]
      exact ⟨_, _, _, rfl, rfl, ⟨ht, rfl⟩, hF 0⟩
    · have c1 : f_X6_countKind σ 3 2 = _ := c_countKind hs hc 2 (by omega)
      have m1 : f_X12_manyOf (ms_si σ 493 7 0) 493 (iZ 3 - 1) = _ := m_manyOf hs hw rfl 2 (by omega)
      rw [if_neg (by decide), if_neg (by decide), if_neg (by decide), if_pos (by decide), if_neg (by decide), if_neg (by decide), if_neg (by decide), if_pos (by decide), c1, m1]
      exact ⟨_, _, _, rfl, rfl, ⟨ht, rfl⟩, hF 0⟩
    · rw [if_neg (by decide), if_neg (by decide), if_neg (by decide), if_neg (by decide), if_pos (by decide), if_neg (by decide), if_neg (by decide), if_neg (by decide), if_neg (by decide), if_pos (by decide), c_countSpare hs hc, m_spares hs hw rfl]
      exact ⟨_, _, _, rfl, rfl, ⟨ht, rfl⟩, hF 0⟩
    · rw [if_neg (by decide), if_neg (by decide), if_neg (by decide), if_neg (by decide), if_neg (by decide), if_pos (by decide), if_neg (by decide), if_neg (by decide), if_neg (by decide), if_neg (by decide), if_neg (by decide), if_pos (by decide), e1]
      exact ⟨_, _, _, rfl, rfl, ⟨ht, h.2.1.2.1⟩, hF 0⟩
    · rw [if_neg (by decide), if_neg (by decide), if_neg (by decide), if_neg (by decide), if_neg (by decide), if_neg (by decide), if_neg (by decide), if_neg (by decide), if_neg (by decide), if_neg (by decide), if_neg (by decide), if_neg (by decide), if_pos (by decide), e2]
      exact ⟨_, _, _, rfl, rfl, ⟨ht, h.2.1.2.2.1⟩, hF 0⟩
  · have hne : ∀ (k : Int), 0 ≤ k → k ≤ 6 → ∀ {α : Type} (o1 o2 : α), (if iZ z = iZ k then o1 else o2) = o2 := fun k k1 k2 α o1 o2 => ieqF rfl rfl (by omega) z1 z2 (by omega) (by omega)
    unfold f_X10_size f_X12_size
    rw [hn, btF hz, nm_s]
    refine ⟨.inr 0, 0, ms_si (ms_si σ 493 7 0) 493 7 1, rfl, ?_, i_si_same _ _ _ _, (hF 0).trans (Fr.si _ _ (by unfold FScr; omega))⟩
    refine (hne 0 (by omega) (by omega) _ _).trans ((hne 1 (by omega) (by omega) _ _).trans ((hne 2 (by omega) (by omega) _ _).trans ((hne 3 (by omega) (by omega) _ _).trans ((hne 4 (by omega) (by omega) _ _).trans ((hne 5 (by omega) (by omega) _ _).trans ((hne 6 (by omega) (by omega) _ _).trans ?_))))))
    rfl
