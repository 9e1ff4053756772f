/-! expanded, pairOf, used, recomposed -/
theorem spN_hsp (w : Nat → Nat) (p : Nat) : spN w p = (sgF w p 5 != 0 && !decide ((p : Int) = -1)) := by
  have : ¬ ((p : Int) = -1) := by omega
  unfold spN
  simp [this]
theorem inRz {σ : MsSt} {a c : Int} (a1 : -2147483648 ≤ a) (a2 : a < 2147483648) (c1 : -2147483648 ≤ c) (c2 : c < 2147483648) : f_X12_inRange σ (iZ a).toInt64 0 (iZ c).toInt64 = some (b01 (0 ≤ a ∧ a ≤ c)) := by
  rw [iZ_long a1 a2, iZ_long c1 c2, show (0 : Int64) = jZ 0 from rfl, inR (by omega) (by omega) (by omega) (by omega) (by omega) (by omega)]
theorem needIn0 {σ : MsSt} {a c : Int} (a1 : -2147483648 ≤ a) (a2 : a < 2147483648) (c1 : -2147483648 ≤ c) (c2 : c < 2147483648) : f_X10_needIn σ (iZ a) 0 (iZ c) = some (if 0 ≤ a ∧ a ≤ c then none else some 0) := by
  rw [i0]
  exact needIn_s a1 a2 (by omega) (by omega) c1 c2
section Sg3
variable {σ : MsSt} {w : Nat → Nat}
theorem q_expanded (h : InvS σ w) (x y : Int32) : ∃ r b σ2, f_X10_expanded σ 0 x y = some r ∧ f_X12_expanded σ 493 x y = some (b, σ2) ∧ Ok r (ms_i σ2 493 7) b ∧ Fr FScr σ σ2 := by
  obtain ⟨z, z1, z2, rfl⟩ := iZ_of x
  obtain ⟨v, v1, v2, rfl⟩ := iZ_of y
  have h40 := h.1.1.1
  unfold f_X10_expanded f_X12_expanded
  rw [needSign_s h z1 z2, m_noSign h.2.2 h40 z1 z2, b2_s]
  by_cases q : 0 ≤ z ∧ z ≤ (w 0 : Int) - 1
  · have e0 : (b01 (¬ (0 ≤ z ∧ z ≤ (w 0 : Int) - 1))) = 0 := by unfold b01; rw [if_neg (fun g => g q)]
    rw [btT q, e0, if_pos rfl]
    obtain ⟨s, rfl⟩ : ∃ s : Nat, z = (s : Int) := ⟨z.toNat, by omega⟩
    have hs : s < w 0 := by omega
    have h6 := (h.1.1.2.1 s hs).2
    have h' := h.fr (fr7 σ 0)
    obtain ⟨σ2, a1, a2, a3⟩ := m_expand h.1.1 hs h'.2.2
    have hc := h.2.1.1.2 s hs
    have hF2 : Fr FScr σ σ2 := (fr7 σ 0).trans (a3.mono fun a k q => by unfold FScr; omega)
    have ht : ms_i σ2 493 7 = 0 := (a3.1 _ _ (by omega)).trans (i_si_same _ _ _ _)
    have hn : f_X10_needIn σ (iZ v) 0 (iZ (((ex w s).length : Int) - 1)) = some (if 0 ≤ v ∧ v ≤ ((ex w s).length : Int) - 1 then none else some 0) := needIn0 v1 v2 (by omega) (by omega)
    have hr : f_X12_inRange σ2 (iZ v).toInt64 0 (iZ (((ex w s).length : Int) - 1)).toInt64 = some (b01 (0 ≤ v ∧ v ≤ ((ex w s).length : Int) - 1)) := inRz v1 v2 (by omega) (by omega)
    have e1 : iZ ((ex w s).length : Int) - 1 = iZ (((ex w s).length : Int) - 1) := by rw [i1, iZ_sub]
    rw [x_rf1, told_s (Or.inl rfl) (by omega), Option.bind_some, hc.2.1, a1, b2_s, e1, hn, hr, Option.bind_some]
    by_cases q2 : 0 ≤ v ∧ v ≤ ((ex w s).length : Int) - 1
    · obtain ⟨k, rfl⟩ : ∃ k : Nat, v = (k : Int) := ⟨v.toNat, by omega⟩
      have hk : k < (ex w s).length := by omega
      have hp : f_X7_part σ (3 + 2 + 3 * s) (iZ (k : Int)) = some (iZ (((ex w s)[k] : Nat) : Int)) := by
        unfold f_X7_part
        rw [(sc_sign (a := 3) (Or.inl rfl) (by omega)).2.1, get_in hc.2.2.2.1 hk]
        rfl
      have ha : ms_ald σ2 500 (iZ (k : Int)) = some (iZ (((ex w s)[k] : Nat) : Int)) := by
        rw [ald_iZ (by rw [m_ln.2.2.2.2.2.2.1]; omega) (by rw [m_ln.2.2.2.2.2.2.1]; omega), a2 k hk]
      rw [btT q2, ibT q2, hp, m_rf9, ha]
      exact ⟨_, _, _, rfl, rfl, ⟨ht, rfl⟩, hF2⟩
    · rw [btF q2, ibF q2, raise_s, b2_s]
      exact ⟨_, _, _, rfl, rfl, i_si_same _ _ _ _, hF2.trans (fr7 _ 1)⟩
  · have e0 : (b01 (¬ (0 ≤ z ∧ z ≤ (w 0 : Int) - 1))) = 1 := by unfold b01; rw [if_pos q]
    rw [btF q, e0, if_neg (by decide)]
    exact ⟨_, _, _, rfl, rfl, i_si_same _ _ _ _, fr7 σ 1⟩
theorem q_pairOf (h : InvS σ w) (x y : Int32) : ∃ r b σ2, f_X10_pairOf σ 0 x y = some r ∧ f_X12_pairOf σ 493 x y = some (b, σ2) ∧ Ok r (ms_i σ2 493 7) b ∧ Fr FScr σ σ2 := by
  obtain ⟨z, z1, z2, rfl⟩ := iZ_of x
  obtain ⟨v, v1, v2, rfl⟩ := iZ_of y
  have h40 := h.1.1.1
  have h' := h.fr (fr7 σ 0)
  have hbad : f_X12_pairOf_21 σ 493 (iZ z) (iZ v) 493 = some (0, ms_si σ 493 7 1) := by
    unfold f_X12_pairOf_21 f_X12_pairOf_22
    rw [nm_s, i_si_same, if_neg (by decide)]
  unfold f_X10_pairOf f_X12_pairOf
  rw [needSign_s h z1 z2, m_isSign h.2.2 h40 z1 z2, Option.bind_some, needSign_s h v1 v2, m_isSign h.2.2 h40 v1 v2, hbad]
  by_cases q : 0 ≤ z ∧ z ≤ (w 0 : Int) - 1
  · rw [btT q, ibT q, Option.bind_some]
    by_cases q2 : 0 ≤ v ∧ v ≤ (w 0 : Int) - 1
    · rw [btT q2, ibT q2]
      unfold f_X12_pairOf_22
      rw [nm_s, i_si_same, if_pos rfl, x_rf1, c_findPair (Or.inl rfl) h.1.1 h.2.1.1 (by omega) (by omega) (by omega) (by omega), m_rf0, m_findPair (Or.inl rfl) h.1.1 h'.2.2 rfl (by omega) (by omega) (by omega) (by omega)]
      exact ⟨_, _, _, rfl, rfl, ⟨i_si_same _ _ _ _, rfl⟩, fr7 σ 0⟩
    · rw [btF q2, ibF q2]
      exact ⟨_, _, _, rfl, rfl, i_si_same _ _ _ _, fr7 σ 1⟩
  · rw [btF q, ibF q]
    exact ⟨_, _, _, rfl, rfl, i_si_same _ _ _ _, fr7 σ 1⟩
def exB (w : Nat → Nat) (x s : Nat) : Bool := decide (Kd w s = 2) && hasL (ex w s) x
theorem c_usedE (h : InvS σ w) {x : Nat} (hx : x < 1000) : f_X6_countExpandedWith σ 3 (iZ (x : Int)) = some (iZ (cnt (exB w x) (w 0) : Int)) := by
  have h40 := h.1.1.1
  have hc := h.2.1.1
  unfold f_X6_countExpandedWith
  refine cnt_loop (f := fun n' a i => f_X6_countExpandedWith_4 σ n' 3 (iZ (x : Int)) a i) (exB w x) (w 0) (by omega) (fun n' i a hi => ?_) (fun n' => ?_)
  · have hk := (h.1.1.2.1 i hi).1.1
    have hcont := c_contains (hc.2 i hi).2.2.2.1 hx (fun y hy => by have := (h.1.1.exMem hi y hy).1; omega)
    show (if iZ (i : Int) < ms_i σ 3 4 then _ else _) = _
    rw [iltT rfl hc.1 (by omega) (by omega) (by omega), kindOf_s hc (Or.inl rfl) hi h40, Option.bind_some]
    unfold exB
    by_cases q : Kd w i = 2
    · rw [ieqT rfl i2 (by omega), told_s (Or.inl rfl) (by omega), Option.bind_some, (sc_sign (a := 3) (Or.inl rfl) (by omega)).2.1, hcont, Option.bind_some, ib01]
      by_cases q2 : hasL (ex w i) x = true
      · rw [if_pos q2, if_pos (by simp [q, q2]), i1, iZ_add, iZ_add]
      · rw [if_neg q2, if_neg (by simp [q2]), i1, iZ_add]
    · rw [ieqF rfl i2 (by omega) (by omega) (by omega) (by omega) (by omega), if_neg (by simp [q]), i1, iZ_add]
  · show (if iZ (w 0 : Int) < ms_i σ 3 4 then _ else _) = _
    rw [iltF rfl hc.1 (by omega) (by omega) (by omega)]
theorem m_used50 {w : Nat → Nat} {k14 : MsSt → Nat → Int32 → Int32 → Int32 → Option (Int32 × MsSt)} {σ : MsSt} {L : List Nat} {x : Nat} {a : Int} {i : Nat} (hA : Aw σ 500 L) (hl : L.length ≤ 6) (hx : x < 1000) (hL : ∀ y ∈ L, y < 1000) : f_X12_used_50 k14 ms_fuel σ 493 (iZ (x : Int)) (iZ a) (iZ (i : Int)) 0 (iZ (L.length : Int)) 0 = k14 σ 493 (iZ (x : Int)) (iZ (if hasL L x = true then a + 1 else a)) (iZ ((i : Int) + 1)) := by
  refine lpx (S := Int32 × Int32) (f := fun n s' => f_X12_used_50 k14 n σ 493 (iZ (x : Int)) (iZ a) (iZ (i : Int)) s'.1 (iZ (L.length : Int)) s'.2) (fun k s' => s'.2 = iZ (k : Int) ∧ k ≤ L.length ∧ s'.1 = b01 (hasT L x k = true)) L.length ?_ ?_ L.length 0 (0, 0) ms_fuel ⟨rfl, Nat.zero_le _, by unfold b01 hasT; rfl⟩ (by omega) (by show _ < 100000; omega)
  · rintro k ⟨b, y⟩ ⟨hy, hk, hb⟩ hlt
    dsimp only at hy hb ⊢
    subst hy; subst hb
    refine ⟨(b01 (hasT L x (k + 1) = true), iZ ((k + 1 : Nat) : Int)), ⟨rfl, hlt, rfl⟩, fun n' => ?_⟩
    have hin := hL _ (List.getElem_mem hlt)
    show (if iZ (k : Int) < iZ (L.length : Int) then _ else _) = _
    rw [iltT rfl rfl (by omega) (by omega) (by omega), ib01, m_rf9, ald_iZ (by rw [m_ln.2.2.2.2.2.2.1]; omega) (by rw [m_ln.2.2.2.2.2.2.1]; omega), hA k hlt, Option.bind_some, hasT_succ, getD_get hlt]
    have e : iZ (k : Int) + 1 = iZ ((k + 1 : Nat) : Int) := by rw [i1, iZ_add]; rfl
    rw [e]
    by_cases q : hasT L x k = true
    · rw [if_pos q, q]
      rfl
    · rw [if_neg q, ieq rfl rfl (by omega) (by omega) (by omega) (by omega)]
      have q' : hasT L x k = false := by simpa using q
      rw [q', Bool.false_or]
      by_cases q2 : L[k] = x
      · rw [if_pos (by omega)]
        unfold b01
        rw [if_pos (by simpa using q2)]
      · rw [if_neg (by omega)]
        unfold b01
        rw [if_neg (by simpa using q2)]
  · rintro ⟨b, y⟩ ⟨hy, hk, hb⟩ n'
    dsimp only at hy hb ⊢
    subst hy; subst hb
    show (if iZ (L.length : Int) < iZ (L.length : Int) then _ else _) = _
    have eh : hasL L x = hasT L x L.length := rfl
    rw [iltF rfl rfl (by omega) (by omega) (by omega), ib01, eh]
    by_cases q : hasT L x L.length = true
    · rw [if_pos q, if_pos q, i1, iZ_add, iZ_add]
    · rw [if_neg q, if_neg q, i0, i1, iZ_add, iZ_add, Int.add_zero]
theorem m_usedL (h : InvS σ w) {x : Nat} (hx : x < 1000) : ∃ σ', f_X12_used_14 ms_fuel σ 493 (iZ (x : Int)) 0 0 = some (iZ (cnt (exB w x) (w 0) : Int), σ') ∧ Fr (fun a _ => a = 500) σ σ' := by
  have h40 := h.1.1.1
  have key := lp0 (S := MsSt × Int32 × Int32) (f := fun n s => f_X12_used_14 n s.1 493 (iZ (x : Int)) s.2.1 s.2.2) (Q := fun r => r.1 = iZ (cnt (exB w x) (w 0) : Int) ∧ Fr (fun a _ => a = 500) σ r.2)
    (fun i s => s.2.2 = iZ (i : Int) ∧ i ≤ w 0 ∧ s.2.1 = iZ (cnt (exB w x) i : Int) ∧ Fr (fun a _ => a = 500) σ s.1) (w 0) (s := (σ, 0, 0)) ⟨rfl, Nat.zero_le _, rfl, Fr.refl _ _⟩ (by omega) ?_ ?_
  · obtain ⟨⟨r1, r2⟩, h1, h2, h3⟩ := key
    dsimp only at h2
    subst h2
    exact ⟨r2, h1, h3⟩
  · rintro i ⟨s, a, y⟩ ⟨hy, hi, ha, hFi⟩ hlt
    dsimp only at hy ha hFi ⊢
    subst hy; subst ha
    left
    have hw := h.2.2.fr hFi (by intros; omega)
    have e0 : ms_ald s 494 0 = some (iZ (w 0 : Int)) := mw_get hw (Or.inl rfl) (z := 0) (k := 0) rfl (by omega)
    have hk := (h.1.1.2.1 i hlt).1.1
    have hko : f_X12_isOfKind s 493 (iZ (i : Int)) 2 = some (b01 (Kd w i = 2)) := isOfKind_s hw (by omega) (k := 2) (by omega) (by omega)
    have hhead : ∀ n', f_X12_used_14 (n' + 1) s 493 (iZ (x : Int)) (iZ (cnt (exB w x) i : Int)) (iZ (i : Int)) = (if b01 (Kd w i = 2) = 0 then f_X12_used_50 (f_X12_used_14 n') ms_fuel s 493 (iZ (x : Int)) (iZ (cnt (exB w x) i : Int)) (iZ (i : Int)) 0 0 0 else ms_b2 (f_X12_expand s 493 (iZ (i : Int))) fun v6 s7 => f_X12_used_50 (f_X12_used_14 n') ms_fuel s7 493 (iZ (x : Int)) (iZ (cnt (exB w x) i : Int)) (iZ (i : Int)) 0 v6 0) := by
      intro n'
      show (ms_ald s (ms_rf 493 0) 0).bind _ = _
      rw [m_rf0, e0, Option.bind_some, iltT rfl rfl (by omega) (by omega) (by omega), hko, Option.bind_some]
    have ec : (if exB w x i = true then (cnt (exB w x) i : Int) + 1 else (cnt (exB w x) i : Int)) = (cnt (exB w x) (i + 1) : Int) := by
      rw [cnt_succ]
      split <;> omega
    by_cases q : Kd w i = 2
    · obtain ⟨s', a1, a2, a3⟩ := m_expand h.1.1 hlt hw
      refine ⟨(s', iZ (cnt (exB w x) (i + 1) : Int), iZ ((i + 1 : Nat) : Int)), ⟨rfl, hlt, rfl, hFi.trans a3⟩, fun n' => ?_⟩
      rw [hhead, ibT q, a1, b2_s, m_used50 (w := w) a2 (h.1.1.2.1 i hlt).2 hx (fun y hy => by have := (h.1.1.exMem hlt y hy).1; omega)]
      have eb : exB w x i = hasL (ex w i) x := by unfold exB; simp [q]
      rw [← eb, ec]
      rfl
    · refine ⟨(s, iZ (cnt (exB w x) (i + 1) : Int), iZ ((i + 1 : Nat) : Int)), ⟨rfl, hlt, rfl, hFi⟩, fun n' => ?_⟩
      have h0 := m_used50 (w := w) (k14 := f_X12_used_14 n') (σ := s) (L := []) (x := x) (a := (cnt (exB w x) i : Int)) (i := i) (Aw.nil _ _) (by simp) hx (fun y hy => by cases hy)
      have eb : exB w x i = false := by unfold exB; simp [q]
      have eh : hasL [] x = false := rfl
      rw [hhead, ibF q]
      refine h0.trans ?_
      rw [eh]
      rw [eb] at ec
      rw [ec]
      rfl
  · rintro ⟨s, a, y⟩ ⟨hy, hi, ha, hFi⟩
    dsimp only at hy ha hFi ⊢
    subst hy; subst ha
    have hw := h.2.2.fr hFi (by intros; omega)
    have e0 : ms_ald s 494 0 = some (iZ (w 0 : Int)) := mw_get hw (Or.inl rfl) (z := 0) (k := 0) rfl (by omega)
    refine ⟨(iZ (cnt (exB w x) (w 0) : Int), s), ⟨rfl, hFi⟩, fun n' => ?_⟩
    show (ms_ald s (ms_rf 493 0) 0).bind _ = _
    rw [m_rf0, e0, Option.bind_some, iltF rfl rfl (by omega) (by omega) (by omega)]
theorem q_used (h : InvS σ w) (x : Int32) : ∃ r b σ2, f_X10_used σ 0 x = some r ∧ f_X12_used σ 493 x = some (b, σ2) ∧ Ok r (ms_i σ2 493 7) b ∧ Fr FScr σ σ2 := by
  obtain ⟨z, z1, z2, rfl⟩ := iZ_of x
  have h40 := h.1.1.1
  unfold f_X10_used f_X12_used
  rw [needSign_s h z1 z2, m_noSign h.2.2 h40 z1 z2, b2_s]
  by_cases q : 0 ≤ z ∧ z ≤ (w 0 : Int) - 1
  · have e0 : (b01 (¬ (0 ≤ z ∧ z ≤ (w 0 : Int) - 1))) = 0 := by unfold b01; rw [if_neg (fun g => g q)]
    rw [btT q, e0, if_pos rfl]
    obtain ⟨s, rfl⟩ : ∃ s : Nat, z = (s : Int) := ⟨z.toNat, by omega⟩
    obtain ⟨σ2, a1, a2⟩ := m_usedL (h.fr (fr7 σ 0)) (x := s) (by omega)
    rw [x_rf1, c_usedE h (by omega), a1]
    exact ⟨_, _, _, rfl, rfl, ⟨(a2.1 _ _ (by omega)).trans (i_si_same _ _ _ _), rfl⟩, (fr7 σ 0).trans (a2.mono fun a k q => by unfold FScr; omega)⟩
  · have e0 : (b01 (¬ (0 ≤ z ∧ z ≤ (w 0 : Int) - 1))) = 1 := by unfold b01; rw [if_pos q]
    rw [btF q, e0, if_neg (by decide)]
    exact ⟨_, _, _, rfl, rfl, i_si_same _ _ _ _, fr7 σ 1⟩
theorem cmp_pos (w : Nat → Nat) (sp : Nat → Bool) (n : Nat) {D : List Nat} (h : D ≠ []) : 0 < (cmp w sp n D).1.length := by
  cases D with
  | nil => exact absurd rfl h
  | cons x D =>
    unfold cmp
    rw [List.foldl_cons]
    refine Nat.lt_of_lt_of_le ?_ (foldl_grow w sp n D _)
    unfold cstep
    by_cases q : Kd w x = 1
    · rw [if_pos q, if_neg (by rintro ⟨g, _⟩; exact absurd g (by decide))]
      simp [cStay]
    · rw [if_neg q]
      simp [cBase]
theorem q_recomposed (h : InvS σ w) (x : Int32) : ∃ r σ1 b σ2, f_X10_recomposed σ 0 x = some (r, σ1) ∧ Fr FScr σ σ1 ∧ f_X12_recomposed σ1 493 x = some (b, σ2) ∧ Ok r (ms_i σ2 493 7) b ∧ Fr FScr σ1 σ2 := by
  obtain ⟨z, z1, z2, rfl⟩ := iZ_of x
  have hs := h.1.1
  have h40 := hs.1
  unfold f_X10_recomposed
  rw [needSign_s h z1 z2]
  by_cases q : 0 ≤ z ∧ z ≤ (w 0 : Int) - 1
  · obtain ⟨s, rfl⟩ : ∃ s : Nat, z = (s : Int) := ⟨z.toNat, by omega⟩
    have hsn : s < w 0 := by omega
    have e0 : (b01 (¬ (0 ≤ (s : Int) ∧ (s : Int) ≤ (w 0 : Int) - 1))) = 0 := by unfold b01; rw [if_neg (fun g => g q)]
    have hm : ∀ y ∈ [s], y < w 0 := fun y hy => by rw [List.mem_singleton.mp hy]; exact hsn
    have hd : dF w [s] = od w (ex w s) := by unfold dF pn; simp
    have hpos := hs.exPos hsn
    have hDne : dF w [s] ≠ [] := fun e => by
      have : (dF w [s]).length = 0 := by rw [e]; rfl
      rw [hd, od_length] at this
      omega
    obtain ⟨s2, a1, a2, a3⟩ := clear_s (e := cN) (σ := σ) (r := 489) (N := 1) ⟨by decide +kernel, by decide +kernel, by omega⟩
    obtain ⟨s3, b1, b2, b3⟩ := add_s a2 (by simp) s
    have F3 : Fr (In 489 491) σ s3 := a3.trans b3
    obtain ⟨s4, c1, c2, c3⟩ := c_derive (F := 441) (r := 489) (L := [s]) (sp := spN w) (fr := -1) hs ((h.2.1.1).away F3 h40 (by omega)) (Or.inl rfl) b2 hm (by simp) (by omega) (fun p _ _ => spN_hsp w p) (by omega) (by omega)
    have FS : Fr FScr σ s4 := (F3.mono fun a k q => by have q1 := q.1; have q2 := q.2; unfold FScr; omega).trans (c3.mono fun a k q => by have q1 := q.1; have q2 := q.2; unfold FScr; omega)
    have hcp := cmp_pos w (spN w) (w 0) hDne
    have b1' : f_X5_add s2 489 (iZ (s : Int)) = some s3 := b1
    have c1' : f_X1_derive s3 441 489 (-1) = some s4 := c1
    have hget : f_X5_get s4 (ms_rf 441 3) 0 = some (iZ (((cmp w (spN w) (w 0) (dF w [s])).1[0] : Nat) : Int)) := get_in (k := 0) c2.2.2.1 hcp
    rw [btT q, x_rf10, a1, Option.bind_some, b1', Option.bind_some, x_rf6, c1', Option.bind_some, hget]
    have h4 := h.fr FS
    have hnS := m_noSign h4.2.2 h40 z1 z2
    rw [e0] at hnS
    obtain ⟨c, -, -, hcz⟩ := iZ_of (ms_i (ms_si (ms_si s4 493 7 0) 493 11 0) 493 12)
    have h5 := (h4.fr (fr7 s4 0)).fr (Fr.si (P := FScr) (ms_si s4 493 7 0) (a := 493) (k := 11) 0 (by unfold FScr; omega))
    obtain ⟨s6, d1, d2, d3⟩ := m_addExpanded hs hsn h5.2.2 (D := []) (fun y hy => by cases hy) ⟨Aw.nil _ _, by rw [i_si_same]; rfl, hcz⟩ (by simp)
    have hL : LayS s6 (dF w [s]) (c + (swF w [] (ex w s) : Int)) := by rw [hd]; exact d2
    have h6 := h5.fr (d3.mono fun a k q => by unfold FLay at q; unfold FScr; omega)
    have hok := dF_ok hs hm
    obtain ⟨s7, g1, g2, g3⟩ := m_layComposed hs rfl h6.2.2 hL (fun y hy => ⟨(hok y hy).1, (hok y hy).2.2⟩) (by have := dF_length hs hm; simp at this; omega)
    have hlen : (cmp w (spN w) (w 0) (dF w [s])).1.length ≤ 6 := by
      have hi := cmp_inv (sp := spN w) (fun y hy => ⟨(hok y hy).1, (hok y hy).2.2⟩) _ (Nat.le_refl (dF w [s]).length)
      rw [List.take_length] at hi
      have h1 := hi.2.1
      have h2 := dF_length hs hm
      simp at h2
      omega
    have hget2 : ms_ald s7 502 0 = some (iZ (((cmp w (spN w) (w 0) (dF w [s])).1[0] : Nat) : Int)) := by
      have e := ald_iZ (σ := s7) (a := 502) (k := 0) (by rw [m_ln.2.2.2.2.2.2.2.2.1]; omega) (by rw [m_ln.2.2.2.2.2.2.2.2.1]; omega)
      rw [g2.1 0 hcp] at e
      exact e
    have FM : Fr FScr s4 s7 := (((fr7 s4 0).trans (Fr.si (P := FScr) _ _ (by unfold FScr; omega))).trans (d3.mono fun a k q => by unfold FLay at q; unfold FScr; omega)).trans (g3.mono fun a k q => by unfold FCmp at q; unfold FScr; omega)
    refine ⟨_, s4, iZ (((cmp w (spN w) (w 0) (dF w [s])).1[0] : Nat) : Int), s7, rfl, FS, ?_, ⟨?_, rfl⟩, FM⟩
    · unfold f_X12_recomposed
      rw [hnS, b2_s, if_pos rfl, nm_s, d1, Option.bind_some, g1, Option.bind_some, m_rf13, hget2]
      rfl
    · rw [g3.1 _ _ (by unfold FCmp; omega), d3.1 _ _ (by unfold FLay; omega), i_si_ne (Or.inr (by omega)), i_si_same]
  · have e0 : (b01 (¬ (0 ≤ z ∧ z ≤ (w 0 : Int) - 1))) = 1 := by unfold b01; rw [if_pos q]
    rw [btF q]
    refine ⟨_, σ, 0, ms_si σ 493 7 1, rfl, Fr.refl _ _, ?_, i_si_same _ _ _ _, fr7 σ 1⟩
    unfold f_X12_recomposed
    rw [m_noSign h.2.2 h40 z1 z2, b2_s, e0, if_neg (by decide)]
end Sg3
