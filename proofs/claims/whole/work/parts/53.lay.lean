/-! the reference expands signs and lays the decomposed form -/
theorem m_parts_s {σ : MsSt} {a : Nat} {w : Nat → Nat} {n : Nat} (hw : Mw σ a w) (ha : MwAt a) (hs : SgsOK w n) : ∀ (s : Nat), s < n → ∀ (c f : Nat), s < f → c + s < 1000 → f_X12_parts_4 σ f a (iZ (c : Int)) (iZ (s : Int)) = some (iZ ((c + (ex w s).length - 1 : Nat) : Int)) := by
  intro s
  induction s using Nat.strongRecOn with
  | _ s ih =>
    intro hn c f hf hc
    have h40 := hs.1
    obtain ⟨m, rfl⟩ : ∃ m, f = m + 1 := ⟨f - 1, by omega⟩
    obtain ⟨⟨k1, k2, k3, k4⟩, k5⟩ := hs.2.1 s hn
    show (f_X12_of σ (iZ (s : Int)) 0).bind _ = _
    rw [of_0, Option.bind_some, mw_get hw ha (k := 247 + 7 * s) (by omega) (by omega), Option.bind_some]
    show (if iZ (Kd w s : Int) = 2 then _ else _) = _
    by_cases q : Kd w s = 2
    · obtain ⟨q1, q2, q3, q4, q5, q6⟩ := k4 q
      rw [ieqT rfl i2 (by omega), of_3, Option.bind_some, mw_get hw ha (k := 247 + 7 * s + 3) (by omega) (by omega), Option.bind_some, i1, iZ_add]
      have h1 := ih (sgF w s 3) q2 (by omega) (c + 1) m (by omega) (by omega)
      rw [show ((c + 1 : Nat) : Int) = (c : Int) + 1 from by push_cast; rfl] at h1
      refine h1.trans ?_
      rw [hs.exPair hn q, List.length_append, List.length_singleton]
      have := hs.exPos (s := sgF w s 3) (by omega)
      congr 3
      omega
    · rw [ieqF rfl i2 (by omega) (by omega) (by omega) (by omega) (by omega), ex_one q]
      rfl
theorem m_parts {σ : MsSt} {a : Nat} {w : Nat → Nat} {n s : Nat} (hw : Mw σ a w) (ha : MwAt a) (hs : SgsOK w n) (hn : s < n) : f_X12_parts σ a (iZ (s : Int)) = some (iZ ((ex w s).length : Int)) := by
  have h40 := hs.1
  have h1 := m_parts_s hw ha hs s hn 1 ms_fuel (by show s < 100000; omega) (by omega)
  unfold f_X12_parts
  rw [i1]
  refine h1.trans ?_
  congr 3
  omega
theorem m_expand_l {w : Nat → Nat} {n : Nat} (hs : SgsOK w n) : ∀ (s : Nat), s < n → ∀ (σ : MsSt) (f : Nat) (c : Int32), Mw σ 494 w → (ex w s).length ≤ f → 
    ∃ σ', f_X12_expand_16 f σ 493 c (iZ (s : Int)) (iZ (((ex w s).length : Int) - 1)) = some (c, σ') ∧ Aw σ' 500 (ex w s) ∧ Fr (fun a k => a = 500 ∧ k < (ex w s).length) σ σ' := by
  intro s
  induction s using Nat.strongRecOn with
  | _ s ih =>
    intro hn σ f c hw hf
    have h40 := hs.1
    have hpos := hs.exPos hn
    obtain ⟨m, rfl⟩ : ∃ m, f = m + 1 := ⟨f - 1, by omega⟩
    obtain ⟨⟨k1, k2, k3, k4⟩, k5⟩ := hs.2.1 s hn
    by_cases q : Kd w s = 2
    · obtain ⟨q1, q2, q3, q4, q5, q6⟩ := k4 q
      have e := hs.exPair hn q
      have hp := hs.exPos (s := sgF w s 3) (by omega)
      have el : (ex w s).length = (ex w (sgF w s 3)).length + 1 := by rw [e, List.length_append, List.length_singleton]
      have hF : Fr (fun a k => a = 500 ∧ k < (ex w s).length) σ (ms_si σ 500 (ex w (sgF w s 3)).length (iZ (sgF w s 4 : Int))) := Fr.si _ _ ⟨rfl, by omega⟩
      have hw' : Mw (ms_si σ 500 (ex w (sgF w s 3)).length (iZ (sgF w s 4 : Int))) 494 w := hw.fr hF (by intros; omega)
      obtain ⟨σ', a1, a2, a3⟩ := ih (sgF w s 3) q2 (by omega) (ms_si σ 500 (ex w (sgF w s 3)).length (iZ (sgF w s 4 : Int))) m c hw' (by omega)
      refine ⟨σ', ?_, ?_, hF.trans (a3.mono fun a k q => by omega)⟩
      · show (if 0 < iZ (((ex w s).length : Int) - 1) then _ else _) = _
        rw [iltT i0 rfl (by omega) (by omega) (by omega)]
        rw [of_4, Option.bind_some, m_rf0, mw_get hw (Or.inl rfl) (k := 247 + 7 * s + 4) (by omega) (by omega), Option.bind_some, m_rf9, ast_z (k := (ex w (sgF w s 3)).length) (by omega) (by rw [m_ln.2.2.2.2.2.2.1]; omega) (by rw [m_ln.2.2.2.2.2.2.1]; omega), Option.bind_some]
        rw [of_3, Option.bind_some]
        have hg := mw_get hw' (Or.inl rfl) (z := 247 + 7 * (s : Int) + 3) (k := 247 + 7 * s + 3) (by omega) (by omega)
        refine (congrArg (fun o => Option.bind o _) hg).trans ?_
        rw [Option.bind_some]
        rw [show iZ (((ex w s).length : Int) - 1) + -1 = iZ (((ex w (sgF w s 3)).length : Int) - 1) from by
          rw [← Int32.sub_eq_add_neg, i1, iZ_sub]
          congr 1
          omega]
        exact a1
      · intro k hk
        rw [el] at hk
        by_cases qk : k < (ex w (sgF w s 3)).length
        · rw [a2 k qk]
          simp only [e]
          rw [List.getElem_append_left qk]
        · rw [a3.1 500 k (by intros; omega)]
          have ek : k = (ex w (sgF w s 3)).length := by omega
          subst ek
          rw [i_si_same]
          simp only [e]
          rw [List.getElem_append_right (Nat.le_refl _)]
          simp
    · have e := ex_one q
      have el : (ex w s).length = 1 := by rw [e]; rfl
      refine ⟨ms_si σ 500 0 (iZ (s : Int)), ?_, ?_, Fr.si _ _ ⟨rfl, by omega⟩⟩
      · show (if 0 < iZ (((ex w s).length : Int) - 1) then _ else _) = _
        rw [iltF i0 rfl (by omega) (by omega) (by omega)]
        have h0 := ast_iZ (σ := σ) (a := 500) (k := 0) (v := iZ (s : Int)) (by rw [m_ln.2.2.2.2.2.2.1]; omega) (by rw [m_ln.2.2.2.2.2.2.1]; omega)
        rw [m_rf9]
        refine (congrArg (fun o => Option.bind o _) h0).trans ?_
        rfl
      · intro k hk
        rw [el] at hk
        have ek : k = 0 := by omega
        subst ek
        rw [i_si_same]
        simp only [e]
        rfl
theorem m_expand {w : Nat → Nat} {n s : Nat} {σ : MsSt} (hs : SgsOK w n) (hn : s < n) (hw : Mw σ 494 w) : ∃ σ', f_X12_expand σ 493 (iZ (s : Int)) = some (iZ ((ex w s).length : Int), σ') ∧ Aw σ' 500 (ex w s) ∧ Fr (fun a _ => a = 500) σ σ' := by
  have h6 := (hs.2.1 s hn).2
  obtain ⟨σ', a1, a2, a3⟩ := m_expand_l hs s hn σ ms_fuel (iZ ((ex w s).length : Int)) hw (by show _ ≤ 100000; omega)
  refine ⟨σ', ?_, a2, a3.mono fun a k q => q.1⟩
  unfold f_X12_expand
  rw [m_rf0, m_parts hw (Or.inl rfl) hs hn, Option.bind_some, i1, iZ_sub]
  exact a1
/-- the state of the reference while it lays: D lies there, c swaps so far -/
def LayS (σ : MsSt) (D : List Nat) (c : Int) : Prop := Aw σ 501 D ∧ ms_i σ 493 11 = iZ (D.length : Int) ∧ ms_i σ 493 12 = iZ c
def FLay : Nat → Nat → Prop := fun a k => a = 500 ∨ a = 501 ∨ (a = 493 ∧ (k = 11 ∨ k = 12))
theorem LayS.fr {σ σ' : MsSt} {D : List Nat} {c : Int} {P : Nat → Nat → Prop} (h : LayS σ D c) (hF : Fr P σ σ') (h1 : ∀ k, ¬ P 501 k) (h2 : ¬ P 493 11) (h3 : ¬ P 493 12) : LayS σ' D c :=
  ⟨h.1.fr hF h1, (hF.1 _ _ h2).trans h.2.1, (hF.1 _ _ h3).trans h.2.2⟩
theorem swF_append (w : Nat → Nat) : ∀ (P Q D : List Nat), swF w D (P ++ Q) = swF w D P + swF w (P.foldl (ins w) D) Q := by
  intro P
  induction P with
  | nil => intro Q D; simp [swF]
  | cons x P ih => intro Q D; rw [List.cons_append, swF, swF, ih, List.foldl_cons]; omega
theorem swF_one (w : Nat → Nat) (D : List Nat) (x : Nat) : swF w D [x] = insN w x D.reverse := by simp [swF]
theorem SgsOK.sgB {w : Nat → Nat} {n s x : Nat} (h : SgsOK w n) (hs : s < n) (hx : x ∈ ex w s) : SgB w x := by
  obtain ⟨h1, h2⟩ := h.exMem hs x hx
  obtain ⟨⟨k1, k2, k3, k4⟩, _⟩ := h.2.1 x h1
  have := h.1
  refine ⟨by omega, h2, ?_⟩
  by_cases q : Kd w x = 1
  · exact (k3 q).2.1
  · have := (k2 (by omega)).1
    omega
theorem m_addExpanded {w : Nat → Nat} {n s : Nat} {c : Int} {σ : MsSt} {D : List Nat} (hs : SgsOK w n) (hn : s < n) (hw : Mw σ 494 w) (hm : ∀ y ∈ D, SgB w y) (hL : LayS σ D c) (hl : D.length + 6 ≤ 361) :
    ∃ σ', f_X12_addExpanded σ 493 (iZ (s : Int)) = some σ' ∧ LayS σ' ((ex w s).foldl (ins w) D) (c + (swF w D (ex w s) : Int)) ∧ Fr FLay σ σ' := by
  obtain ⟨σ1, a1, a2, a3⟩ := m_expand hs hn hw
  have h6 := (hs.2.1 s hn).2
  have hF1 : Fr FLay σ σ1 := a3.mono fun a k q => Or.inl q
  have hL1 : LayS σ1 D c := hL.fr a3 (by intros; omega) (by intros; omega) (by intros; omega)
  have key := lp0 (S := MsSt × Int32) (f := fun n s' => f_X12_addExpanded_8 n s'.1 493 (iZ ((ex w s).length : Int)) s'.2) (Q := fun σ' => LayS σ' ((ex w s).foldl (ins w) D) (c + (swF w D (ex w s) : Int)) ∧ Fr FLay σ σ')
    (fun i s' => s'.2 = iZ (i : Int) ∧ i ≤ (ex w s).length ∧ Aw s'.1 500 (ex w s) ∧ LayS s'.1 (((ex w s).take i).foldl (ins w) D) (c + (swF w D ((ex w s).take i) : Int)) ∧ Fr FLay σ s'.1) (ex w s).length (s := (σ1, 0))
    ⟨rfl, Nat.zero_le _, a2, by simpa [swF] using hL1, hF1⟩ (by omega) ?_ ?_
  · obtain ⟨r, h1, h2⟩ := key
    refine ⟨r, ?_, h2⟩
    unfold f_X12_addExpanded
    rw [a1, b2_s]
    exact h1
  · rintro i ⟨s1, x⟩ ⟨hx, hi, hA, hLi, hFi⟩ hlt
    dsimp only at hx hA hLi hFi ⊢
    subst hx
    left
    have hwi : Mw s1 494 w := hw.fr hFi (by unfold FLay; intros; omega)
    have hmem : (ex w s)[i] ∈ ex w s := List.getElem_mem hlt
    obtain ⟨σ2, b1, b2, b3, b4, b5⟩ := m_add_s (hs.sgB hn hmem) hwi (D := ((ex w s).take i).foldl (ins w) D) (fun y hy => by
      rcases (foldl_ins_mem w y _ _).mp hy with h | h
      · exact hm y h
      · exact hs.sgB hn (List.mem_of_mem_take h)) hLi.2.1 hLi.2.2 hLi.1 (by rw [foldl_ins_length, List.length_take]; omega)
    refine ⟨(σ2, iZ ((i : Int) + 1)), ⟨by push_cast; rfl, hlt, hA.fr b5 (by intros; omega), ?_, hFi.trans (b5.mono fun a k q => by unfold FLay; omega)⟩, fun n => ?_⟩
    · rw [List.take_succ_eq_append_getElem hlt, List.foldl_append, swF_append, swF_one]
      refine ⟨b2, b3, ?_⟩
      rw [b4]
      congr 1
      omega
    · show (if iZ (i : Int) < iZ ((ex w s).length : Int) then _ else _) = _
      rw [iltT rfl rfl (by omega) (by omega) (by omega), m_rf9, ald_iZ (by rw [m_ln.2.2.2.2.2.2.1]; omega) (by rw [m_ln.2.2.2.2.2.2.1]; omega), hA i hlt, Option.bind_some, b1, Option.bind_some, i1, iZ_add]
  · rintro ⟨s1, x⟩ ⟨hx, hi, hA, hLi, hFi⟩
    dsimp only at hx hA hLi hFi ⊢
    subst hx
    rw [List.take_length] at hLi
    refine ⟨s1, ⟨hLi, hFi⟩, fun n => ?_⟩
    show (if iZ ((ex w s).length : Int) < iZ ((ex w s).length : Int) then _ else _) = _
    rw [iltF rfl rfl (by omega) (by omega) (by omega)]
/-- a row of signs expanded -/
def pn (w : Nat → Nat) (L : List Nat) : List Nat := L.flatMap (ex w)
theorem pn_take {w : Nat → Nat} {L : List Nat} {i : Nat} (h : i < L.length) : pn w (L.take (i + 1)) = pn w (L.take i) ++ ex w L[i] := by
  unfold pn
  rw [List.take_succ_eq_append_getElem h, List.flatMap_append]
  simp
theorem pn_length {w : Nat → Nat} {n : Nat} (hs : SgsOK w n) : ∀ (L : List Nat), (∀ x ∈ L, x < n) → (pn w L).length ≤ 6 * L.length := by
  intro L
  induction L with
  | nil => intro _; simp [pn]
  | cons x L ih =>
    intro h
    have h1 := ih fun y hy => h y (List.mem_cons_of_mem _ hy)
    have h2 := (hs.2.1 x (h x List.mem_cons_self)).2
    unfold pn at h1 ⊢
    rw [List.flatMap_cons, List.length_append, List.length_cons]
    omega
theorem pn_sgB {w : Nat → Nat} {n : Nat} (hs : SgsOK w n) {L : List Nat} (h : ∀ x ∈ L, x < n) : ∀ y ∈ pn w L, SgB w y := by
  intro y hy
  obtain ⟨x, hx, hy⟩ := List.mem_flatMap.mp hy
  exact hs.sgB (h x hx) hy
theorem pn_lt {w : Nat → Nat} {n : Nat} (hs : SgsOK w n) {L : List Nat} (h : ∀ x ∈ L, x < n) : ∀ y ∈ pn w L, y < n ∧ Kd w y ≤ 1 := by
  intro y hy
  obtain ⟨x, hx, hy⟩ := List.mem_flatMap.mp hy
  exact hs.exMem (h x hx) y hy
theorem WF.line {w : Nat → Nat} (h : WF w) {l : Nat} (hl : l < 4) : (∀ x ∈ ln w l, x < w 0) ∧ (ln w l).length ≤ 60 := by
  refine ⟨fun x hx => ?_, by rw [ln_length]; exact h.2.2.2.2.1 l hl⟩
  unfold ln at hx
  obtain ⟨p, hp, rfl⟩ := List.mem_map.mp hx
  exact h.2.2.2.2.2.2 l p hl (List.mem_range.mp hp)
/-- the decomposed form of a line -/
def dF (w : Nat → Nat) (L : List Nat) : List Nat := od w (pn w L)
theorem m_layDecomposed {w : Nat → Nat} {l : Nat} {σ : MsSt} (hW : WF w) (hl : l < 4) (hw : Mw σ 494 w) :
    ∃ σ', f_X12_layDecomposed σ 493 (iZ (l : Int)) = some σ' ∧ LayS σ' (dF w (ln w l)) (sw w (pn w (ln w l)) : Int) ∧ Fr FLay σ σ' := by
  obtain ⟨hm, h60⟩ := hW.line hl
  have hs := hW.1
  have hLn := ln_length w l
  have key := lp0 (S := MsSt × Int32) (f := fun n s' => f_X12_layDecomposed_12 n s'.1 493 (iZ (l : Int)) s'.2) (Q := fun σ' => LayS σ' (dF w (ln w l)) (sw w (pn w (ln w l)) : Int) ∧ Fr FLay σ σ')
    (fun i s' => s'.2 = iZ (i : Int) ∧ i ≤ (ln w l).length ∧ LayS s'.1 (od w (pn w ((ln w l).take i))) (sw w (pn w ((ln w l).take i)) : Int) ∧ Fr FLay σ s'.1) (ln w l).length (s := (ms_si (ms_si σ 493 11 0) 493 12 0, 0))
    ⟨rfl, Nat.zero_le _, ⟨Aw.nil _ _, by rw [i_si_ne (Or.inr (by omega)), i_si_same]; rfl, by rw [i_si_same]; rfl⟩, (Fr.si _ _ (Or.inr (Or.inr ⟨rfl, Or.inl rfl⟩))).trans (Fr.si _ _ (Or.inr (Or.inr ⟨rfl, Or.inr rfl⟩)))⟩ (by omega) ?_ ?_
  · obtain ⟨r, h1, h2⟩ := key
    refine ⟨r, ?_, h2⟩
    unfold f_X12_layDecomposed
    rw [nm_s, nm_s]
    exact h1
  · rintro i ⟨s1, x⟩ ⟨hx, hi, hLi, hFi⟩ hlt
    dsimp only at hx hLi hFi ⊢
    subst hx
    left
    have hwi : Mw s1 494 w := hw.fr hFi (by unfold FLay; intros; omega)
    have hin : (ln w l)[i] < w 0 := hm _ (List.getElem_mem hlt)
    have hmt : ∀ x ∈ (ln w l).take i, x < w 0 := fun x hx => hm x (List.mem_of_mem_take hx)
    have hlen := pn_length hs _ hmt
    rw [List.length_take] at hlen
    obtain ⟨σ2, b1, b2, b3⟩ := m_addExpanded hs hin hwi (D := od w (pn w ((ln w l).take i))) (fun y hy => pn_sgB hs hmt y ((od_mem w _ y).mp hy)) hLi (by rw [od_length]; omega)
    refine ⟨(σ2, iZ ((i : Int) + 1)), ⟨by push_cast; rfl, hlt, ?_, hFi.trans b3⟩, fun n => ?_⟩
    · rw [pn_take hlt]
      unfold od sw at b2 ⊢
      rw [List.foldl_append, swF_append]
      exact b2
    · have hlnl : (ln w l).length = w (3 + l) := hLn
      show (ms_ald s1 (ms_rf 493 0) (3 + iZ (l : Int))).bind _ = _
      rw [m_rf0, i3, iZ_add, mw_get hwi (Or.inl rfl) (k := 3 + l) (by omega) (by omega), Option.bind_some, iltT rfl rfl (by omega) (by omega) (by omega), spot_s, Option.bind_some, mw_get hwi (Or.inl rfl) (k := 7 + 60 * l + i) (by omega) (by omega), Option.bind_some]
      rw [ln_get w l i hlt] at b1
      rw [b1, Option.bind_some, i1, iZ_add]
  · rintro ⟨s1, x⟩ ⟨hx, hi, hLi, hFi⟩
    dsimp only at hx hLi hFi ⊢
    subst hx
    rw [List.take_length] at hLi
    have hwi : Mw s1 494 w := hw.fr hFi (by unfold FLay; intros; omega)
    refine ⟨s1, ⟨hLi, hFi⟩, fun n => ?_⟩
    show (ms_ald s1 (ms_rf 493 0) (3 + iZ (l : Int))).bind _ = _
    rw [m_rf0, i3, iZ_add, mw_get hwi (Or.inl rfl) (k := 3 + l) (by omega) (by omega), Option.bind_some, iltF rfl rfl (by omega) (by omega) (by omega)]
