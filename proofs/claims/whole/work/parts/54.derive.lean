/-! the system expands a row and puts it in order -/
def FmAt (F : Nat) : Prop := F = 441 ∨ F = 454
theorem fm_refs {F : Nat} (h : FmAt F) : ms_rf F 0 = 3 ∧ ms_rf F 1 = F + 1 ∧ ms_rf F 2 = F + 3 ∧ ms_rf F 3 = F + 5 ∧ ms_rf F 4 = F + 7 ∧ ms_rf F 5 = F + 9 ∧ ms_rf F 6 = F + 11 := by
  rcases h with rfl | rfl <;> decide +kernel
theorem fm_rows {F : Nat} (h : FmAt F) : RowAt (F + 1) 360 ∧ RowAt (F + 3) 360 ∧ RowAt (F + 5) 360 ∧ RowAt (F + 7) 60 ∧ RowAt (F + 9) 60 ∧ RowAt (F + 11) 60 := by
  rcases h with rfl | rfl <;> exact ⟨⟨by decide +kernel, by decide +kernel, by omega⟩, ⟨by decide +kernel, by decide +kernel, by omega⟩, ⟨by decide +kernel, by decide +kernel, by omega⟩, ⟨by decide +kernel, by decide +kernel, by omega⟩, ⟨by decide +kernel, by decide +kernel, by omega⟩, ⟨by decide +kernel, by decide +kernel, by omega⟩⟩
theorem fm_lo {F : Nat} (h : FmAt F) : 441 ≤ F ∧ F ≤ 454 := by rcases h with rfl | rfl <;> omega
theorem c_expandAll {σ : MsSt} {w : Nat → Nat} {n F r N : Nat} {L : List Nat} (hs : SgsOK w n) (hc : ScRep σ 3 w n) (hF : FmAt F) (hL : Rw cN σ r N L) (hm : ∀ x ∈ L, x < n) (h60 : L.length ≤ 60) (hr : r + 2 ≤ F ∨ F + 13 ≤ r) :
    ∃ σ', f_X1_expandAll σ F r = some σ' ∧ Rw cN σ' (F + 1) 360 (pn w L) ∧ Fr (In (F + 1) (F + 3)) σ σ' := by
  obtain ⟨r0, r1, r2, r3, r4, r5, r6⟩ := fm_refs hF
  have hlo := fm_lo hF
  obtain ⟨s1, a1, a2, a3⟩ := clear_s (e := cN) (σ := σ) (fm_rows hF).1
  have key := lp0 (S := MsSt × Int32) (f := fun n s => f_X1_expandAll_9 n s.1 F r s.2) (Q := fun σ' => Rw cN σ' (F + 1) 360 (pn w L) ∧ Fr (In (F + 1) (F + 3)) σ σ')
    (fun i s => s.2 = iZ (i : Int) ∧ i ≤ L.length ∧ Rw cN s.1 (F + 1) 360 (pn w (L.take i)) ∧ Fr (In (F + 1) (F + 3)) σ s.1) L.length (s := (s1, 0)) ⟨rfl, Nat.zero_le _, by simpa [pn] using a2, a3⟩ (by omega) ?_ ?_
  · obtain ⟨x, h1, h2⟩ := key
    refine ⟨x, ?_, h2⟩
    unfold f_X1_expandAll
    rw [r1, a1, Option.bind_some]
    exact h1
  · rintro i ⟨s, x⟩ ⟨hx, hi, hR, hFi⟩ hlt
    dsimp only at hx hR hFi ⊢
    subst hx
    left
    have hin := hm _ (List.getElem_mem hlt)
    have hLi := hL.away hFi (by omega)
    have hci := hc.away hFi hs.1 (by omega)
    have hlen := pn_length hs (L.take i) (fun x hx => hm x (List.mem_of_mem_take hx))
    rw [List.length_take] at hlen
    have h6 := (hs.2.1 _ hin).2
    have h40 := hs.1
    have hE := (hci.2 _ hin).2.2.2.1
    obtain ⟨s', b1, b2, b3⟩ := addAll_s hR hE (by omega) (by omega)
    refine ⟨(s', iZ ((i : Int) + 1)), ⟨by push_cast; rfl, hlt, by rw [pn_take hlt]; exact b2, hFi.trans b3⟩, fun n => ?_⟩
    show (if iZ (i : Int) < ms_i s r 1 then _ else _) = _
    rw [hLi.cnt, iltT rfl rfl (by omega) (by omega) (by omega), get_in hLi hlt, Option.bind_some, r0]
    show (f_X6_told s 3 (iZ ((L[i] : Nat) : Int))).bind _ = _
    rw [told_s (Or.inl rfl) (by omega), Option.bind_some, r1, (sc_sign (Or.inl rfl) (by omega)).2.1, b1, Option.bind_some, i1, iZ_add]
  · rintro ⟨s, x⟩ ⟨hx, hi, hR, hFi⟩
    dsimp only at hx hR hFi ⊢
    subst hx
    rw [List.take_length] at hR
    refine ⟨s, ⟨hR, hFi⟩, fun n => ?_⟩
    show (if iZ (L.length : Int) < ms_i s r 1 then _ else _) = _
    rw [(hL.away hFi (by omega)).cnt, iltF rfl rfl (by omega) (by omega) (by omega)]
theorem insL_base {w : Nat → Nat} {x : Nat} (h : Kd w x ≠ 1) (A B : List Nat) : insL w x A B = A.reverse ++ x :: B := by
  cases A with
  | nil => rfl
  | cons y A =>
    rw [insL_f fun q => h q.1]
theorem SgsOK.skip {w : Nat → Nat} {n y : Nat} (h : SgsOK w n) (hy : y < n) (hk : Kd w y ≤ 1) (x : Nat) : (Kd w y = 1 ∧ Cl w x < Cl w y) ↔ Cl w x < Cl w y := by
  constructor
  · exact fun q => q.2
  · intro q
    refine ⟨?_, q⟩
    by_cases q0 : Kd w y = 0
    · have := ((h.2.1 y hy).1.2.1 q0).1
      omega
    · omega
theorem set_mid (A : List Nat) (h v : Nat) (B : List Nat) : (A ++ h :: B).set A.length v = A ++ v :: B := by
  rw [List.set_append_right _ _ (Nat.le_refl _)]
  simp
theorem c_sink_l {w : Nat → Nat} {n F x : Nat} (hs : SgsOK w n) (hF : FmAt F) (hx : x < n) (hk : Kd w x = 1) : ∀ (A B R : List Nat) (h f : Nat) (σ : MsSt), ScRep σ 3 w n → (∀ y ∈ A, y < n ∧ Kd w y ≤ 1) → Rw cN σ (F + 3) 360 (A.reverse ++ h :: (B ++ R)) → A.length < f →
    ∃ σ', f_X1_sinkMark_24 f σ F (iZ (x : Int)) (iZ (A.length : Int)) = some σ' ∧ Rw cN σ' (F + 3) 360 (insL w x A B ++ R) ∧ Fr (In (F + 3) (F + 5)) σ σ' := by
  obtain ⟨r0, r1, r2, r3, r4, r5, r6⟩ := fm_refs hF
  have hlo := fm_lo hF
  have h40 := hs.1
  intro A
  induction A with
  | nil =>
    intro B R h f σ hc hA hR hf
    obtain ⟨m, rfl⟩ : ∃ m, f = m + 1 := ⟨f - 1, by omega⟩
    obtain ⟨σ', a1, a2, a3⟩ := put_s hR (k := 0) (by simp) x
    refine ⟨σ', ?_, ?_, a3⟩
    · show (if 0 < iZ ((([] : List Nat).length : Nat) : Int) then _ else _) = _
      rw [iltF i0 rfl (by simp) (by simp) (by omega), r2]
      have a1' : f_X5_put σ (F + 3) (iZ ((([] : List Nat).length : Nat) : Int)) (iZ (x : Int)) = some σ' := a1
      rw [a1']
      rfl
    · simpa [insL] using a2
  | cons y A ih =>
    intro B R h f σ hc hA hR hf
    obtain ⟨m, rfl⟩ : ∃ m, f = m + 1 := ⟨f - 1, by omega⟩
    rw [List.length_cons] at hf
    have hy := hA y List.mem_cons_self
    have hlen := hR.2.1
    have hRl : ((y :: A).reverse ++ h :: (B ++ R)).length = A.length + 2 + (B ++ R).length := by simp; omega
    have hg : f_X5_get σ (F + 3) (iZ ((A.length : Nat) : Int)) = some (iZ (y : Int)) := by
      rw [get_in hR (k := A.length) (by omega)]
      simp only [List.reverse_cons, List.append_assoc]
      rw [List.getElem_append_right (by simp)]
      simp [cN]
    have e1 : iZ (((y :: A).length : Nat) : Int) - 1 = iZ ((A.length : Nat) : Int) := by
      rw [i1, iZ_sub, List.length_cons]
      congr 1
      omega
    have hhead : ∀ o1 o2 : Option MsSt, (if 0 < iZ (((y :: A).length : Nat) : Int) then o1 else o2) = o1 := by
      intro o1 o2
      rw [iltT i0 rfl (by omega) (by rw [List.length_cons]; omega) (by rw [List.length_cons]; omega)]
    have cx := classOf_s hc (Or.inl rfl) hx h40
    have cy := classOf_s hc (Or.inl rfl) hy.1 h40
    have bx := (SgsOK.sgB hs hx (x := x) (by rw [ex_one (by omega)]; simp)).2.2
    have by' : Cl w y ≤ 60 := (SgsOK.sgB hs hy.1 (x := y) (by rw [ex_one (by omega)]; simp)).2.2
    by_cases q : Cl w x < Cl w y
    · have q1 := ((hs.skip hy.1 hy.2 x).mpr q).1
      obtain ⟨σ1, a1, a2, a3⟩ := put_s hR (k := A.length + 1) (by omega) y
      have hset : ((y :: A).reverse ++ h :: (B ++ R)).set (A.length + 1) y = A.reverse ++ y :: ((y :: B) ++ R) := by
        have := set_mid (y :: A).reverse h y (B ++ R)
        rw [List.length_reverse, List.length_cons] at this
        rw [this]
        simp
      rw [hset] at a2
      obtain ⟨σ2, b1, b2, b3⟩ := ih (y :: B) R y m σ1 (hc.away a3 h40 (by omega)) (fun z hz => hA z (List.mem_cons_of_mem _ hz)) a2 (by omega)
      refine ⟨σ2, ?_, ?_, a3.trans b3⟩
      · show (if 0 < iZ (((y :: A).length : Nat) : Int) then _ else _) = _
        rw [hhead, r2, r0, e1, hg, Option.bind_some, cy, Option.bind_some, cx, Option.bind_some, iltT rfl rfl (by omega) (by omega) (by omega), Option.bind_some]
        have a1' : f_X5_put σ (F + 3) (iZ (((y :: A).length : Nat) : Int)) (iZ (y : Int)) = some σ1 := a1
        rw [a1', Option.bind_some, show iZ (((y :: A).length : Nat) : Int) + -1 = iZ ((A.length : Nat) : Int) from by rw [← Int32.sub_eq_add_neg]; exact e1]
        exact b1
      · rw [insL_t ⟨hk, q1, q⟩]
        exact b2
    · obtain ⟨σ1, a1, a2, a3⟩ := put_s hR (k := A.length + 1) (by omega) x
      refine ⟨σ1, ?_, ?_, a3⟩
      · show (if 0 < iZ (((y :: A).length : Nat) : Int) then _ else _) = _
        rw [hhead, r2, r0, e1, hg, Option.bind_some, cy, Option.bind_some, cx, Option.bind_some, iltF rfl rfl (by omega) (by omega) (by omega)]
        have a1' : f_X5_put σ (F + 3) (iZ (((y :: A).length : Nat) : Int)) (iZ (x : Int)) = some σ1 := a1
        rw [a1']
        rfl
      · have hset : ((y :: A).reverse ++ h :: (B ++ R)).set (A.length + 1) x = insL w x (y :: A) B ++ R := by
          have := set_mid (y :: A).reverse h x (B ++ R)
          rw [List.length_reverse, List.length_cons] at this
          rw [this, insL_f fun g => q g.2.2]
          simp
        rw [hset] at a2
        exact a2
theorem c_sinkMark {w : Nat → Nat} {n F x : Nat} {D R : List Nat} {σ : MsSt} (hs : SgsOK w n) (hF : FmAt F) (hx : x < n) (hc : ScRep σ 3 w n) (hD : ∀ y ∈ D, y < n ∧ Kd w y ≤ 1) (hR : Rw cN σ (F + 3) 360 (D ++ x :: R)) :
    ∃ σ', f_X1_sinkMark σ F (iZ (D.length : Int)) = some σ' ∧ Rw cN σ' (F + 3) 360 (ins w D x ++ R) ∧ Fr (In (F + 3) (F + 5)) σ σ' := by
  obtain ⟨r0, r1, r2, r3, r4, r5, r6⟩ := fm_refs hF
  have h40 := hs.1
  have hlen := hR.2.1
  rw [List.length_append] at hlen
  have hg : f_X5_get σ (F + 3) (iZ (D.length : Int)) = some (iZ (x : Int)) := by
    rw [get_in hR (by simp)]
    rw [List.getElem_append_right (Nat.le_refl _)]
    simp [cN]
  have hkb := (hs.2.1 x hx).1.1
  unfold f_X1_sinkMark
  rw [r2, hg, Option.bind_some, r0, kindOf_s hc (Or.inl rfl) hx h40, Option.bind_some]
  by_cases q : Kd w x = 1
  · rw [ieqT rfl i1 (by omega)]
    have h1 := c_sink_l hs hF hx q D.reverse [] R x ms_fuel σ hc (fun y hy => hD y (List.mem_reverse.mp hy)) (by simpa using hR) (by rw [List.length_reverse]; show D.length < 100000; omega)
    rw [List.length_reverse] at h1
    exact h1
  · rw [ieqF rfl i1 (by omega) (by omega) (by omega) (by omega) (by omega)]
    refine ⟨σ, rfl, ?_, Fr.refl _ _⟩
    unfold ins
    rw [insL_base q]
    simpa using hR
/-! clusters -/
def bgf (w : Nat → Nat) (D : List Nat) (k : Nat) : Bool := k == 0 || Kd w (D.getD k 0) != 1
def bgn (w : Nat → Nat) (D : List Nat) (i : Nat) : List Nat := (List.range i).filter (bgf w D)
def bg (w : Nat → Nat) (D : List Nat) : List Nat := bgn w D D.length
def bsv (w : Nat → Nat) (D : List Nat) (k : Nat) : Int := if Kd w (D.getD k 0) = 1 then -1 else ((D.getD k 0 : Nat) : Int)
def cI : Int → Int := fun x => x
theorem bgn_succ (w : Nat → Nat) (D : List Nat) (i : Nat) : bgn w D (i + 1) = if bgf w D i = true then bgn w D i ++ [i] else bgn w D i := by
  unfold bgn
  rw [List.range_succ, List.filter_append]
  by_cases q : bgf w D i = true
  · rw [if_pos q]
    simp [q]
  · rw [if_neg q]
    simp [q]
theorem bgn_mono (w : Nat → Nat) (D : List Nat) {i j : Nat} (h : i ≤ j) : (bgn w D i).length ≤ (bgn w D j).length := by
  induction h with
  | refl => exact Nat.le_refl _
  | @step j _ ih =>
    rw [bgn_succ]
    split
    · rw [List.length_append]; omega
    · exact ih
theorem c_findClusters {w : Nat → Nat} {n F : Nat} {D : List Nat} {σ : MsSt} (hs : SgsOK w n) (hF : FmAt F) (hc : ScRep σ 3 w n) (hD : ∀ y ∈ D, y < n ∧ Kd w y ≤ 1) (hR : Rw cN σ (F + 3) 360 D) (h60 : (bg w D).length ≤ 60) :
    ∃ σ', f_X1_findClusters σ F = some σ' ∧ Rw cN σ' (F + 7) 60 (bg w D) ∧ Rw cI σ' (F + 9) 60 ((bg w D).map (bsv w D)) ∧ Fr (In (F + 7) (F + 11)) σ σ' := by
  obtain ⟨r0, r1, r2, r3, r4, r5, r6⟩ := fm_refs hF
  obtain ⟨w1, w2, w3, w4, w5, w6⟩ := fm_rows hF
  have hlo := fm_lo hF
  have h40 := hs.1
  have hlen := hR.2.1
  obtain ⟨s1, a1, a2, a3⟩ := clear_s (e := cN) (σ := σ) w4
  obtain ⟨s2, b1, b2, b3⟩ := clear_s (e := cI) (σ := s1) w5
  have F0 : Fr (In (F + 7) (F + 11)) σ s2 := (a3.widen (by omega) (by omega)).trans (b3.widen (by omega) (by omega))
  have key := lp0 (S := MsSt × Int32) (f := fun n s => f_X1_findClusters_16 n s.1 F s.2) (Q := fun σ' => Rw cN σ' (F + 7) 60 (bg w D) ∧ Rw cI σ' (F + 9) 60 ((bg w D).map (bsv w D)) ∧ Fr (In (F + 7) (F + 11)) σ σ')
    (fun i s => s.2 = iZ (i : Int) ∧ i ≤ D.length ∧ Rw cN s.1 (F + 7) 60 (bgn w D i) ∧ Rw cI s.1 (F + 9) 60 ((bgn w D i).map (bsv w D)) ∧ Fr (In (F + 7) (F + 11)) σ s.1) D.length (s := (s2, 0))
    ⟨rfl, Nat.zero_le _, by simpa [bgn] using a2.away b3 (by omega), by simpa [bgn] using b2, F0⟩ (by omega) ?_ ?_
  · obtain ⟨x, h1, h2⟩ := key
    refine ⟨x, ?_, h2⟩
    unfold f_X1_findClusters
    rw [r4, a1, Option.bind_some, r5, b1, Option.bind_some]
    exact h1
  · rintro i ⟨s, x⟩ ⟨hx, hi, hA, hB, hFi⟩ hlt
    dsimp only at hx hA hB hFi ⊢
    subst hx
    left
    have hRi := hR.away hFi (by omega)
    have hci := hc.away hFi h40 (by omega)
    have hmem := hD _ (List.getElem_mem hlt)
    have hgd : D.getD i 0 = D[i] := by rw [List.getD_eq_getElem?_getD, List.getElem?_eq_getElem hlt]; rfl
    have hmono : (bgn w D (i + 1)).length ≤ (bg w D).length := bgn_mono w D (Nat.succ_le_of_lt hlt)
    have hkz : ∀ o1 o2 : Option MsSt, (if iZ (i : Int) = 0 then o1 else o2) = if i = 0 then o1 else o2 := by
      intro o1 o2
      by_cases q : i = 0
      · rw [ieqT rfl i0 (by omega), if_pos q]
      · rw [ieqF rfl i0 (by omega) (by omega) (by omega) (by omega) (by omega), if_neg q]
    have hstep : ∀ n, f_X1_findClusters_16 (n + 1) s F (iZ (i : Int)) = f_X1_findClusters_50 (f_X1_findClusters_16 n) s F (iZ (i : Int)) (if Kd w D[i] = 0 then 1 else 0) := by
      intro n
      show (if iZ (i : Int) < ms_i s (ms_rf F 2) 1 then _ else _) = _
      rw [r2, hRi.cnt, iltT rfl rfl (by omega) (by omega) (by omega), get_in hRi hlt, Option.bind_some, r0]
      show (f_X6_kindOf s 3 (iZ ((D[i] : Nat) : Int))).bind _ = _
      rw [kindOf_s hci (Or.inl rfl) hmem.1 h40, Option.bind_some]
      by_cases q : Kd w D[i] = 0
      · rw [ieqT rfl i0 (by omega), if_pos q]
      · rw [ieqF rfl i0 (by omega) (by omega) (by omega) (by omega) (by omega), if_neg q]
    by_cases hbf : bgf w D i = true
    · rw [bgn_succ, if_pos hbf, List.length_append] at hmono
      obtain ⟨s3, c1, c2, c3⟩ := add_s hA (by rw [List.length_singleton] at hmono; omega) i
      obtain ⟨s4, d1, d2, d3⟩ := add_s (hB.away c3 (by omega)) (by rw [List.length_map]; rw [List.length_singleton] at hmono; omega) (bsv w D i)
      refine ⟨(s4, iZ ((i : Int) + 1)), ⟨by push_cast; rfl, hlt, ?_, ?_, (hFi.trans (c3.widen (by omega) (by omega))).trans (d3.widen (by omega) (by omega))⟩, fun n => ?_⟩
      · rw [bgn_succ, if_pos hbf]
        exact c2.away d3 (by omega)
      · rw [bgn_succ, if_pos hbf, List.map_append]
        exact d2
      · have h59 : f_X1_findClusters_59 (f_X1_findClusters_16 n) s F (iZ (i : Int)) (if Kd w D[i] = 0 then 1 else 0) = f_X1_findClusters_16 n s4 F (iZ ((i : Int) + 1)) := by
          unfold f_X1_findClusters_59
          have c1' : f_X5_add s (F + 7) (iZ (i : Int)) = some s3 := c1
          rw [r4, c1', Option.bind_some, r5, r2]
          by_cases q : Kd w D[i] = 0
          · simp only [if_pos q]
            have hbs : bsv w D i = ((D[i] : Nat) : Int) := by
              unfold bsv
              rw [hgd, if_neg (by omega)]
            rw [if_neg (by decide), get_in (hRi.away c3 (by omega)) hlt, Option.bind_some]
            have d1' : f_X5_add s3 (F + 9) (iZ (cN D[i])) = some s4 := by
              rw [show cN D[i] = cI (bsv w D i) from hbs.symm]
              exact d1
            rw [d1', Option.bind_some, i1, iZ_add]
          · simp only [if_neg q]
            have hbs : bsv w D i = -1 := by
              unfold bsv
              rw [hgd, if_pos (by omega)]
            have d1' : f_X5_add s3 (F + 9) (-1) = some s4 := by
              rw [im1, show (-1 : Int) = cI (bsv w D i) from hbs.symm]
              exact d1
            rw [if_pos (by decide), d1', Option.bind_some, i1, iZ_add]
        rw [hstep]
        unfold f_X1_findClusters_50
        rw [hkz]
        by_cases q0 : i = 0
        · rw [if_pos q0]
          exact h59
        · rw [if_neg q0]
          have hk : Kd w D[i] = 0 := by
            unfold bgf at hbf
            rw [hgd] at hbf
            simp [q0] at hbf
            have := hmem.2
            omega
          rw [if_pos hk] at h59 ⊢
          rw [if_neg (by decide)]
          exact h59
    · refine ⟨(s, iZ ((i : Int) + 1)), ⟨by push_cast; rfl, hlt, by rw [bgn_succ, if_neg hbf]; exact hA, by rw [bgn_succ, if_neg hbf]; exact hB, hFi⟩, fun n => ?_⟩
      have hq : i ≠ 0 ∧ Kd w D[i] = 1 := by
        unfold bgf at hbf
        rw [hgd] at hbf
        simpa using hbf
      rw [hstep]
      unfold f_X1_findClusters_50
      have hk0 : (if Kd w D[i] = 0 then (1 : Int32) else 0) = 0 := if_neg (by omega)
      rw [hkz, if_neg hq.1, hk0, if_pos rfl, i1, iZ_add]
  · rintro ⟨s, x⟩ ⟨hx, hi, hA, hB, hFi⟩
    dsimp only at hx hA hB hFi ⊢
    subst hx
    refine ⟨s, ⟨hA, hB, hFi⟩, fun n => ?_⟩
    show (if iZ (D.length : Int) < ms_i s (ms_rf F 2) 1 then _ else _) = _
    rw [r2, (hR.away hFi (by omega)).cnt, iltF rfl rfl (by omega) (by omega) (by omega)]
