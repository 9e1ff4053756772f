/-! the system derives the forms of a row -/
def kpt (w : Nat → Nat) (sp : Nat → Bool) (n : Nat) (D : List Nat) (c : Nat) : Nat := (cmp w sp n (D.take (be w D (c + 1)))).1.length - (cmp w sp n (D.take (be w D c))).1.length
def kp (w : Nat → Nat) (sp : Nat → Bool) (n : Nat) (D : List Nat) (k : Nat) : List Nat := (List.range k).map (kpt w sp n D)
theorem kp_succ (w : Nat → Nat) (sp : Nat → Bool) (n : Nat) (D : List Nat) (k : Nat) : kp w sp n D (k + 1) = kp w sp n D k ++ [kpt w sp n D k] := by
  unfold kp
  rw [List.range_succ, List.map_append]
  rfl
theorem kp_length (w : Nat → Nat) (sp : Nat → Bool) (n : Nat) (D : List Nat) (k : Nat) : (kp w sp n D k).length = k := by
  unfold kp
  rw [List.length_map, List.length_range]
theorem cstep_grow (w : Nat → Nat) (sp : Nat → Bool) (n : Nat) (s : CSt) (x : Nat) : s.1.length ≤ (cstep w sp n s x).1.length := by
  unfold cstep
  split
  · split
    · simp [cSet]
    · simp [cStay]
  · simp [cBase]
theorem foldl_grow (w : Nat → Nat) (sp : Nat → Bool) (n : Nat) : ∀ (L : List Nat) (s : CSt), s.1.length ≤ (L.foldl (cstep w sp n) s).1.length := by
  intro L
  induction L with
  | nil => intro s; exact Nat.le_refl _
  | cons x L ih => intro s; rw [List.foldl_cons]; exact Nat.le_trans (cstep_grow w sp n s x) (ih _)
theorem cmp_grow (w : Nat → Nat) (sp : Nat → Bool) (n : Nat) (D : List Nat) {i j : Nat} (h : i ≤ j) : (cmp w sp n (D.take i)).1.length ≤ (cmp w sp n (D.take j)).1.length := by
  have e : D.take j = D.take i ++ (D.drop i).take (j - i) := by
    have := List.take_add (l := D) (i := i) (j := j - i)
    rw [show i + (j - i) = j from by omega] at this
    exact this
  unfold cmp
  rw [e, List.foldl_append]
  exact foldl_grow w sp n _ _
def DvR (σ : MsSt) (F : Nat) (w : Nat → Nat) (sp : Nat → Bool) (n : Nat) (L : List Nat) : Prop :=
  Rw cN σ (F + 1) 360 (pn w L) ∧ FmR σ F w (dF w L) ∧ Rw cN σ (F + 5) 360 (cmp w sp n (dF w L)).1 ∧ Rw cN σ (F + 11) 60 (kp w sp n (dF w L) (bg w (dF w L)).length)
theorem DvR.away {σ σ' : MsSt} {F : Nat} {w : Nat → Nat} {sp : Nat → Bool} {n : Nat} {L : List Nat} {lo hi : Nat} (h : DvR σ F w sp n L) (hF : Fr (In lo hi) σ σ') (hd : F + 13 ≤ lo ∨ hi ≤ F + 1) : DvR σ' F w sp n L :=
  ⟨h.1.away hF (by omega), h.2.1.away hF (by omega), h.2.2.1.away hF (by omega), h.2.2.2.away hF (by omega)⟩
theorem dF_ok {w : Nat → Nat} {n : Nat} (hs : SgsOK w n) {L : List Nat} (h : ∀ x ∈ L, x < n) : ∀ y ∈ dF w L, y < n ∧ Kd w y ≤ 1 ∧ Cl w y ≤ 60 := by
  intro y hy
  have hy' := (od_mem w _ y).mp hy
  exact ⟨(pn_lt hs h y hy').1, (pn_lt hs h y hy').2, (pn_sgB hs h y hy').2.2⟩
theorem dF_length {w : Nat → Nat} {n : Nat} (hs : SgsOK w n) {L : List Nat} (h : ∀ x ∈ L, x < n) : (dF w L).length ≤ 6 * L.length := by
  unfold dF
  rw [od_length]
  exact pn_length hs L h
theorem c_derive_t {σ : MsSt} {w : Nat → Nat} {n F : Nat} {L : List Nat} {sp : Nat → Bool} {fr : Int} (hs : SgsOK w n) (hc : ScRep σ 3 w n) (hF : FmAt F) (hm : ∀ x ∈ L, x < n) (h60 : L.length ≤ 60) (hO : Rw cN σ (F + 3) 360 (dF w L))
    (hsp : ∀ p, p < n → Kd w p = 2 → sp p = (sgF w p 5 != 0 && !decide ((p : Int) = fr))) (f1 : -1 ≤ fr) (f2 : fr < 1000) :
    ∃ σ', ((f_X1_findClusters σ F).bind fun s3 => (f_X5_clear s3 (ms_rf F 3)).bind fun s4 => (f_X5_clear s4 (ms_rf F 6)).bind fun s5 => f_X1_derive_60 ms_fuel s5 F (iZ fr) 0) = some σ' ∧ FmR σ' F w (dF w L) ∧ Rw cN σ' (F + 5) 360 (cmp w sp n (dF w L)).1 ∧ Rw cN σ' (F + 11) 60 (kp w sp n (dF w L) (bg w (dF w L)).length) ∧ Fr (In (F + 5) (F + 13)) σ σ' := by
  obtain ⟨r0, r1, r2, r3, r4, r5, r6⟩ := fm_refs hF
  obtain ⟨w1, w2, w3, w4, w5, w6⟩ := fm_rows hF
  have hlo := fm_lo hF
  have h40 := hs.1
  have hok := dF_ok hs hm
  have hdl := dF_length hs hm
  have hbg := bg_length hs hm
  obtain ⟨s3, a1, a2, a3, a4⟩ := c_findClusters hs hF hc (fun y hy => ⟨(hok y hy).1, (hok y hy).2.1⟩) hO (by omega)
  obtain ⟨s4, b1, b2, b3⟩ := clear_s (e := cN) (σ := s3) w3
  obtain ⟨s5, c1, c2, c3⟩ := clear_s (e := cN) (σ := s4) w6
  have F5 : Fr (In (F + 5) (F + 13)) σ s5 := ((a4.widen (by omega) (by omega)).trans (b3.widen (by omega) (by omega))).trans (c3.widen (by omega) (by omega))
  have hFm : FmR s5 F w (dF w L) := (FmR.away (FmR.away (σ := s3) ⟨hO.away a4 (by omega), a2, a3⟩ b3 (by omega)) c3 (by omega))
  have key := lp0 (S := MsSt × Int32) (f := fun n' s => f_X1_derive_60 n' s.1 F (iZ fr) s.2) (Q := fun σ' => FmR σ' F w (dF w L) ∧ Rw cN σ' (F + 5) 360 (cmp w sp n (dF w L)).1 ∧ Rw cN σ' (F + 11) 60 (kp w sp n (dF w L) (bg w (dF w L)).length) ∧ Fr (In (F + 5) (F + 13)) σ σ')
    (fun i s => s.2 = iZ (i : Int) ∧ i ≤ (bg w (dF w L)).length ∧ FmR s.1 F w (dF w L) ∧ Rw cN s.1 (F + 5) 360 (cmp w sp n ((dF w L).take (be w (dF w L) i))).1 ∧ Rw cN s.1 (F + 11) 60 (kp w sp n (dF w L) i) ∧ Fr (In (F + 5) (F + 13)) σ s.1) (bg w (dF w L)).length (s := (s5, 0))
    ⟨rfl, Nat.zero_le _, hFm, by rw [be_zero, List.take_zero]; exact b2.away c3 (by omega), c2, F5⟩ (by omega) ?_ ?_
  · obtain ⟨x, h1, h2⟩ := key
    refine ⟨x, ?_, h2⟩
    rw [a1, Option.bind_some, r3, b1, Option.bind_some, r6, c1, Option.bind_some]
    exact h1
  · rintro i ⟨s, x⟩ ⟨hx, hi, hA, hB, hK, hFi⟩ hlt
    dsimp only at hx hA hB hK hFi ⊢
    subst hx
    left
    have hci := hc.away hFi h40 (by omega)
    have hbe := be_lt hlt
    obtain ⟨s6, d1, d2, d3⟩ := c_composeCluster hs hF hci hok (od_srt w _) hA hsp f1 f2 hlt hB
    have hcr := cmp_grow w sp n (dF w L) (Nat.le_of_lt hbe.1)
    obtain ⟨s7, e1, e2, e3⟩ := add_s (hK.away d3 (by omega)) (by rw [kp_length]; omega) (kpt w sp n (dF w L) i)
    refine ⟨(s7, iZ ((i : Int) + 1)), ⟨by push_cast; rfl, hlt, (hA.away d3 (by omega)).away e3 (by omega), d2.away e3 (by omega), by rw [kp_succ]; exact e2, (hFi.trans (d3.widen (by omega) (by omega))).trans (e3.widen (by omega) (by omega))⟩, fun n' => ?_⟩
    show (if iZ (i : Int) < ms_i s (ms_rf F 4) 1 then _ else _) = _
    have hb1 := d2.len
    have hb2 := hB.len
    rw [r4, iltT rfl hA.2.1.cnt (by omega) (by omega) (by omega), d1, Option.bind_some, r3, r6, d2.cnt, hB.cnt, iZ_sub]
    have ek : iZ (((cmp w sp n ((dF w L).take (be w (dF w L) (i + 1)))).1.length : Int) - ((cmp w sp n ((dF w L).take (be w (dF w L) i))).1.length : Int)) = iZ (cN (kpt w sp n (dF w L) i)) := by
      unfold cN kpt
      congr 1
      omega
    rw [ek, e1, Option.bind_some, i1, iZ_add]
  · rintro ⟨s, x⟩ ⟨hx, hi, hA, hB, hK, hFi⟩
    dsimp only at hx hA hB hK hFi ⊢
    subst hx
    rw [be_end, List.take_length] at hB
    refine ⟨s, ⟨hA, hB, hK, hFi⟩, fun n' => ?_⟩
    show (if iZ ((bg w (dF w L)).length : Int) < ms_i s (ms_rf F 4) 1 then _ else _) = _
    rw [r4, iltF rfl hA.2.1.cnt (by omega) (by omega) (by omega)]
theorem c_derive {σ : MsSt} {w : Nat → Nat} {n F r N : Nat} {L : List Nat} {sp : Nat → Bool} {fr : Int} (hs : SgsOK w n) (hc : ScRep σ 3 w n) (hF : FmAt F) (hL : Rw cN σ r N L) (hm : ∀ x ∈ L, x < n) (h60 : L.length ≤ 60) (hr : r + 2 ≤ F ∨ F + 13 ≤ r)
    (hsp : ∀ p, p < n → Kd w p = 2 → sp p = (sgF w p 5 != 0 && !decide ((p : Int) = fr))) (f1 : -1 ≤ fr) (f2 : fr < 1000) :
    ∃ σ', f_X1_derive σ F r (iZ fr) = some σ' ∧ DvR σ' F w sp n L ∧ Fr (In F (F + 13)) σ σ' := by
  obtain ⟨r0, r1, r2, r3, r4, r5, r6⟩ := fm_refs hF
  obtain ⟨w1, w2, w3, w4, w5, w6⟩ := fm_rows hF
  have hlo := fm_lo hF
  have h40 := hs.1
  have hpl := pn_length hs L hm
  obtain ⟨s1, a1, a2, a3⟩ := c_expandAll hs hc hF hL hm h60 hr
  obtain ⟨s2, b1, b2, b3⟩ := takeOver_s (σ := s1) w2 a2 (by omega) (by omega)
  have F2 : Fr (In (F + 1) (F + 5)) σ s2 := (a3.widen (by omega) (by omega)).trans (b3.widen (by omega) (by omega))
  have hp2 := a2.away b3 (by omega)
  have key := lp (S := MsSt × Int32) (f := fun n' s => f_X1_derive_18 n' s.1 F (iZ fr) s.2) (Q := fun σ' => DvR σ' F w sp n L ∧ Fr (In F (F + 13)) σ σ')
    (fun i s => s.2 = iZ ((i : Int) + 1) ∧ i ≤ (pn w L).length - 1 ∧ Rw cN s.1 (F + 3) 360 (od w ((pn w L).take (i + 1)) ++ (pn w L).drop (i + 1)) ∧ Rw cN s.1 (F + 1) 360 (pn w L) ∧ Fr (In (F + 1) (F + 5)) σ s.1) ((pn w L).length - 1) ?_ ?_
    ((pn w L).length - 1) 0 (s2, 1) ms_fuel ⟨rfl, Nat.zero_le _, ?_, hp2, F2⟩ (by omega) (by show _ < 100000; omega)
  · obtain ⟨x, h1, h2⟩ := key
    refine ⟨x, ?_, h2⟩
    unfold f_X1_derive
    rw [a1, Option.bind_some, r2, r1, b1, Option.bind_some]
    exact h1
  · rintro i ⟨s, x⟩ ⟨hx, hi, hA, hP, hFi⟩ hlt
    dsimp only at hx hA hP hFi ⊢
    subst hx
    left
    have hci := hc.away hFi h40 (by omega)
    have hi1 : i + 1 < (pn w L).length := by omega
    have hmem := pn_lt hs hm _ (List.getElem_mem hi1)
    have hdl : (od w ((pn w L).take (i + 1))).length = i + 1 := by rw [od_length, List.length_take]; omega
    have hsplit : od w ((pn w L).take (i + 1)) ++ (pn w L).drop (i + 1) = od w ((pn w L).take (i + 1)) ++ (pn w L)[i + 1] :: (pn w L).drop (i + 2) := by rw [List.drop_eq_getElem_cons hi1]
    have hcnt := hA.cnt
    rw [List.length_append, List.length_drop, hdl] at hcnt
    rw [hsplit] at hA
    obtain ⟨s', c1, c2, c3⟩ := c_sinkMark hs hF hmem.1 hci (fun y hy => by
      have h1 := (od_mem w _ y).mp hy
      exact pn_lt hs hm y (List.mem_of_mem_take h1)) hA
    rw [hdl] at c1
    refine ⟨(s', iZ ((i : Int) + 1 + 1)), ⟨by push_cast; rfl, hlt, ?_, hP.away c3 (by omega), hFi.trans (c3.widen (by omega) (by omega))⟩, fun n' => ?_⟩
    · rw [List.take_succ_eq_append_getElem hi1, od_snoc]
      exact c2
    · show (if iZ ((i : Int) + 1) < ms_i s (ms_rf F 2) 1 then _ else _) = _
      rw [r2, iltT rfl hcnt (by omega) (by omega) (by omega), show iZ ((i : Int) + 1) = iZ ((i + 1 : Nat) : Int) from rfl, c1, Option.bind_some, i1, iZ_add]
      rfl
  · rintro ⟨s, x⟩ ⟨hx, hi, hA, hP, hFi⟩
    dsimp only at hx hA hP hFi ⊢
    subst hx
    have ho : od w ((pn w L).take ((pn w L).length - 1 + 1)) ++ (pn w L).drop ((pn w L).length - 1 + 1) = dF w L := by
      by_cases q : (pn w L).length = 0
      · have e := List.length_eq_zero_iff.mp q
        unfold dF
        rw [e]
        rfl
      · rw [show (pn w L).length - 1 + 1 = (pn w L).length from by omega, List.take_length, List.drop_length, List.append_nil]
        rfl
    rw [ho] at hA
    have hdl := dF_length hs hm
    have hdl2 : (dF w L).length = (pn w L).length := od_length w _
    obtain ⟨σ', c1, c2, c3, c4, c5⟩ := c_derive_t (sp := sp) (fr := fr) hs (hc.away hFi h40 (by omega)) hF hm h60 hA hsp f1 f2
    refine ⟨σ', ⟨⟨hP.away c5 (by omega), c2, c3, c4⟩, (hFi.widen (by omega) (by omega)).trans (c5.widen (by omega) (by omega))⟩, fun n' => ?_⟩
    show (if iZ ((((pn w L).length - 1 : Nat) : Int) + 1) < ms_i s (ms_rf F 2) 1 then _ else _) = _
    rw [r2, iltF rfl hA.cnt (by omega) (by omega) (by omega)]
    exact c1
  · have h0 : od w ((pn w L).take (0 + 1)) ++ (pn w L).drop (0 + 1) = pn w L := by
      cases e : pn w L with
      | nil => rfl
      | cons x P => rfl
    rw [h0]
    exact b2
