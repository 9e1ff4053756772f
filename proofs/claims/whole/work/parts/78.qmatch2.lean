/-! matches, match -/
section Mc2
variable {σ : MsSt} {w : Nat → Nat}
theorem bg_pos (h : WF w) {l : Nat} (hl : l < 4) : 0 < (bg w (dF w (ln w l))).length ↔ 0 < w (3 + l) := by
  have hm := (h.line hl).1
  have hlen := ln_length w l
  constructor
  · intro g
    rcases Nat.eq_zero_or_pos (w (3 + l)) with z | z
    · exfalso
      rw [z] at hlen
      have e : ln w l = [] := List.eq_nil_of_length_eq_zero hlen
      rw [e] at g
      have e2 : (dF w []).length = 0 := by unfold dF; rw [od_length]; rfl
      have := be_lt (w := w) (D := dF w []) (c := 0) g
      omega
    · exact z
  · intro g
    obtain ⟨x, L, e⟩ : ∃ x L, ln w l = x :: L := by
      cases hq : ln w l with
      | nil => rw [hq] at hlen; simp at hlen; omega
      | cons x L => exact ⟨x, L, rfl⟩
    have hx := hm x (by rw [e]; exact List.mem_cons_self)
    have hp := h.1.exPos hx
    have hD : 0 < (dF w (ln w l)).length := by
      unfold dF
      rw [od_length, e]
      unfold pn
      simp only [List.flatMap_cons, List.length_append]
      omega
    obtain ⟨j, hj, _⟩ := fl_find (p := bgf w (dF w (ln w l))) (n := (dF w (ln w l)).length) (k := 0) hD (by simp [bgf])
    exact Nat.lt_of_le_of_lt (Nat.zero_le _) hj
theorem nd60 {σ : MsSt} {k : Int} (k1 : -2147483648 ≤ k) (k2 : k < 2147483648) : f_X10_needIn σ (iZ k) 1 60 = some (if 1 ≤ k ∧ k ≤ 60 then none else some 0) := needIn_s (b := 1) (c := 60) k1 k2 (by omega) (by omega) (by omega) (by omega)
theorem m_noPat (h : InvS σ w) {z k : Int} (z1 : -2147483648 ≤ z) (z2 : z < 2147483648) (k1 : -2147483648 ≤ k) (k2 : k < 2147483648) : f_X12_noPattern σ 493 (iZ z) (iZ k) = if ((0 ≤ z ∧ z ≤ (w 1 : Int) - 1) ∧ 0 ≤ k ∧ k ≤ (w 1 : Int) - 1) ∧ 0 < w (3 + k.toNat) then some (0, ms_si σ 493 7 0) else some (1, ms_si σ 493 7 1) := by
  have h4 := h.1.2.2.1
  have bad : f_X12_noPattern_32 σ 493 493 = some (1, ms_si σ 493 7 1) := by
    unfold f_X12_noPattern_32
    rw [nm_s, i_si_same, if_neg (by decide)]
  unfold f_X12_noPattern
  rw [m_isLine h.2.2 h4 z1 z2, Option.bind_some, m_isLine h.2.2 h4 k1 k2, Option.bind_some]
  by_cases g : 0 ≤ z ∧ z ≤ (w 1 : Int) - 1
  · rw [ibT g]
    by_cases g2 : 0 ≤ k ∧ k ≤ (w 1 : Int) - 1
    · obtain ⟨m, rfl⟩ : ∃ m : Nat, k = (m : Int) := ⟨k.toNat, by omega⟩
      have e : (3 : Int32) + iZ (m : Int) = iZ (3 + (m : Int)) := by rw [i3, iZ_add]
      have h60 := h.1.2.2.2.2.1 m (by omega)
      rw [ibT g2, e, m_rf0, mw_get h.2.2 (Or.inl rfl) (z := 3 + (m : Int)) (k := 3 + m) (by omega) (by omega), Option.bind_some, ilt i0 rfl (by omega) (by omega) (by omega) (by omega), Int.toNat_natCast]
      by_cases g3 : 0 < w (3 + m)
      · rw [if_pos (show (0 : Int) < (w (3 + m) : Int) from by omega), if_pos ⟨⟨g, g2⟩, g3⟩, nm_s, i_si_same, if_pos rfl]
      · rw [if_neg (show ¬ (0 : Int) < (w (3 + m) : Int) from by omega), if_neg (fun q => g3 q.2), bad]
    · rw [ibF g2, if_neg (fun q => g2 q.1.2), bad]
  · rw [ibF g, if_neg (fun q => g q.1.1), bad]
theorem q_matches (h : InvS σ w) (x y v : Int32) : ∃ r σ1 b σ2, f_X10_matches σ 0 x y v = some (r, σ1) ∧ Fr FScr σ σ1 ∧ f_X12_matches σ1 493 x y v = some (b, σ2) ∧ Ok r (ms_i σ2 493 7) b ∧ Fr FScr σ1 σ2 := by
  obtain ⟨z, z1, z2, rfl⟩ := iZ_of x
  obtain ⟨k, k1, k2, rfl⟩ := iZ_of y
  have h4 := h.1.2.2.1
  have h40 := h.1.1.1
  by_cases q : (0 ≤ z ∧ z ≤ (w 1 : Int) - 1) ∧ 0 ≤ k ∧ k ≤ (w 1 : Int) - 1
  · obtain ⟨l, rfl⟩ : ∃ l : Nat, z = (l : Int) := ⟨z.toNat, by omega⟩
    obtain ⟨m, rfl⟩ : ∃ m : Nat, k = (m : Int) := ⟨k.toNat, by omega⟩
    obtain ⟨s4, a1, ⟨a2, a3, a4, a5⟩, ⟨b2, b3, b4, b5⟩, a6⟩ := c_needBothT h q.1 q.2
    obtain ⟨n1, n2, n3, n4⟩ := lnok h.1 (l := l) (by omega)
    obtain ⟨p1, p2, p3, p4⟩ := lnok h.1 (l := m) (by omega)
    have h5 := h.fr a6
    have hnp := m_noPat h5 z1 z2 k1 k2
    have hbp := bg_pos h.1 (l := m) (by omega)
    rw [Int.toNat_natCast] at hnp
    have e7 := (fm_refs (F := 454) (Or.inr rfl)).2.2.2.2.1
    by_cases g : 0 < w (3 + m)
    · obtain ⟨t3, c1, c2, c3, c4, c5⟩ := m_layTwo (h5.fr (fr7 s4 0)) (l := l) (m := m) (by omega) (by omega)
      rw [i_si_same] at c4
      rw [if_pos ⟨q, g⟩] at hnp
      refine ⟨.inl (iZ (cnt (fdB v w (dF w (ln w l)) (dF w (ln w m))) (bg w (dF w (ln w l))).length : Int)), s4, iZ (cnt (fdB v w (dF w (ln w l)) (dF w (ln w m))) (bg w (dF w (ln w l))).length : Int), t3, ?_, a6, ?_, ⟨c4, rfl⟩, (fr7 s4 0).trans c5⟩
      · unfold f_X10_matches
        rw [a1, bu_n, x_rf7, e7, b3.2.1.cnt, nd60 (by omega) (by omega), btT (by omega)]
        refine cnt_loop (f := fun n' a i => f_X10_matches_28 n' s4 0 v a i) (o := some (.inl (iZ (cnt (fdB v w (dF w (ln w l)) (dF w (ln w m))) (bg w (dF w (ln w l))).length : Int)), s4)) (fdB v w (dF w (ln w l)) (dF w (ln w m))) (bg w (dF w (ln w l))).length (by omega) ?_ ?_
        · intro n' i a hi
          show (if iZ (i : Int) < ms_i s4 (ms_rf (ms_rf 0 6) 4) 1 then _ else _) = _
          rw [x_rf6, x_rf7, (fm_refs (F := 441) (Or.inl rfl)).2.2.2.2.1, iltT rfl a3.2.1.cnt (by omega) (by omega) (by omega), c_isFound a3 b3 (fun y hy => (n1 y hy).1) (fun y hy => (p1 y hy).1) h40 v (by omega), Option.bind_some, ib01, i1, iZ_add, iZ_add]
          by_cases q2 : fdB v w (dF w (ln w l)) (dF w (ln w m)) i = true
          · rw [if_pos q2, if_pos q2]
          · rw [if_neg q2, if_neg q2]
        · intro n'
          show (if iZ ((bg w (dF w (ln w l))).length : Int) < ms_i s4 (ms_rf (ms_rf 0 6) 4) 1 then _ else _) = _
          rw [x_rf6, (fm_refs (F := 441) (Or.inl rfl)).2.2.2.2.1, iltF rfl a3.2.1.cnt (by omega) (by omega) (by omega)]
      · unfold f_X12_matches
        rw [hnp, b2_s, if_pos rfl, c1, Option.bind_some]
        refine cnt_loop (f := fun n' a i => f_X12_matches_23 n' t3 493 v a i) (o := some (iZ (cnt (fdB v w (dF w (ln w l)) (dF w (ln w m))) (bg w (dF w (ln w l))).length : Int), t3)) (fdB v w (dF w (ln w l)) (dF w (ln w m))) (bg w (dF w (ln w l))).length (by omega) ?_ ?_
        · intro n' i a hi
          show (if iZ (i : Int) < ms_i t3 493 17 then _ else _) = _
          rw [iltT rfl c2.2.2.2.2.2.2.2.2.2 (by omega) (by omega) (by omega), m_isMatch c2 c3 (fun y hy => (p1 y hy).1) p2 p3 v (by omega), Option.bind_some, ib01, i0, i1, iZ_add, iZ_add, iZ_add, Int.add_zero]
          by_cases q2 : fdB v w (dF w (ln w l)) (dF w (ln w m)) i = true
          · rw [if_pos q2, if_pos q2]
          · rw [if_neg q2, if_neg q2]
        · intro n'
          show (if iZ ((bg w (dF w (ln w l))).length : Int) < ms_i t3 493 17 then _ else _) = _
          rw [iltF rfl c2.2.2.2.2.2.2.2.2.2 (by omega) (by omega) (by omega)]
    · rw [if_neg (fun q => g q.2)] at hnp
      refine ⟨.inr 0, s4, 0, ms_si s4 493 7 1, ?_, a6, ?_, i_si_same _ _ _ _, fr7 s4 1⟩
      · unfold f_X10_matches
        rw [a1, bu_n, x_rf7, e7, b3.2.1.cnt, nd60 (by omega) (by omega), btF (by omega)]
      · unfold f_X12_matches
        rw [hnp, b2_s, if_neg (by decide)]
  · have hnp := m_noPat h z1 z2 k1 k2
    rw [if_neg (fun g => q g.1)] at hnp
    refine ⟨.inr 0, σ, 0, ms_si σ 493 7 1, ?_, Fr.refl _ _, ?_, i_si_same _ _ _ _, fr7 σ 1⟩
    · unfold f_X10_matches
      rw [c_needBothF h z1 z2 k1 k2 q, bu_s]
    · unfold f_X12_matches
      rw [hnp, b2_s, if_neg (by decide)]
theorem q_match (h : InvS σ w) (x y v u : Int32) : ∃ r σ1 b σ2, f_X10_match σ 0 x y v u = some (r, σ1) ∧ Fr FScr σ σ1 ∧ f_X12_match σ1 493 x y v u = some (b, σ2) ∧ Ok r (ms_i σ2 493 7) b ∧ Fr FScr σ1 σ2 := by
  obtain ⟨z, z1, z2, rfl⟩ := iZ_of x
  obtain ⟨k, k1, k2, rfl⟩ := iZ_of y
  obtain ⟨p, p1', p2', rfl⟩ := iZ_of u
  have h4 := h.1.2.2.1
  have h40 := h.1.1.1
  by_cases q : (0 ≤ z ∧ z ≤ (w 1 : Int) - 1) ∧ 0 ≤ k ∧ k ≤ (w 1 : Int) - 1
  · obtain ⟨l, rfl⟩ : ∃ l : Nat, z = (l : Int) := ⟨z.toNat, by omega⟩
    obtain ⟨m, rfl⟩ : ∃ m : Nat, k = (m : Int) := ⟨k.toNat, by omega⟩
    obtain ⟨s4, a1, ⟨a2, a3, a4, a5⟩, ⟨b2, b3, b4, b5⟩, a6⟩ := c_needBothT h q.1 q.2
    obtain ⟨n1, n2, n3, n4⟩ := lnok h.1 (l := l) (by omega)
    obtain ⟨p1, p2, p3, p4⟩ := lnok h.1 (l := m) (by omega)
    have h5 := h.fr a6
    have hnp := m_noPat h5 z1 z2 k1 k2
    have hbp := bg_pos h.1 (l := m) (by omega)
    rw [Int.toNat_natCast] at hnp
    have e7 := (fm_refs (F := 454) (Or.inr rfl)).2.2.2.2.1
    have hfd : ∀ i : Nat, i < (bg w (dF w (ln w l))).length → f_X1_isFoundAt s4 441 454 v (iZ (i : Int)) = some (b01 (fdB v w (dF w (ln w l)) (dF w (ln w m)) i = true)) := fun i hi => c_isFound a3 b3 (fun y hy => (n1 y hy).1) (fun y hy => (p1 y hy).1) h40 v (by omega)
    by_cases g : 0 < w (3 + m)
    · obtain ⟨t3, c1, c2, c3, c4, c5⟩ := m_layTwo (h5.fr (fr7 s4 0)) (l := l) (m := m) (by omega) (by omega)
      rw [i_si_same] at c4
      rw [if_pos ⟨q, g⟩] at hnp
      by_cases g2 : 0 ≤ p
      · obtain ⟨j, rfl⟩ : ∃ j : Nat, p = (j : Int) := ⟨p.toNat, by omega⟩
        have hb := nthU_bd (fdB v w (dF w (ln w l)) (dF w (ln w m))) j (bg w (dF w (ln w l))).length 0 0
        have kc : f_X10_match σ 0 (iZ (l : Int)) (iZ (m : Int)) v (iZ (j : Int)) = if nthU (fdB v w (dF w (ln w l)) (dF w (ln w m))) j 0 0 (bg w (dF w (ln w l))).length = -1 then some (.inr 0, s4) else some (.inl (iZ (nthU (fdB v w (dF w (ln w l)) (dF w (ln w m))) j 0 0 (bg w (dF w (ln w l))).length)), s4) := by
          unfold f_X10_match
          rw [a1, bu_n, x_rf7, e7, b3.2.1.cnt, nd60 (by omega) (by omega), btT (by omega)]
          refine nth_loop (f := fun n' a i => f_X10_match_28 n' s4 0 v (iZ (j : Int)) (iZ (a : Int)) (iZ (i : Int))) (o := fun z => some (.inl (iZ z), s4)) (e := some (.inr 0, s4)) (fdB v w (dF w (ln w l)) (dF w (ln w m))) j (bg w (dF w (ln w l))).length ?_ ?_ (bg w (dF w (ln w l))).length 0 0 ms_fuel (Nat.zero_le _) (by omega) (by show _ < 100000; omega)
          · intro n' a i hi ha
            have e1 : iZ (i : Int) + 1 = iZ ((i + 1 : Nat) : Int) := by rw [i1, iZ_add]; rfl
            have e2 : iZ (a : Int) + 1 = iZ ((a + 1 : Nat) : Int) := by rw [i1, iZ_add]; rfl
            show (if iZ (i : Int) < ms_i s4 (ms_rf (ms_rf 0 6) 4) 1 then _ else _) = _
            rw [x_rf6, x_rf7, (fm_refs (F := 441) (Or.inl rfl)).2.2.2.2.1, iltT rfl a3.2.1.cnt (by omega) (by omega) (by omega), hfd i hi, Option.bind_some, ib01, e1, e2, ieq rfl rfl (by omega) (by omega) (by omega) (by omega)]
            by_cases q2 : fdB v w (dF w (ln w l)) (dF w (ln w m)) i = true
            · rw [if_pos q2, if_pos q2]
              by_cases q3 : a = j
              · rw [if_pos q3, if_pos (show (a : Int) = (j : Int) from by omega)]
              · rw [if_neg q3, if_neg (show ¬ (a : Int) = (j : Int) from by omega)]
            · rw [if_neg q2, if_neg q2]
          · intro n' a
            show (if iZ ((bg w (dF w (ln w l))).length : Int) < ms_i s4 (ms_rf (ms_rf 0 6) 4) 1 then _ else _) = _
            rw [x_rf6, (fm_refs (F := 441) (Or.inl rfl)).2.2.2.2.1, iltF rfl a3.2.1.cnt (by omega) (by omega) (by omega)]
        have km : f_X12_match s4 493 (iZ (l : Int)) (iZ (m : Int)) v (iZ (j : Int)) = if nthU (fdB v w (dF w (ln w l)) (dF w (ln w m))) j 0 0 (bg w (dF w (ln w l))).length = -1 then some (0, ms_si t3 493 7 1) else some (iZ (nthU (fdB v w (dF w (ln w l)) (dF w (ln w m))) j 0 0 (bg w (dF w (ln w l))).length), t3) := by
          unfold f_X12_match
          rw [hnp, b2_s, if_pos rfl, c1, Option.bind_some]
          refine Eq.trans (show f_X12_match_24 ms_fuel t3 493 v (iZ (j : Int)) 0 = f_X12_match_24 ms_fuel t3 493 v (iZ ((j : Int) - ((0 : Nat) : Int))) (iZ ((0 : Nat) : Int)) from by rw [show (j : Int) - ((0 : Nat) : Int) = (j : Int) from by omega]; rfl) (nth_loop (f := fun n' a i => f_X12_match_24 n' t3 493 v (iZ ((j : Int) - (a : Int))) (iZ (i : Int))) (o := fun z => some (iZ z, t3)) (e := some (0, ms_si t3 493 7 1)) (fdB v w (dF w (ln w l)) (dF w (ln w m))) j (bg w (dF w (ln w l))).length ?_ ?_ (bg w (dF w (ln w l))).length 0 0 ms_fuel (Nat.zero_le _) (by omega) (by show _ < 100000; omega))
          · intro n' a i hi ha
            have e1 : iZ (i : Int) + 1 = iZ ((i + 1 : Nat) : Int) := by rw [i1, iZ_add]; rfl
            have e2 : iZ ((j : Int) - (a : Int)) + (-1) = iZ ((j : Int) - ((a + 1 : Nat) : Int)) := by rw [im1, iZ_add]; congr 1; omega
            show (if iZ (i : Int) < ms_i t3 493 17 then (if iZ ((j : Int) - (a : Int)) < 0 then _ else _) else _) = _
            rw [iltT rfl c2.2.2.2.2.2.2.2.2.2 (by omega) (by omega) (by omega), iltF rfl i0 (by omega) (by omega) (by omega), m_isMatch c2 c3 (fun y hy => (p1 y hy).1) p2 p3 v (by omega), Option.bind_some, ib01, e1, e2, ieq rfl i0 (by omega) (by omega) (by omega) (by omega)]
            by_cases q2 : fdB v w (dF w (ln w l)) (dF w (ln w m)) i = true
            · rw [if_pos q2, if_pos q2]
              by_cases q3 : a = j
              · rw [if_pos q3, if_pos (show (j : Int) - (a : Int) = 0 from by omega)]
              · rw [if_neg q3, if_neg (show ¬ (j : Int) - (a : Int) = 0 from by omega)]
            · rw [if_neg q2, if_neg q2]
          · intro n' a
            show (if iZ ((bg w (dF w (ln w l))).length : Int) < ms_i t3 493 17 then _ else ms_b2 (f_X12_raise t3 493 1) _) = _
            rw [iltF rfl c2.2.2.2.2.2.2.2.2.2 (by omega) (by omega) (by omega), raise_s, b2_s]
        by_cases g3 : nthU (fdB v w (dF w (ln w l)) (dF w (ln w m))) j 0 0 (bg w (dF w (ln w l))).length = -1
        · rw [if_pos g3] at kc km
          exact ⟨_, s4, _, _, kc, a6, km, i_si_same _ _ _ _, ((fr7 s4 0).trans c5).trans (fr7 t3 1)⟩
        · rw [if_neg g3] at kc km
          exact ⟨_, s4, _, _, kc, a6, km, ⟨c4, rfl⟩, (fr7 s4 0).trans c5⟩
      · have kc : f_X10_match σ 0 (iZ (l : Int)) (iZ (m : Int)) v (iZ p) = some (.inr 0, s4) := by
          unfold f_X10_match
          rw [a1, bu_n, x_rf7, e7, b3.2.1.cnt, nd60 (by omega) (by omega), btT (by omega)]
          refine lpx (S := Int32 × Int32) (f := fun n s => f_X10_match_28 n s4 0 v (iZ p) s.1 s.2) (fun i s => s.2 = iZ (i : Int) ∧ i ≤ (bg w (dF w (ln w l))).length ∧ ∃ a : Nat, a ≤ i ∧ s.1 = iZ (a : Int)) (bg w (dF w (ln w l))).length ?_ ?_ (bg w (dF w (ln w l))).length 0 (0, 0) ms_fuel ⟨rfl, Nat.zero_le _, 0, Nat.le_refl _, rfl⟩ (by omega) (by show _ < 100000; omega)
          · rintro i ⟨sa, x⟩ ⟨hx, hi, a, ha, hsa⟩ hlt
            dsimp only at hx hsa ⊢
            subst hx; subst hsa
            have e1 : iZ (i : Int) + 1 = iZ ((i + 1 : Nat) : Int) := by rw [i1, iZ_add]; rfl
            have e2 : iZ (a : Int) + 1 = iZ ((a + 1 : Nat) : Int) := by rw [i1, iZ_add]; rfl
            by_cases q2 : fdB v w (dF w (ln w l)) (dF w (ln w m)) i = true
            · refine ⟨(iZ ((a + 1 : Nat) : Int), iZ ((i + 1 : Nat) : Int)), ⟨rfl, hlt, a + 1, by omega, rfl⟩, fun n' => ?_⟩
              show (if iZ (i : Int) < ms_i s4 (ms_rf (ms_rf 0 6) 4) 1 then _ else _) = _
              rw [x_rf6, x_rf7, (fm_refs (F := 441) (Or.inl rfl)).2.2.2.2.1, iltT rfl a3.2.1.cnt (by omega) (by omega) (by omega), hfd i hlt, Option.bind_some, ib01, if_pos q2, e1, e2, ieqF rfl rfl (by omega) (by omega) (by omega) (by omega) (by omega)]
            · refine ⟨(iZ (a : Int), iZ ((i + 1 : Nat) : Int)), ⟨rfl, hlt, a, by omega, rfl⟩, fun n' => ?_⟩
              show (if iZ (i : Int) < ms_i s4 (ms_rf (ms_rf 0 6) 4) 1 then _ else _) = _
              rw [x_rf6, x_rf7, (fm_refs (F := 441) (Or.inl rfl)).2.2.2.2.1, iltT rfl a3.2.1.cnt (by omega) (by omega) (by omega), hfd i hlt, Option.bind_some, ib01, if_neg q2, e1]
          · rintro ⟨sa, x⟩ ⟨hx, hi, a, ha, hsa⟩ n'
            dsimp only at hx hsa ⊢
            subst hx; subst hsa
            show (if iZ ((bg w (dF w (ln w l))).length : Int) < ms_i s4 (ms_rf (ms_rf 0 6) 4) 1 then _ else _) = _
            rw [x_rf6, (fm_refs (F := 441) (Or.inl rfl)).2.2.2.2.1, iltF rfl a3.2.1.cnt (by omega) (by omega) (by omega)]
        have km : f_X12_match s4 493 (iZ (l : Int)) (iZ (m : Int)) v (iZ p) = some (0, ms_si t3 493 7 1) := by
          unfold f_X12_match
          rw [hnp, b2_s, if_pos rfl, c1, Option.bind_some]
          show (if iZ ((0 : Nat) : Int) < ms_i t3 493 17 then (if iZ p < 0 then ms_b2 (f_X12_raise t3 493 1) (fun v6 s7 => some (v6, s7)) else _) else ms_b2 (f_X12_raise t3 493 1) (fun v4 s5 => some (v4, s5))) = _
          rw [iltT (x := iZ p) rfl i0 (by omega) (by omega) (by omega), ite_self, raise_s, b2_s]
        exact ⟨_, s4, _, _, kc, a6, km, i_si_same _ _ _ _, ((fr7 s4 0).trans c5).trans (fr7 t3 1)⟩
    · rw [if_neg (fun q => g q.2)] at hnp
      refine ⟨.inr 0, s4, 0, ms_si s4 493 7 1, ?_, a6, ?_, i_si_same _ _ _ _, fr7 s4 1⟩
      · unfold f_X10_match
        rw [a1, bu_n, x_rf7, e7, b3.2.1.cnt, nd60 (by omega) (by omega), btF (by omega)]
      · unfold f_X12_match
        rw [hnp, b2_s, if_neg (by decide)]
  · have hnp := m_noPat h z1 z2 k1 k2
    rw [if_neg (fun g => q g.1)] at hnp
    refine ⟨.inr 0, σ, 0, ms_si σ 493 7 1, ?_, Fr.refl _ _, ?_, i_si_same _ _ _ _, fr7 σ 1⟩
    · unfold f_X10_match
      rw [c_needBothF h z1 z2 k1 k2 q, bu_s]
    · unfold f_X12_match
      rw [hnp, b2_s, if_neg (by decide)]
end Mc2
