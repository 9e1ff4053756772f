/-! areBare, matches, match -/
section Ma
variable {σ : MsSt} {w : Nat → Nat} {n : Nat} {D E : List Nat}
theorem bsv_bd {c : Nat} (hD : ∀ y ∈ D, y < n) (hn : n ≤ 40) (hc : c < (bg w D).length) : -1 ≤ bsv w D (be w D c) ∧ bsv w D (be w D c) < 1000 := by
  have hk := (be_lt hc).2.2
  have := hD _ (List.getElem_mem hk)
  unfold bsv
  rw [getD_get hk]
  split <;> omega
def szC (w : Nat → Nat) (D : List Nat) (c : Nat) : Nat := be w D (c + 1) - be w D c
def neB (w : Nat → Nat) (D E : List Nat) (c d t : Nat) : Bool := decide (D.getD (be w D c + t) 0 ≠ E.getD (be w E d + t) 0)
def sameB (w : Nat → Nat) (D E : List Nat) (c d : Nat) : Bool := decide (szC w D c = szC w E d) && !anyF (neB w D E c d) 0 (szC w D c)
def eqB (w : Nat → Nat) (D E : List Nat) (c d : Nat) : Bool := decide (bsv w D (be w D c) = bsv w E (be w E d))
def eqC (z : Int32) (w : Nat → Nat) (D E : List Nat) (c d : Nat) : Bool := if z = 0 then sameB w D E c d else eqB w D E c d
def fdB (z : Int32) (w : Nat → Nat) (D E : List Nat) (c : Nat) : Bool := decide (c + (bg w E).length ≤ (bg w D).length) && !anyF (fun d => !eqC z w D E (c + d) d) 0 (bg w E).length
theorem b01_bool {b : Bool} : b01 (b = true) = if b = true then 1 else 0 := rfl
theorem c_hasSame (hR : FmR σ 441 w D) (hR2 : FmR σ 454 w E) (hD : ∀ y ∈ D, y < n) (hE : ∀ y ∈ E, y < n) (hn : n ≤ 40) {c d : Nat} (hc : c < (bg w D).length) (hd : d < (bg w E).length) : f_X1_hasSameSigns σ 441 (iZ (c : Int)) 454 (iZ (d : Int)) = some (b01 (sameB w D E c d = true)) := by
  have lD := hR.1.2.1
  have lE := hR2.1.2.1
  have b1 := be_lt hc
  have b2 := be_lt hd
  have g1 : f_X5_get σ (441 + 7) (iZ (c : Int)) = some (iZ (be w D c : Int)) := by
    rw [be_in hc]
    exact get_in hR.2.1 hc
  have g2 : f_X5_get σ (454 + 7) (iZ (d : Int)) = some (iZ (be w E d : Int)) := by
    rw [be_in hd]
    exact get_in hR2.2.1 hd
  have e1 : iZ (be w D (c + 1) : Int) - iZ (be w D c : Int) = iZ (szC w D c : Int) := by
    rw [iZ_sub]
    congr 1
    unfold szC
    omega
  have e2 : iZ (be w E (d + 1) : Int) - iZ (be w E d : Int) = iZ (szC w E d : Int) := by
    rw [iZ_sub]
    congr 1
    unfold szC
    omega
  have s1 : szC w D c ≤ 360 := by unfold szC; omega
  have s2 : szC w E d ≤ 360 := by unfold szC; omega
  have s3 : be w D c + szC w D c ≤ D.length := by unfold szC; omega
  have s4 : be w E d + szC w E d ≤ E.length := by unfold szC; omega
  unfold f_X1_hasSameSigns
  rw [(fm_refs (F := 441) (Or.inl rfl)).2.2.2.2.1, (fm_refs (F := 454) (Or.inr rfl)).2.2.2.2.1, g1, Option.bind_some, g2, Option.bind_some, c_endOf hR (Or.inl rfl) hc, Option.bind_some, c_endOf hR2 (Or.inr rfl) hd, Option.bind_some, e1, e2]
  unfold sameB
  by_cases q : szC w D c = szC w E d
  · rw [ieqT rfl rfl (by omega), decide_eq_true q, Bool.true_and]
    refine (any_loop (f := fun n k => f_X1_hasSameSigns_48 σ n 441 454 (iZ (be w D c : Int)) (iZ (be w E d : Int)) (iZ (szC w D c : Int)) (iZ (k : Int))) (P := neB w D E c d) (o1 := some 0) (o2 := some 1) (szC w D c) ?_ ?_ (szC w D c) 0 ms_fuel (by omega) (by show _ < 100000; omega)).trans ?_
    · intro n' k hk
      have hkD : be w D c + k < D.length := by omega
      have hkE : be w E d + k < E.length := by omega
      have x1 := hD _ (List.getElem_mem hkD)
      have x2 := hE _ (List.getElem_mem hkE)
      have y1 : f_X5_get σ (441 + 3) (iZ ((be w D c + k : Nat) : Int)) = some (iZ (D[be w D c + k] : Int)) := get_in hR.1 hkD
      have y2 : f_X5_get σ (454 + 3) (iZ ((be w E d + k : Nat) : Int)) = some (iZ (E[be w E d + k] : Int)) := get_in hR2.1 hkE
      have a1 : iZ (be w D c : Int) + iZ (k : Int) = iZ ((be w D c + k : Nat) : Int) := by rw [iZ_add]; rfl
      have a2 : iZ (be w E d : Int) + iZ (k : Int) = iZ ((be w E d + k : Nat) : Int) := by rw [iZ_add]; rfl
      show (if iZ (k : Int) < iZ (szC w D c : Int) then _ else _) = _
      rw [iltT rfl rfl (by omega) (by omega) (by omega), (fm_refs (F := 441) (Or.inl rfl)).2.2.1, (fm_refs (F := 454) (Or.inr rfl)).2.2.1, a1, y1, Option.bind_some, a2, y2, Option.bind_some]
      unfold neB
      rw [getD_get hkD, getD_get hkE]
      by_cases q2 : D[be w D c + k] = E[be w E d + k]
      · rw [ieqT rfl rfl (by omega), if_neg (by simp [q2]), i1, iZ_add]
        rfl
      · rw [ieqF rfl rfl (by omega) (by omega) (by omega) (by omega) (by omega), if_pos (by simp [q2])]
    · intro n'
      show (if iZ (szC w D c : Int) < iZ (szC w D c : Int) then _ else _) = _
      rw [iltF rfl rfl (by omega) (by omega) (by omega)]
    · by_cases q2 : anyF (neB w D E c d) 0 (szC w D c) = true
      · rw [if_pos q2, q2]
        rfl
      · rw [if_neg q2, Bool.eq_false_iff.mpr q2]
        rfl
  · rw [ieqF rfl rfl (by omega) (by omega) (by omega) (by omega) (by omega), decide_eq_false q, Bool.false_and]
    rfl
theorem m_ald510 (hO : OtS σ w E) (hl : (bg w E).length ≤ 60) {d : Nat} (hd : d ≤ (bg w E).length) : ms_ald σ 510 (iZ (d : Int)) = some (iZ (be w E d : Int)) := by
  rw [ald_iZ (by rw [m_ln510]; omega) (by rw [m_ln510]; omega), hO.2.2.2 d hd]
theorem m_ald509 (hO : OtS σ w E) (hl : E.length ≤ 360) {k : Nat} (hk : k < E.length) : ms_ald σ 509 (iZ (k : Int)) = some (iZ (E[k] : Int)) := by
  rw [ald_iZ (by rw [m_ln509]; omega) (by rw [m_ln509]; omega), hO.1 k hk]
theorem m_otherBase (h : LcS σ w n D) (hO : OtS σ w E) (hE : ∀ y ∈ E, y < n) (hEl : E.length ≤ 360) (hl : (bg w E).length ≤ 60) {d : Nat} (hd : d < (bg w E).length) : f_X12_otherBase σ 493 (iZ (d : Int)) = some (iZ (bsv w E (be w E d))) := by
  have h40 := h.2.2.1.1
  have b2 := (be_lt hd).2.2
  have hx := hE _ (List.getElem_mem b2)
  have hk := (h.2.2.1.2.1 _ hx).1.1
  unfold f_X12_otherBase bsv
  rw [m_rf21, m_ald510 hO hl (by omega), Option.bind_some, m_rf20, m_ald509 hO hEl b2, Option.bind_some, isMark_s h.1 (by omega) (by omega), Option.bind_some, ib01, getD_get b2]
  by_cases q : Kd w E[be w E d] = 1
  · rw [if_pos q, if_pos q]
    rfl
  · rw [if_neg q, if_neg q]
theorem m_isSame (h : LcS σ w n D) (hO : OtS σ w E) (hE : ∀ y ∈ E, y < n) (hEl : E.length ≤ 360) (hl : (bg w E).length ≤ 60) {c d : Nat} (hc : c < (bg w D).length) (hd : d < (bg w E).length) : f_X12_isSameCluster σ 493 (iZ (c : Int)) (iZ (d : Int)) = some (b01 (sameB w D E c d = true)) := by
  have h40 := h.2.2.1.1
  have hD := h.2.2.2.1
  have lD := h.2.2.2.2.1
  have b1 := be_lt hc
  have b2 := be_lt hd
  have e1 : iZ (be w D (c + 1) : Int) - iZ (be w D c : Int) = iZ (szC w D c : Int) := by
    rw [iZ_sub]
    congr 1
    unfold szC
    omega
  have e2 : iZ (be w E (d + 1) : Int) - iZ (be w E d : Int) = iZ (szC w E d : Int) := by
    rw [iZ_sub]
    congr 1
    unfold szC
    omega
  have s1 : szC w D c ≤ 360 := by unfold szC; omega
  have s2 : szC w E d ≤ 360 := by unfold szC; omega
  have s3 : be w D c + szC w D c ≤ D.length := by unfold szC; omega
  have s4 : be w E d + szC w E d ≤ E.length := by unfold szC; omega
  have f1 : iZ (c : Int) + 1 = iZ ((c + 1 : Nat) : Int) := by rw [i1, iZ_add]; rfl
  have f2 : iZ (d : Int) + 1 = iZ ((d + 1 : Nat) : Int) := by rw [i1, iZ_add]; rfl
  have fl0 : ∀ (n' : Nat) (i : Int32), f_X12_isSameCluster_45 σ (n' + 1) 493 (iZ (c : Int)) (iZ (d : Int)) (iZ (szC w D c : Int)) 0 i = some 0 := by
    intro n' i
    show (if i < iZ (szC w D c : Int) then (if (0 : Int32) = 0 then some 0 else _) else some 0) = _
    rw [if_pos rfl, ite_self]
  unfold f_X12_isSameCluster
  rw [f1, f2, m_rf16, m_begin h (c := c + 1) (by omega), Option.bind_some, m_begin h (by omega), Option.bind_some, m_rf21, m_ald510 hO hl (by omega), Option.bind_some, m_ald510 hO hl (by omega), Option.bind_some, e1, e2]
  unfold sameB
  by_cases q : szC w D c = szC w E d
  · rw [ieqT rfl rfl (by omega), decide_eq_true q, Bool.true_and]
    refine Eq.trans (show f_X12_isSameCluster_45 σ ms_fuel 493 (iZ (c : Int)) (iZ (d : Int)) (iZ (szC w D c : Int)) 1 0 = f_X12_isSameCluster_45 σ (99999 + 1) 493 (iZ (c : Int)) (iZ (d : Int)) (iZ (szC w D c : Int)) 1 (iZ ((0 : Nat) : Int)) from rfl) ((any_loop (f := fun n k => f_X12_isSameCluster_45 σ (n + 1) 493 (iZ (c : Int)) (iZ (d : Int)) (iZ (szC w D c : Int)) 1 (iZ (k : Int))) (P := neB w D E c d) (o1 := some 0) (o2 := some 1) (szC w D c) ?_ ?_ (szC w D c) 0 99999 (by omega) (by omega)).trans ?_)
    · intro n' k hk
      have hkD : be w D c + k < D.length := by omega
      have hkE : be w E d + k < E.length := by omega
      have x1 := (hD _ (List.getElem_mem hkD)).1
      have x2 := hE _ (List.getElem_mem hkE)
      have a1 : iZ (be w D c : Int) + iZ (k : Int) = iZ ((be w D c + k : Nat) : Int) := by rw [iZ_add]; rfl
      have a2 : iZ (be w E d : Int) + iZ (k : Int) = iZ ((be w E d + k : Nat) : Int) := by rw [iZ_add]; rfl
      show (if iZ (k : Int) < iZ (szC w D c : Int) then (if (1 : Int32) = 0 then _ else _) else _) = _
      rw [iltT rfl rfl (by omega) (by omega) (by omega), if_neg (by decide), m_rf16, m_begin h (by omega), Option.bind_some, m_rf10, a1, m_sgn h hkD, Option.bind_some, m_rf21, m_ald510 hO hl (by omega), Option.bind_some, m_rf20, a2, m_ald509 hO hEl hkE, Option.bind_some]
      unfold neB
      rw [getD_get hkD, getD_get hkE]
      by_cases q2 : D[be w D c + k] = E[be w E d + k]
      · rw [ieqT rfl rfl (by omega), if_neg (by simp [q2]), i1, iZ_add]
        rfl
      · rw [ieqF rfl rfl (by omega) (by omega) (by omega) (by omega) (by omega), if_pos (by simp [q2])]
        exact fl0 _ _
    · intro n'
      show (if iZ (szC w D c : Int) < iZ (szC w D c : Int) then _ else _) = _
      rw [iltF rfl rfl (by omega) (by omega) (by omega)]
      rfl
    · by_cases q2 : anyF (neB w D E c d) 0 (szC w D c) = true
      · rw [if_pos q2, q2]
        rfl
      · rw [if_neg q2, Bool.eq_false_iff.mpr q2]
        rfl
  · rw [ieqF rfl rfl (by omega) (by omega) (by omega) (by omega) (by omega), decide_eq_false q, Bool.false_and]
    exact fl0 99999 0
theorem c_isFound (hR : FmR σ 441 w D) (hR2 : FmR σ 454 w E) (hD : ∀ y ∈ D, y < n) (hE : ∀ y ∈ E, y < n) (hn : n ≤ 40) (z : Int32) {c : Nat} (hc : c ≤ (bg w D).length) : f_X1_isFoundAt σ 441 454 z (iZ (c : Int)) = some (b01 (fdB z w D E c = true)) := by
  have lD := hR.2.1.2.1
  have lE := hR2.2.1.2.1
  have e1 : iZ (c : Int) + iZ ((bg w E).length : Int) = iZ ((c + (bg w E).length : Nat) : Int) := by rw [iZ_add]; rfl
  unfold f_X1_isFoundAt
  rw [(fm_refs (F := 441) (Or.inl rfl)).2.2.2.2.1, (fm_refs (F := 454) (Or.inr rfl)).2.2.2.2.1, hR2.2.1.cnt, e1]
  unfold fdB
  by_cases q : c + (bg w E).length ≤ (bg w D).length
  · rw [iltF hR.2.1.cnt rfl (by omega) (by omega) (by omega), decide_eq_true q, Bool.true_and]
    refine (any_loop (f := fun n k => f_X1_isFoundAt_24 σ n 441 454 z (iZ (c : Int)) (iZ (k : Int))) (P := fun d => !eqC z w D E (c + d) d) (o1 := some 0) (o2 := some 1) (bg w E).length ?_ ?_ (bg w E).length 0 ms_fuel (by omega) (by show _ < 100000; omega)).trans ?_
    · intro n' k hk
      have a1 : iZ (c : Int) + iZ (k : Int) = iZ ((c + k : Nat) : Int) := by rw [iZ_add]; rfl
      have e2 : iZ (k : Int) + 1 = iZ ((k + 1 : Nat) : Int) := by rw [i1, iZ_add]; rfl
      show (if iZ (k : Int) < ms_i σ (ms_rf 454 4) 1 then _ else _) = _
      rw [(fm_refs (F := 454) (Or.inr rfl)).2.2.2.2.1, iltT rfl hR2.2.1.cnt (by omega) (by omega) (by omega), a1, e2]
      by_cases z0 : z = 0
      · rw [if_pos z0, c_hasSame hR hR2 hD hE hn (c := c + k) (d := k) (by omega) hk, Option.bind_some, ib01]
        have ee : (!eqC z w D E (c + k) k) = !sameB w D E (c + k) k := by unfold eqC; rw [if_pos z0]
        rw [ee]
        by_cases q2 : sameB w D E (c + k) k = true
        · rw [if_pos q2, if_neg (by simp [q2])]
        · rw [if_neg q2, if_pos (by simp [q2])]
      · have ee : (!eqC z w D E (c + k) k) = !eqB w D E (c + k) k := by unfold eqC; rw [if_neg z0]
        have g1 := bsv_bd (w := w) hD hn (c := c + k) (by omega)
        have g2 := bsv_bd (w := w) hE hn (c := k) hk
        rw [if_neg z0, (fm_refs (F := 441) (Or.inl rfl)).2.2.2.2.2.1, (fm_refs (F := 454) (Or.inr rfl)).2.2.2.2.2.1, c_base hR (c := c + k) (by omega), Option.bind_some, c_base hR2 hk, Option.bind_some, ee]
        unfold eqB
        by_cases q2 : bsv w D (be w D (c + k)) = bsv w E (be w E k)
        · rw [ieqT rfl rfl q2, if_neg (show ¬ (1 : Int32) = 0 from by decide), if_neg (by simp [q2])]
        · rw [ieqF rfl rfl q2 (by omega) (by omega) (by omega) (by omega), if_pos rfl, if_pos (by simp [q2])]
    · intro n'
      show (if iZ ((bg w E).length : Int) < ms_i σ (ms_rf 454 4) 1 then _ else _) = _
      rw [(fm_refs (F := 454) (Or.inr rfl)).2.2.2.2.1, iltF rfl hR2.2.1.cnt (by omega) (by omega) (by omega)]
    · by_cases q2 : anyF (fun d => !eqC z w D E (c + d) d) 0 (bg w E).length = true
      · rw [if_pos q2, q2]
        rfl
      · rw [if_neg q2, Bool.eq_false_iff.mpr q2]
        rfl
  · rw [iltT hR.2.1.cnt rfl (by omega) (by omega) (by omega), decide_eq_false q, Bool.false_and]
    rfl
theorem m_isMatch (h : LcS σ w n D) (hO : OtS σ w E) (hE : ∀ y ∈ E, y < n) (hEl : E.length ≤ 360) (hl : (bg w E).length ≤ 60) (z : Int32) {c : Nat} (hc : c ≤ (bg w D).length) : f_X12_isMatch σ 493 (iZ (c : Int)) z = some (b01 (fdB z w D E c = true)) := by
  have h40 := h.2.2.1.1
  have hD := h.2.2.2.1
  have lD := h.2.2.2.2.2.1
  have hD1 : ∀ y ∈ D, y < n := fun y hy => (hD y hy).1
  have e1 : iZ (c : Int) + iZ ((bg w E).length : Int) = iZ ((c + (bg w E).length : Nat) : Int) := by rw [iZ_add]; rfl
  have fl0 : ∀ (n' : Nat) (i : Int32), f_X12_isMatch_22 σ (n' + 1) 493 (iZ (c : Int)) z 0 i = some 0 := by
    intro n' i
    show (if i < ms_i σ 493 23 then (if (0 : Int32) = 0 then some 0 else _) else some 0) = _
    rw [if_pos rfl, ite_self]
  unfold f_X12_isMatch
  rw [hO.2.2.1, e1]
  unfold fdB
  by_cases q : c + (bg w E).length ≤ (bg w D).length
  · rw [iltF h.2.2.2.2.2.2.2.2.2 rfl (by omega) (by omega) (by omega), decide_eq_true q, Bool.true_and]
    refine Eq.trans (show f_X12_isMatch_22 σ ms_fuel 493 (iZ (c : Int)) z 1 0 = f_X12_isMatch_22 σ (99999 + 1) 493 (iZ (c : Int)) z 1 (iZ ((0 : Nat) : Int)) from rfl) ((any_loop (f := fun n k => f_X12_isMatch_22 σ (n + 1) 493 (iZ (c : Int)) z 1 (iZ (k : Int))) (P := fun d => !eqC z w D E (c + d) d) (o1 := some 0) (o2 := some 1) (bg w E).length ?_ ?_ (bg w E).length 0 99999 (by omega) (by omega)).trans ?_)
    · intro n' k hk
      have a1 : iZ (c : Int) + iZ (k : Int) = iZ ((c + k : Nat) : Int) := by rw [iZ_add]; rfl
      have e2 : iZ (k : Int) + 1 = iZ ((k + 1 : Nat) : Int) := by rw [i1, iZ_add]; rfl
      show (if iZ (k : Int) < ms_i σ 493 23 then (if (1 : Int32) = 0 then _ else _) else _) = _
      rw [iltT rfl hO.2.2.1 (by omega) (by omega) (by omega), if_neg (show ¬ (1 : Int32) = 0 from by decide), a1, e2]
      by_cases z0 : z = 0
      · have ee : (!eqC z w D E (c + k) k) = !sameB w D E (c + k) k := by unfold eqC; rw [if_pos z0]
        rw [if_pos z0, m_isSame h hO hE hEl hl (c := c + k) (d := k) (by omega) hk, Option.bind_some, ee]
        by_cases q2 : sameB w D E (c + k) k = true
        · rw [if_neg (by simp [q2])]
          unfold b01
          rw [if_pos q2]
        · rw [if_pos (by simp [q2])]
          unfold b01
          rw [if_neg q2]
          exact fl0 _ _
      · have ee : (!eqC z w D E (c + k) k) = !eqB w D E (c + k) k := by unfold eqC; rw [if_neg z0]
        have g1 := bsv_bd (w := w) hD1 h40 (c := c + k) (by omega)
        have g2 := bsv_bd (w := w) hE h40 (c := k) hk
        rw [if_neg z0, m_baseOf h (c := c + k) (by omega), Option.bind_some, m_otherBase h hO hE hEl hl hk, Option.bind_some, ee]
        unfold eqB
        by_cases q2 : bsv w D (be w D (c + k)) = bsv w E (be w E k)
        · rw [ieqT rfl rfl q2, if_neg (by simp [q2])]
        · rw [ieqF rfl rfl q2 (by omega) (by omega) (by omega) (by omega), if_pos (by simp [q2])]
          exact fl0 _ _
    · intro n'
      show (if iZ ((bg w E).length : Int) < ms_i σ 493 23 then _ else _) = _
      rw [iltF rfl hO.2.2.1 (by omega) (by omega) (by omega)]
      rfl
    · by_cases q2 : anyF (fun d => !eqC z w D E (c + d) d) 0 (bg w E).length = true
      · rw [if_pos q2, q2]
        rfl
      · rw [if_neg q2, Bool.eq_false_iff.mpr q2]
        rfl
  · rw [iltT h.2.2.2.2.2.2.2.2.2 rfl (by omega) (by omega) (by omega), decide_eq_false q, Bool.false_and]
    exact fl0 99999 0
theorem m_areBareL (h : LcS σ w n D) (hO : OtS σ w E) (hE : ∀ y ∈ E, y < n) (hEl : E.length ≤ 360) (hl : (bg w E).length ≤ 60) : (if ms_i σ 493 17 = ms_i σ 493 23 then f_X12_areBare_37 ms_fuel σ 493 1 0 else f_X12_areBare_37 ms_fuel σ 493 0 0) = some (if (bg w D).length = (bg w E).length ∧ fdB 1 w D E 0 = true then 1 else 0, σ) := by
  have h40 := h.2.2.1.1
  have hD := h.2.2.2.1
  have lD := h.2.2.2.2.2.1
  have hD1 : ∀ y ∈ D, y < n := fun y hy => (hD y hy).1
  have fl0 : ∀ (n' : Nat) (i : Int32), f_X12_areBare_37 (n' + 1) σ 493 0 i = some (0, σ) := by
    intro n' i
    show (if i < ms_i σ 493 17 then (if (0 : Int32) = 0 then some (0, σ) else _) else some (0, σ)) = _
    rw [if_pos rfl, ite_self]
  by_cases q : (bg w D).length = (bg w E).length
  · rw [ieqT h.2.2.2.2.2.2.2.2.2 hO.2.2.1 (by omega)]
    refine Eq.trans (show f_X12_areBare_37 ms_fuel σ 493 1 0 = f_X12_areBare_37 (99999 + 1) σ 493 1 (iZ ((0 : Nat) : Int)) from rfl) ((any_loop (f := fun n k => f_X12_areBare_37 (n + 1) σ 493 1 (iZ (k : Int))) (P := fun d => !eqC 1 w D E (0 + d) d) (o1 := some (0, σ)) (o2 := some (1, σ)) (bg w E).length ?_ ?_ (bg w E).length 0 99999 (by omega) (by omega)).trans ?_)
    · intro n' k hk
      have e2 : iZ (k : Int) + 1 = iZ ((k + 1 : Nat) : Int) := by rw [i1, iZ_add]; rfl
      have e3 : 0 + k = k := Nat.zero_add k
      have ee : (!eqC 1 w D E (0 + k) k) = !eqB w D E k k := by unfold eqC; rw [if_neg (by decide), e3]
      have g1 := bsv_bd (w := w) hD1 h40 (c := k) (by omega)
      have g2 := bsv_bd (w := w) hE h40 (c := k) hk
      show (if iZ (k : Int) < ms_i σ 493 17 then (if (1 : Int32) = 0 then _ else _) else _) = _
      rw [iltT rfl h.2.2.2.2.2.2.2.2.2 (by omega) (by omega) (by omega), if_neg (show ¬ (1 : Int32) = 0 from by decide), e2, m_baseOf h (c := k) (by omega), Option.bind_some, m_otherBase h hO hE hEl hl hk, Option.bind_some, ee]
      unfold eqB
      by_cases q2 : bsv w D (be w D k) = bsv w E (be w E k)
      · rw [ieqT rfl rfl q2, if_neg (by simp [q2])]
      · rw [ieqF rfl rfl q2 (by omega) (by omega) (by omega) (by omega), if_pos (by simp [q2])]
        exact fl0 _ _
    · intro n'
      show (if iZ ((bg w E).length : Int) < ms_i σ 493 17 then _ else _) = _
      rw [iltF rfl h.2.2.2.2.2.2.2.2.2 (by omega) (by omega) (by omega)]
      rfl
    · unfold fdB
      rw [decide_eq_true (show 0 + (bg w E).length ≤ (bg w D).length from by omega), Bool.true_and]
      by_cases q2 : anyF (fun d => !eqC 1 w D E (0 + d) d) 0 (bg w E).length = true
      · rw [if_pos q2, q2, if_neg (by simp)]
      · rw [if_neg q2, Bool.eq_false_iff.mpr q2, if_pos ⟨q, rfl⟩]
  · rw [ieqF h.2.2.2.2.2.2.2.2.2 hO.2.2.1 (by omega) (by omega) (by omega) (by omega) (by omega), if_neg (fun g => q g.1)]
    exact fl0 99999 0
/-- the place of the k-th (from 0), -1: none -/
def nthU (P : Nat → Bool) (k : Nat) : Nat → Nat → Nat → Int
  | _, _, 0 => -1
  | a, i, d + 1 => if P i = true then (if a = k then (i : Int) else nthU P k (a + 1) (i + 1) d) else nthU P k a (i + 1) d
theorem nthU_bd (P : Nat → Bool) (k : Nat) : ∀ d a i, nthU P k a i d = -1 ∨ ((i : Int) ≤ nthU P k a i d ∧ nthU P k a i d < (i : Int) + d) := by
  intro d
  induction d with
  | zero => intro a i; exact Or.inl rfl
  | succ d ih =>
    intro a i
    show (if P i = true then (if a = k then (i : Int) else nthU P k (a + 1) (i + 1) d) else nthU P k a (i + 1) d) = -1 ∨ ((i : Int) ≤ (if P i = true then (if a = k then (i : Int) else nthU P k (a + 1) (i + 1) d) else nthU P k a (i + 1) d) ∧ (if P i = true then (if a = k then (i : Int) else nthU P k (a + 1) (i + 1) d) else nthU P k a (i + 1) d) < (i : Int) + ((d + 1 : Nat) : Int))
    by_cases q : P i = true
    · rw [if_pos q]
      by_cases q2 : a = k
      · rw [if_pos q2]; right; omega
      · rw [if_neg q2]
        rcases ih (a + 1) (i + 1) with g | g
        · exact Or.inl g
        · right; omega
    · rw [if_neg q]
      rcases ih a (i + 1) with g | g
      · exact Or.inl g
      · right; omega
theorem nth_loop {β : Type} {f : Nat → Nat → Nat → β} {o : Int → β} {e : β} (P : Nat → Bool) (k N : Nat) (hs : ∀ n a i, i < N → a ≤ k → f (n + 1) a i = if P i = true then (if a = k then o (i : Int) else f n (a + 1) (i + 1)) else f n a (i + 1)) (he : ∀ n a, f (n + 1) a N = e) : ∀ d a i n, a ≤ k → i + d = N → d < n → f n a i = if nthU P k a i d = -1 then e else o (nthU P k a i d) := by
  intro d
  induction d with
  | zero =>
    intro a i n ha hi hn
    obtain ⟨m, rfl⟩ : ∃ m, n = m + 1 := ⟨n - 1, by omega⟩
    have hi' : i = N := by omega
    rw [hi', he]
    exact (if_pos rfl).symm
  | succ d ih =>
    intro a i n ha hi hn
    obtain ⟨m, rfl⟩ : ∃ m, n = m + 1 := ⟨n - 1, by omega⟩
    rw [hs m a i (by omega) ha]
    show _ = if (if P i = true then (if a = k then (i : Int) else nthU P k (a + 1) (i + 1) d) else nthU P k a (i + 1) d) = -1 then e else o (if P i = true then (if a = k then (i : Int) else nthU P k (a + 1) (i + 1) d) else nthU P k a (i + 1) d)
    by_cases q : P i = true
    · rw [if_pos q, if_pos q]
      by_cases q2 : a = k
      · rw [if_pos q2, if_pos q2, if_neg (by omega)]
      · rw [if_neg q2, if_neg q2]
        exact ih (a + 1) (i + 1) m (by omega) (by omega) (by omega)
    · rw [if_neg q, if_neg q]
      exact ih a (i + 1) m ha (by omega) (by omega)
end Ma
section Mb
variable {σ : MsSt} {w : Nat → Nat}
theorem q_areBare (h : InvS σ w) (x y : Int32) : ∃ r σ1 b σ2, f_X10_areBare σ 0 x y = some (r, σ1) ∧ Fr FScr σ σ1 ∧ f_X12_areBare σ1 493 x y = some (b, σ2) ∧ Ok r (ms_i σ2 493 7) b ∧ Fr FScr σ1 σ2 := by
  obtain ⟨z, z1, z2, rfl⟩ := iZ_of x
  obtain ⟨k, k1, k2, rfl⟩ := iZ_of y
  have h4 := h.1.2.2.1
  have h40 := h.1.1.1
  by_cases q : (0 ≤ z ∧ z ≤ (w 1 : Int) - 1) ∧ 0 ≤ k ∧ k ≤ (w 1 : Int) - 1
  · obtain ⟨l, rfl⟩ : ∃ l : Nat, z = (l : Int) := ⟨z.toNat, by omega⟩
    obtain ⟨m, rfl⟩ : ∃ m : Nat, k = (m : Int) := ⟨k.toNat, by omega⟩
    obtain ⟨s4, a1, ⟨a2, a3, a4, a5⟩, ⟨b2, b3, b4, b5⟩, a6⟩ := c_needBothT h q.1 q.2
    obtain ⟨n1, n2, n3, n4⟩ := lnok h.1 (l := l) (by omega)
    obtain ⟨p1, p2, p3, p4⟩ := lnok h.1 (l := m) (by omega)
    have h5 := h.fr a6
    obtain ⟨t3, c1, c2, c3, c4, c5⟩ := m_layTwo (h5.fr (fr7 s4 0)) (l := l) (m := m) (by omega) (by omega)
    rw [i_si_same] at c4
    refine ⟨.inl (if (bg w (dF w (ln w l))).length = (bg w (dF w (ln w m))).length ∧ fdB 1 w (dF w (ln w l)) (dF w (ln w m)) 0 = true then 1 else 0), s4, if (bg w (dF w (ln w l))).length = (bg w (dF w (ln w m))).length ∧ fdB 1 w (dF w (ln w l)) (dF w (ln w m)) 0 = true then 1 else 0, t3, ?_, a6, ?_, ⟨c4, rfl⟩, (fr7 s4 0).trans c5⟩
    · have hf : f_X1_isFoundAt s4 441 454 1 0 = some (b01 (fdB 1 w (dF w (ln w l)) (dF w (ln w m)) 0 = true)) := c_isFound a3 b3 (fun y hy => (n1 y hy).1) (fun y hy => (p1 y hy).1) h40 1 (c := 0) (by omega)
      unfold f_X10_areBare
      rw [a1, bu_n, x_rf6, x_rf7, (fm_refs (F := 441) (Or.inl rfl)).2.2.2.2.1, (fm_refs (F := 454) (Or.inr rfl)).2.2.2.2.1, ieq a3.2.1.cnt b3.2.1.cnt (by omega) (by omega) (by omega) (by omega), hf, Option.bind_some, ib01]
      by_cases g : ((bg w (dF w (ln w l))).length : Int) = ((bg w (dF w (ln w m))).length : Int)
      · rw [if_pos g]
        by_cases g2 : fdB 1 w (dF w (ln w l)) (dF w (ln w m)) 0 = true
        · rw [if_pos g2, if_pos ⟨by omega, g2⟩]
        · rw [if_neg g2, if_neg (fun q => g2 q.2)]
      · rw [if_neg g, if_neg (fun q => g (by omega))]
    · unfold f_X12_areBare
      rw [m_noTwoT h5 q.1 q.2, b2_s, if_pos rfl, c1, Option.bind_some, m_areBareL c2 c3 (fun y hy => (p1 y hy).1) p2 p3]
  · refine ⟨.inr 0, σ, 0, ms_si σ 493 7 1, ?_, Fr.refl _ _, ?_, i_si_same _ _ _ _, fr7 σ 1⟩
    · unfold f_X10_areBare
      rw [c_needBothF h z1 z2 k1 k2 q, bu_s]
    · unfold f_X12_areBare
      rw [m_noTwoF h z1 z2 k1 k2 q, b2_s, if_neg (by decide)]
end Mb
