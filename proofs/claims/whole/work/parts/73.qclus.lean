/-! clusters: one in a line, its boxes -/
section Cq
variable {σ : MsSt} {w : Nat → Nat}
def cc (L : List Nat) (c : Nat) : Nat := cnt (fun v => decide (L.getD v 0 = c)) L.length
theorem cc_snoc (L : List Nat) (x c : Nat) : cc (L ++ [x]) c = cc L c + if x = c then 1 else 0 := by
  unfold cc
  rw [List.length_append, List.length_singleton, cnt_succ]
  have e1 : cnt (fun v => decide ((L ++ [x]).getD v 0 = c)) L.length = cnt (fun v => decide (L.getD v 0 = c)) L.length := cnt_congr fun t ht => by
    show decide ((L ++ [x]).getD t 0 = c) = decide (L.getD t 0 = c)
    rw [List.getD_eq_getElem?_getD, List.getElem?_append_left ht, ← List.getD_eq_getElem?_getD]
  have e2 : (L ++ [x]).getD L.length 0 = x := by
    rw [List.getD_eq_getElem?_getD, List.getElem?_append_right (Nat.le_refl _)]
    simp
  rw [e1, e2]
  by_cases q : x = c
  · rw [if_pos q, if_pos (by simp [q])]
  · rw [if_neg q, if_neg (by simp [q])]
theorem cc_nil (c : Nat) : cc [] c = 0 := rfl
section Ci
variable {n : Nat} {D : List Nat}
theorem cmp_cidIn (sp : Nat → Bool) {c : Nat} (hc : c < (bg w D).length) (h0 : (cmp w sp n (D.take (be w D c))).2.2.2.1 = c) (hd : ∀ i, i ≤ D.length → (cmp w sp n (D.take i)).1.length = (cmp w sp n (D.take i)).2.1.length) : ∀ j, be w D c + 1 + j ≤ be w D (c + 1) → (cmp w sp n (D.take (be w D c + 1 + j))).2.2.2.1 = c + 1 ∧ (cmp w sp n (D.take (be w D c))).1.length ≤ (cmp w sp n (D.take (be w D c + 1 + j))).1.length ∧ ∀ d, cc (cmp w sp n (D.take (be w D c + 1 + j))).2.1 d = cc (cmp w sp n (D.take (be w D c))).2.1 d + if c = d then (cmp w sp n (D.take (be w D c + 1 + j))).1.length - (cmp w sp n (D.take (be w D c))).1.length else 0 := by
  obtain ⟨b1, b2, b3⟩ := be_lt hc
  have stay : ∀ (s : CSt) (x k : Nat), k + 1 = cClu s → (cStay w s x).2.2.2.1 = k + 1 ∧ s.1.length + 1 = (cStay w s x).1.length ∧ ∀ d, cc (cStay w s x).2.1 d = cc s.2.1 d + if k = d then 1 else 0 := by
    intro s x k hk
    refine ⟨hk.symm, by simp [cStay], fun d => ?_⟩
    show cc (s.2.1 ++ [cClu s - 1]) d = _
    rw [cc_snoc]
    have e : cClu s - 1 = k := by omega
    rw [e]
  intro j
  induction j with
  | zero =>
    intro _
    show (cmp w sp n (D.take (be w D c + 1))).2.2.2.1 = c + 1 ∧ (cmp w sp n (D.take (be w D c))).1.length ≤ (cmp w sp n (D.take (be w D c + 1))).1.length ∧ ∀ d, cc (cmp w sp n (D.take (be w D c + 1))).2.1 d = cc (cmp w sp n (D.take (be w D c))).2.1 d + if c = d then (cmp w sp n (D.take (be w D c + 1))).1.length - (cmp w sp n (D.take (be w D c))).1.length else 0
    rw [cmp_take b3]
    have hd0 := hd (be w D c) (by omega)
    have hg : D.getD (be w D c) 0 = D[be w D c] := getD_get b3
    by_cases q : Kd w D[be w D c] = 1
    · have z : be w D c = 0 := by
        rcases Nat.eq_zero_or_pos (be w D c) with z | z
        · exact z
        · exact absurd (hg ▸ q) (be_base hc z)
      have e0 : cmp w sp n (D.take (be w D c)) = c0 := by rw [z]; rfl
      have ec : c = 0 := by rw [e0] at h0; exact h0.symm
      have es : cstep w sp n (cmp w sp n (D.take (be w D c))) D[be w D c] = cStay w (cmp w sp n (D.take (be w D c))) D[be w D c] := by
        unfold cstep
        rw [if_pos q, e0, if_neg (by rintro ⟨g, _⟩; exact absurd g (by decide))]
      obtain ⟨s1, s2, s3⟩ := stay (cmp w sp n (D.take (be w D c))) D[be w D c] c (by unfold cClu; rw [h0, ec]; rfl)
      rw [es]
      refine ⟨s1, by omega, fun d => ?_⟩
      rw [s3 d]
      have : (cStay w (cmp w sp n (D.take (be w D c))) D[be w D c]).1.length - (cmp w sp n (D.take (be w D c))).1.length = 1 := by omega
      rw [this]
    · have es : cstep w sp n (cmp w sp n (D.take (be w D c))) D[be w D c] = cBase (cmp w sp n (D.take (be w D c))) D[be w D c] := by
        unfold cstep
        rw [if_neg q]
      rw [es]
      have el : (cBase (cmp w sp n (D.take (be w D c))) D[be w D c]).1.length = (cmp w sp n (D.take (be w D c))).1.length + 1 := by simp [cBase]
      refine ⟨by show (cmp w sp n (D.take (be w D c))).2.2.2.1 + 1 = c + 1; rw [h0], by omega, fun d => ?_⟩
      show cc ((cmp w sp n (D.take (be w D c))).2.1 ++ [(cmp w sp n (D.take (be w D c))).2.2.2.1]) d = _
      rw [cc_snoc, h0, el, Nat.add_sub_cancel_left]
  | succ j ih =>
    intro hj
    obtain ⟨i1, i2, i3⟩ := ih (by omega)
    have hk : be w D c + 1 + j < D.length := by omega
    have hg : D.getD (be w D c + 1 + j) 0 = D[be w D c + 1 + j] := getD_get hk
    have q : Kd w D[be w D c + 1 + j] = 1 := hg ▸ be_mark hc (k := be w D c + 1 + j) (by omega) (by omega)
    show (cmp w sp n (D.take (be w D c + 1 + j + 1))).2.2.2.1 = c + 1 ∧ (cmp w sp n (D.take (be w D c))).1.length ≤ (cmp w sp n (D.take (be w D c + 1 + j + 1))).1.length ∧ ∀ d, cc (cmp w sp n (D.take (be w D c + 1 + j + 1))).2.1 d = cc (cmp w sp n (D.take (be w D c))).2.1 d + if c = d then (cmp w sp n (D.take (be w D c + 1 + j + 1))).1.length - (cmp w sp n (D.take (be w D c))).1.length else 0
    rw [cmp_take hk]
    generalize cmp w sp n (D.take (be w D c + 1 + j)) = s at i1 i2 i3 ⊢
    unfold cstep
    rw [if_pos q]
    by_cases q2 : 0 ≤ s.2.2.1 ∧ ¬ Cl w D[be w D c + 1 + j] ∈ s.2.2.2.2 ∧ mk w sp n ((s.1.getD s.2.2.1.toNat 0 : Nat) : Int) (D[be w D c + 1 + j] : Int) ≠ -1
    · rw [if_pos q2]
      have el : (cSet w sp n s D[be w D c + 1 + j]).1.length = s.1.length := by simp [cSet]
      rw [el]
      exact ⟨i1, i2, i3⟩
    · rw [if_neg q2]
      obtain ⟨s1, s2, s3⟩ := stay s D[be w D c + 1 + j] c (by unfold cClu; rw [i1, if_neg (by omega)])
      refine ⟨s1, by omega, fun d => ?_⟩
      rw [s3 d, i3 d]
      by_cases e : c = d
      · rw [if_pos e, if_pos e, if_pos e]
        omega
      · rw [if_neg e, if_neg e, if_neg e]
theorem cmp_cid (sp : Nat → Bool) (hd : ∀ i, i ≤ D.length → (cmp w sp n (D.take i)).1.length = (cmp w sp n (D.take i)).2.1.length) : ∀ c, c ≤ (bg w D).length → (cmp w sp n (D.take (be w D c))).2.2.2.1 = c ∧ ∀ d, cc (cmp w sp n (D.take (be w D c))).2.1 d = if d < c then kpt w sp n D d else 0 := by
  intro c
  induction c with
  | zero =>
    intro _
    rw [be_zero]
    exact ⟨rfl, fun d => by rw [if_neg (by omega)]; rfl⟩
  | succ c ih =>
    intro hc
    obtain ⟨h1, h2⟩ := ih (by omega)
    have hb := be_lt (w := w) (D := D) (c := c) (by omega)
    have e : be w D c + 1 + (be w D (c + 1) - be w D c - 1) = be w D (c + 1) := by omega
    have h3 := cmp_cidIn (w := w) (D := D) (n := n) sp (c := c) (by omega) h1 hd (be w D (c + 1) - be w D c - 1) (by omega)
    rw [e] at h3
    obtain ⟨g1, g2, g3⟩ := h3
    refine ⟨g1, fun d => ?_⟩
    rw [g3 d, h2 d]
    by_cases q : d < c
    · rw [if_pos q, if_neg (by omega), if_pos (by omega)]
      rfl
    · rw [if_neg q]
      by_cases q2 : c = d
      · subst q2
        rw [if_pos rfl, if_pos (by omega), Nat.zero_add]
        rfl
      · rw [if_neg q2, if_neg (by omega)]
end Ci
theorem kpt_le (h : WF w) {l d : Nat} (hl : l < 4) (hd : d < (bg w (dF w (ln w l))).length) : cc (cmp w (spN w) (w 0) (dF w (ln w l))).2.1 d = kpt w (spN w) (w 0) (dF w (ln w l)) d ∧ kpt w (spN w) (w 0) (dF w (ln w l)) d ≤ 360 := by
  obtain ⟨n1, n2, n3, n4⟩ := lnok h hl
  have hi := cmp_inv (sp := spN w) (fun y hy => ⟨(n1 y hy).1, (n1 y hy).2.2⟩) (D := dF w (ln w l))
  have h1 := (cmp_cid (w := w) (n := w 0) (D := dF w (ln w l)) (spN w) (fun i hi' => (hi i hi').1) (bg w (dF w (ln w l))).length (Nat.le_refl _)).2 d
  rw [be_end, List.take_length, if_pos hd] at h1
  refine ⟨h1, ?_⟩
  have hb := be_lt hd
  have h2 := (hi (be w (dF w (ln w l)) (d + 1)) hb.2.1).2.1
  unfold kpt
  omega
theorem kp_get {sp : Nat → Bool} {n d k : Nat} {D : List Nat} (hd : d < k) : (kp w sp n D k)[d]'(by rw [kp_length]; exact hd) = kpt w sp n D d := by
  simp [kp]
/-- the class's clusters -/
theorem c_needCT (h : InvS σ w) {l : Nat} {k : Int} (hl : l < 4) (q : 0 ≤ (l : Int) ∧ (l : Int) ≤ (w 1 : Int) - 1) (k1 : -2147483648 ≤ k) (k2 : k < 2147483648) : ∃ s4, f_X10_needCluster σ 0 (iZ (l : Int)) (iZ k) = some (if 0 ≤ k ∧ k ≤ ((bg w (dF w (ln w l))).length : Int) - 1 then none else some 0, s4) ∧ DvR s4 441 w (spN w) (w 0) (ln w l) ∧ Fr (In 441 454) σ s4 := by
  obtain ⟨n1, n2, n3, n4⟩ := lnok h.1 hl
  obtain ⟨s4, a1, a2, a6⟩ := c_deriveL h (F := 441) (Or.inl rfl) hl
  refine ⟨s4, ?_, a2, a6⟩
  have e : ms_i s4 (ms_rf 441 4) 1 - 1 = iZ (((bg w (dF w (ln w l))).length : Int) - 1) := by rw [(fm_refs (F := 441) (Or.inl rfl)).2.2.2.2.1, a2.2.1.2.1.cnt, i1, iZ_sub]
  unfold f_X10_needCluster
  rw [needLine_s h (by omega) (by omega), btT q, x_rf1, lineAt_s (a := 3) (Or.inl rfl) hl, Option.bind_some, x_rf6, a1, Option.bind_some, e, needIn0 k1 k2 (by omega) (by omega), bt_if]
  by_cases g : 0 ≤ k ∧ k ≤ ((bg w (dF w (ln w l))).length : Int) - 1
  · rw [if_pos g, if_pos g]
  · rw [if_neg g, if_neg g]
theorem c_needCF (h : InvS σ w) {z : Int} {y : Int32} (z1 : -2147483648 ≤ z) (z2 : z < 2147483648) (q : ¬ (0 ≤ z ∧ z ≤ (w 1 : Int) - 1)) : f_X10_needCluster σ 0 (iZ z) y = some (some 0, σ) := by
  unfold f_X10_needCluster
  rw [needLine_s h z1 z2, btF q]
/-- the reference's -/
theorem m_isCl (h : InvS σ w) {l : Nat} {k : Int} (hl : l < 4) (q : 0 ≤ (l : Int) ∧ (l : Int) ≤ (w 1 : Int) - 1) (k1 : -2147483648 ≤ k) (k2 : k < 2147483648) : ∃ s4, f_X12_isCluster σ 493 (iZ (l : Int)) (iZ k) = some (b01 (0 ≤ k ∧ k ≤ ((bg w (dF w (ln w l))).length : Int) - 1), s4) ∧ LcS s4 w (w 0) (dF w (ln w l)) ∧ LayS s4 (dF w (ln w l)) (sw w (pn w (ln w l)) : Int) ∧ Fr FScr σ s4 := by
  obtain ⟨n1, n2, n3, n4⟩ := lnok h.1 hl
  have h4 := h.1.2.2.1
  obtain ⟨s3, b1, b2, b3, b4, b5⟩ := m_lcL h hl
  refine ⟨s3, ?_, b2, b4, lc_scr b5⟩
  have e : ms_i s3 493 17 - 1 = iZ (((bg w (dF w (ln w l))).length : Int) - 1) := by rw [b2.2.2.2.2.2.2.2.2.2, i1, iZ_sub]
  unfold f_X12_isCluster
  rw [m_isLine h.2.2 h4 (by omega) (by omega), Option.bind_some, ibT q, b1, Option.bind_some, e, inRz k1 k2 (by omega) (by omega), Option.bind_some, bz_b01]
  rfl
theorem m_isClF (h : InvS σ w) {z : Int} {y : Int32} (z1 : -2147483648 ≤ z) (z2 : z < 2147483648) (q : ¬ (0 ≤ z ∧ z ≤ (w 1 : Int) - 1)) : f_X12_isCluster σ 493 (iZ z) y = some (0, σ) := by
  have h4 := h.1.2.2.1
  unfold f_X12_isCluster
  rw [m_isLine h.2.2 h4 z1 z2, Option.bind_some, ibF q]
theorem m_noCl {x y : Int32} {s : MsSt} {p : Prop} [Decidable p] (h : f_X12_isCluster σ 493 x y = some (b01 p, s)) : f_X12_noCluster σ 493 x y = some (b01 (¬ p), ms_si s 493 7 (b01 (¬ p))) := by
  unfold f_X12_noCluster
  rw [h, b2_s]
  by_cases q : p
  · rw [ibT q, nm_s, i_si_same, if_pos rfl, lnE0 q]
  · rw [ibF q, nm_s, i_si_same, if_neg (by decide), lnE1 q]
theorem m_noClT (h : InvS σ w) {l : Nat} {k : Int} (hl : l < 4) (q : 0 ≤ (l : Int) ∧ (l : Int) ≤ (w 1 : Int) - 1) (k1 : -2147483648 ≤ k) (k2 : k < 2147483648) (g : 0 ≤ k ∧ k ≤ ((bg w (dF w (ln w l))).length : Int) - 1) : ∃ s4, f_X12_noCluster σ 493 (iZ (l : Int)) (iZ k) = some (0, s4) ∧ LcS s4 w (w 0) (dF w (ln w l)) ∧ LayS s4 (dF w (ln w l)) (sw w (pn w (ln w l)) : Int) ∧ ms_i s4 493 7 = 0 ∧ Fr FScr σ s4 := by
  obtain ⟨s4, a1, a2, a3, a4⟩ := m_isCl h hl q k1 k2
  have e := m_noCl a1
  rw [lnE0 g] at e
  have F1 : Fr (fun a k => a = 493 ∧ k = 7) s4 (ms_si s4 493 7 0) := Fr.si _ _ ⟨rfl, rfl⟩
  exact ⟨_, e, a2.fr F1 (by intros; omega) (by intros; omega) (by intros; omega) (by omega) (by omega), ⟨a3.1.fr F1 (by intros; omega), (F1.1 _ _ (by omega)).trans a3.2.1, (F1.1 _ _ (by omega)).trans a3.2.2⟩, i_si_same _ _ _ _, a4.trans (fr7 s4 0)⟩
theorem m_noClF (h : InvS σ w) {z k : Int} (z1 : -2147483648 ≤ z) (z2 : z < 2147483648) (k1 : -2147483648 ≤ k) (k2 : k < 2147483648) (g : ¬ ((0 ≤ z ∧ z ≤ (w 1 : Int) - 1) ∧ 0 ≤ k ∧ k ≤ ((bg w (dF w (ln w z.toNat))).length : Int) - 1)) : ∃ s4, f_X12_noCluster σ 493 (iZ z) (iZ k) = some (1, s4) ∧ ms_i s4 493 7 = 1 ∧ Fr FScr σ s4 := by
  have h4 := h.1.2.2.1
  by_cases q : 0 ≤ z ∧ z ≤ (w 1 : Int) - 1
  · obtain ⟨l, rfl⟩ : ∃ l : Nat, z = (l : Int) := ⟨z.toNat, by omega⟩
    obtain ⟨s4, a1, a2, a3, a4⟩ := m_isCl h (by omega) q k1 k2
    have e := m_noCl a1
    rw [Int.toNat_natCast] at g
    rw [lnE1 (fun g' => g ⟨q, g'⟩)] at e
    exact ⟨_, e, i_si_same _ _ _ _, a4.trans (fr7 s4 1)⟩
  · have e := m_noCl (p := False) ((m_isClF h (y := iZ k) z1 z2 q).trans (by unfold b01; rfl))
    rw [lnE1 (fun g' => g')] at e
    exact ⟨_, e, i_si_same _ _ _ _, fr7 σ 1⟩
/-- how many of the composed come from a cluster -/
theorem m_composedOf {n c : Nat} {D : List Nat} {e : Int} (h : LcS σ w n D) (hL : LayS σ D e) (hc : c < 1000) (hk : cc (cmp w (spN w) n D).2.1 c ≤ 400) (hb : ∀ x ∈ (cmp w (spN w) n D).2.1, x < 1000) : ∃ σ', f_X12_composedOf σ 493 (iZ (c : Int)) = some (iZ (cc (cmp w (spN w) n D).2.1 c : Int), σ') ∧ Fr FCmp σ σ' := by
  obtain ⟨σ', a1, a2, a3⟩ := h.cmp hL
  obtain ⟨l1, l2, l3⟩ := cmp_len h.2.2.2.1 (spN w)
  have l4 := h.2.2.2.2.1
  refine ⟨σ', ?_, a3⟩
  unfold f_X12_composedOf
  rw [a1, Option.bind_some]
  refine cnt_loop (f := fun n' a i => f_X12_composedOf_8 n' σ' 493 (iZ (c : Int)) a i) (o := some (iZ (cc (cmp w (spN w) n D).2.1 c : Int), σ')) (fun v => decide ((cmp w (spN w) n D).2.1.getD v 0 = c)) (cmp w (spN w) n D).2.1.length (by omega) ?_ ?_
  · intro n' i a hi
    have e1 := ald_iZ (σ := σ') (a := 503) (k := i) (by rw [m_ln.2.2.2.2.2.2.2.2.2.1]; omega) (by rw [m_ln.2.2.2.2.2.2.2.2.2.1]; omega)
    rw [a2.2.1 i hi] at e1
    have e2 : (cmp w (spN w) n D).2.1.getD i 0 = (cmp w (spN w) n D).2.1[i] := getD_get hi
    have e3 := hb _ (List.getElem_mem hi)
    show (if iZ (i : Int) < ms_i σ' 493 15 then _ else _) = _
    rw [iltT rfl a2.2.2 (by omega) (by omega) (by omega), m_rf14, e1, Option.bind_some, e2]
    by_cases q : (cmp w (spN w) n D).2.1[i] = c
    · rw [ieqT rfl rfl (by omega), if_pos (by simp [q]), i1, iZ_add, iZ_add]
    · rw [ieqF rfl rfl (by omega) (by omega) (by omega) (by omega) (by omega), if_neg (by simp [q]), i0, i1, iZ_add, iZ_add, Int.add_zero]
  · intro n'
    show (if iZ ((cmp w (spN w) n D).2.1.length : Int) < ms_i σ' 493 15 then _ else _) = _
    rw [iltF rfl a2.2.2 (by omega) (by omega) (by omega)]
    rfl
theorem cmp_cidb {n : Nat} {D : List Nat} (sp : Nat → Bool) (hD : ∀ y ∈ D, y < n ∧ Cl w y ≤ 60) : ∀ i, i ≤ D.length → ∀ x ∈ (cmp w sp n (D.take i)).2.1, x ≤ i := by
  intro i
  induction i with
  | zero => intro _ x hx; rw [List.take_zero] at hx; cases hx
  | succ i ih =>
    intro hi
    have hI := (cmp_inv (sp := sp) hD i (by omega)).2.2.2.2.1
    have ih' := ih (by omega)
    rw [cmp_take hi]
    generalize cmp w sp n (D.take i) = s at hI ih' ⊢
    have hst : ∀ x ∈ (cStay w s D[i]).2.1, x ≤ i + 1 := by
      intro x hx
      rcases List.mem_append.mp hx with hx | hx
      · have := ih' x hx; omega
      · rw [List.mem_singleton.mp hx]
        unfold cClu
        split <;> omega
    unfold cstep
    by_cases q : Kd w D[i] = 1
    · rw [if_pos q]
      by_cases q2 : 0 ≤ s.2.2.1 ∧ ¬ Cl w D[i] ∈ s.2.2.2.2 ∧ mk w sp n ((s.1.getD s.2.2.1.toNat 0 : Nat) : Int) (D[i] : Int) ≠ -1
      · rw [if_pos q2]
        intro x hx
        have := ih' x hx
        omega
      · rw [if_neg q2]
        exact hst
    · rw [if_neg q]
      intro x hx
      rcases List.mem_append.mp hx with hx | hx
      · have := ih' x hx; omega
      · rw [List.mem_singleton.mp hx]
        omega
theorem cidb (h : WF w) {l : Nat} (hl : l < 4) : ∀ x ∈ (cmp w (spN w) (w 0) (dF w (ln w l))).2.1, x < 1000 := fun x hx => by
  obtain ⟨n1, n2, n3, n4⟩ := lnok h hl
  have := cmp_cidb (w := w) (D := dF w (ln w l)) (spN w) (fun y hy => ⟨(n1 y hy).1, (n1 y hy).2.2⟩) (dF w (ln w l)).length (Nat.le_refl _) x (by rw [List.take_length]; exact hx)
  omega
theorem q_cluster (h : InvS σ w) (x y v : Int32) : ∃ r σ1 b σ2, f_X10_cluster σ 0 x y v = some (r, σ1) ∧ Fr FScr σ σ1 ∧ f_X12_cluster σ1 493 x y v = some (b, σ2) ∧ Ok r (ms_i σ2 493 7) b ∧ Fr FScr σ1 σ2 := by
  obtain ⟨z, z1, z2, rfl⟩ := iZ_of x
  obtain ⟨k, k1, k2, rfl⟩ := iZ_of y
  obtain ⟨p, p1, p2, rfl⟩ := iZ_of v
  have h4 := h.1.2.2.1
  by_cases q : 0 ≤ z ∧ z ≤ (w 1 : Int) - 1
  · obtain ⟨l, rfl⟩ : ∃ l : Nat, z = (l : Int) := ⟨z.toNat, by omega⟩
    have hl : l < 4 := by omega
    obtain ⟨n1, n2, n3, n4⟩ := lnok h.1 hl
    obtain ⟨s4, a1, ⟨a2, a3, a4, a5⟩, a6⟩ := c_needCT h hl q k1 k2
    have hF4 := fm_scr (F := 441) (Or.inl rfl) a6
    have h5 := h.fr hF4
    by_cases g : 0 ≤ k ∧ k ≤ ((bg w (dF w (ln w l))).length : Int) - 1
    · obtain ⟨c, rfl⟩ : ∃ c : Nat, k = (c : Int) := ⟨k.toNat, by omega⟩
      have hc : c < (bg w (dF w (ln w l))).length := by omega
      rw [if_pos g] at a1
      by_cases qp : 0 ≤ p ∧ p ≤ 8
      · obtain ⟨s5, b1, b2, b3⟩ := c_lay (a := 467) (F := 441) (Or.inl rfl) (Or.inl rfl) h.1.1 h5.2.1.1 n1 a3 hc (n4 c hc)
        have hF5 : Fr FScr σ s5 := hF4.trans (bx_scr (a := 467) (Or.inl rfl) b3)
        have h6 := h.fr hF5
        have a3' := a3.away b3 (by omega)
        have a5' := a5.away b3 (by omega)
        obtain ⟨t4, e1, e2, e3, e4, e5⟩ := m_noClT h6 hl q k1 k2 g
        obtain ⟨t5, f1, f2, f3⟩ := m_layBoxes (b := 505) (Or.inl rfl) e2 hc (n4 c hc)
        have L5 := e2.frb (Or.inl rfl) f3
        have hth : ms_i t5 493 7 = 0 := (f3.1 _ _ (by unfold FMb; omega)).trans e4
        have F7 : Fr FScr s5 t5 := e5.trans (mb_scr (Or.inl rfl) f3)
        obtain ⟨r0, r1, r2, r3, r4, r5, r6⟩ := fm_refs (F := 441) (Or.inl rfl)
        obtain ⟨x1, x2, x3, x4, x5, x6, x7, x8, x9⟩ := b2
        obtain ⟨y1, y2, y3, y4, y5, y6⟩ := f2
        have hn1000 : ∀ y ∈ dF w (ln w l), y < 1000 := fun y hy => by have := (n1 y hy).1; have := h.1.1.1; omega
        have hp9 : p = 0 ∨ p = 1 ∨ p = 2 ∨ p = 3 ∨ p = 4 ∨ p = 5 ∨ p = 6 ∨ p = 7 ∨ p = 8 := by omega
        rcases hp9 with rfl | rfl | rfl | rfl | rfl | rfl | rfl | rfl | rfl
        · -- 0
          refine ⟨.inl (iZ (bsv w (dF w (ln w l)) (be w (dF w (ln w l)) c))), s5, iZ (bsv w (dF w (ln w l)) (be w (dF w (ln w l)) c)), t5, ?_, hF5, ?_, ⟨hth, rfl⟩, F7⟩
          · unfold f_X10_cluster
            rw [a1, bu_n, nd8 p1 p2, btT qp, x_rf8, x_rf6, b1, Option.bind_some, if_pos (by decide), r5, c_base a3' hc, Option.bind_some]
          · unfold f_X12_cluster
            rw [e1, b2_s, if_pos rfl, m_rf18, f1, Option.bind_some, if_pos (by decide), m_baseOf L5 hc, Option.bind_some]
        · -- 1
          refine ⟨.inl (iZ ((be w (dF w (ln w l)) (c + 1) - fm w (dF w (ln w l)) c : Nat) : Int)), s5, iZ ((be w (dF w (ln w l)) (c + 1) - fm w (dF w (ln w l)) c : Nat) : Int), t5, ?_, hF5, ?_, ⟨hth, rfl⟩, F7⟩
          · unfold f_X10_cluster
            rw [a1, bu_n, nd8 p1 p2, btT qp, x_rf8, x_rf6, b1, Option.bind_some, if_neg (by decide), if_pos (by decide), c_marksIn a3' (Or.inl rfl) hc hn1000, Option.bind_some]
          · unfold f_X12_cluster
            rw [e1, b2_s, if_pos rfl, m_rf18, f1, Option.bind_some, if_neg (by decide), if_pos (by decide), m_marksOf L5 hc, Option.bind_some]
        · -- 2
          have hbg : f_X5_get s5 (441 + 7) (iZ (c : Int)) = some (iZ (be w (dF w (ln w l)) c : Int)) := by
            rw [be_in hc]
            exact get_in a3'.2.1 hc
          refine ⟨.inl (iZ (be w (dF w (ln w l)) c : Int)), s5, iZ (be w (dF w (ln w l)) c : Int), t5, ?_, hF5, ?_, ⟨hth, rfl⟩, F7⟩
          · unfold f_X10_cluster
            rw [a1, bu_n, nd8 p1 p2, btT qp, x_rf8, x_rf6, b1, Option.bind_some, if_neg (by decide), if_neg (by decide), if_pos (by decide), r4, hbg, Option.bind_some]
          · unfold f_X12_cluster
            rw [e1, b2_s, if_pos rfl, m_rf18, f1, Option.bind_some, if_neg (by decide), if_neg (by decide), if_pos (by decide), m_rf16, m_begin L5 (by omega), Option.bind_some]
        · -- 3
          refine ⟨.inl (iZ (pen w (dF w (ln w l)) c : Int)), s5, iZ (pen w (dF w (ln w l)) c : Int), t5, ?_, hF5, ?_, ⟨hth, rfl⟩, F7⟩
          · unfold f_X10_cluster
            rw [a1, bu_n, nd8 p1 p2, btT qp, x_rf8, x_rf6, b1, Option.bind_some, if_neg (by decide), if_neg (by decide), if_neg (by decide), if_pos (by decide), c_penOf h.1.1 h6.2.1.1 (F := 441) (Or.inl rfl) n1 a3' (k := c) (by omega), Option.bind_some]
          · unfold f_X12_cluster
            rw [e1, b2_s, if_pos rfl, m_rf18, f1, Option.bind_some, if_neg (by decide), if_neg (by decide), if_neg (by decide), if_pos (by decide), m_penOf L5 (by omega), Option.bind_some]
        · -- 4
          refine ⟨.inl (iZ (bS w (dF w (ln w l)) c (mks w (dF w (ln w l)) c)).1), s5, iZ (bS w (dF w (ln w l)) c (mks w (dF w (ln w l)) c)).1, t5, ?_, hF5, ?_, ⟨hth, rfl⟩, F7⟩
          · unfold f_X10_cluster
            rw [a1, bu_n, nd8 p1 p2, btT qp, x_rf8, x_rf6, b1, Option.bind_some, if_neg (by decide), if_neg (by decide), if_neg (by decide), if_neg (by decide), if_pos (by decide), x6]
          · unfold f_X12_cluster
            rw [e1, b2_s, if_pos rfl, m_rf18, f1, Option.bind_some, if_neg (by decide), if_neg (by decide), if_neg (by decide), if_neg (by decide), if_pos (by decide), y3]
        · -- 5
          refine ⟨.inl (iZ (bS w (dF w (ln w l)) c (mks w (dF w (ln w l)) c)).2.1), s5, iZ (bS w (dF w (ln w l)) c (mks w (dF w (ln w l)) c)).2.1, t5, ?_, hF5, ?_, ⟨hth, rfl⟩, F7⟩
          · unfold f_X10_cluster
            rw [a1, bu_n, nd8 p1 p2, btT qp, x_rf8, x_rf6, b1, Option.bind_some, if_neg (by decide), if_neg (by decide), if_neg (by decide), if_neg (by decide), if_neg (by decide), if_pos (by decide), x7]
          · unfold f_X12_cluster
            rw [e1, b2_s, if_pos rfl, m_rf18, f1, Option.bind_some, if_neg (by decide), if_neg (by decide), if_neg (by decide), if_neg (by decide), if_neg (by decide), if_pos (by decide), y4]
        · -- 6
          refine ⟨.inl (iZ (bS w (dF w (ln w l)) c (mks w (dF w (ln w l)) c)).2.2.1), s5, iZ (bS w (dF w (ln w l)) c (mks w (dF w (ln w l)) c)).2.2.1, t5, ?_, hF5, ?_, ⟨hth, rfl⟩, F7⟩
          · unfold f_X10_cluster
            rw [a1, bu_n, nd8 p1 p2, btT qp, x_rf8, x_rf6, b1, Option.bind_some, if_neg (by decide), if_neg (by decide), if_neg (by decide), if_neg (by decide), if_neg (by decide), if_neg (by decide), if_pos (by decide), x8]
          · unfold f_X12_cluster
            rw [e1, b2_s, if_pos rfl, m_rf18, f1, Option.bind_some, if_neg (by decide), if_neg (by decide), if_neg (by decide), if_neg (by decide), if_neg (by decide), if_neg (by decide), if_pos (by decide), y5]
        · -- 7
          refine ⟨.inl (iZ (bS w (dF w (ln w l)) c (mks w (dF w (ln w l)) c)).2.2.2), s5, iZ (bS w (dF w (ln w l)) c (mks w (dF w (ln w l)) c)).2.2.2, t5, ?_, hF5, ?_, ⟨hth, rfl⟩, F7⟩
          · unfold f_X10_cluster
            rw [a1, bu_n, nd8 p1 p2, btT qp, x_rf8, x_rf6, b1, Option.bind_some, if_neg (by decide), if_neg (by decide), if_neg (by decide), if_neg (by decide), if_neg (by decide), if_neg (by decide), if_neg (by decide), if_pos (by decide), x9]
          · unfold f_X12_cluster
            rw [e1, b2_s, if_pos rfl, m_rf18, f1, Option.bind_some, if_neg (by decide), if_neg (by decide), if_neg (by decide), if_neg (by decide), if_neg (by decide), if_neg (by decide), if_neg (by decide), if_pos (by decide), y6]
        · -- 8
          have hkp : f_X5_get s5 (441 + 11) (iZ (c : Int)) = some (iZ (kpt w (spN w) (w 0) (dF w (ln w l)) c : Int)) := by
            have := get_in a5' (k := c) (by rw [kp_length]; exact hc)
            rw [kp_get hc] at this
            exact this
          obtain ⟨kc1, kc2⟩ := kpt_le h.1 hl hc
          have hL5 : LayS t5 (dF w (ln w l)) (sw w (pn w (ln w l)) : Int) := ⟨e3.1.fr f3 (by unfold FMb; intros; omega), (f3.1 _ _ (by unfold FMb; omega)).trans e3.2.1, (f3.1 _ _ (by unfold FMb; omega)).trans e3.2.2⟩
          obtain ⟨u, u1, u2⟩ := m_composedOf L5 hL5 (c := c) (by omega) (by omega) (cidb h.1 hl)
          rw [kc1] at u1
          refine ⟨.inl (iZ (kpt w (spN w) (w 0) (dF w (ln w l)) c : Int)), s5, iZ (kpt w (spN w) (w 0) (dF w (ln w l)) c : Int), u, ?_, hF5, ?_, ⟨(u2.1 _ _ (by unfold FCmp; omega)).trans hth, rfl⟩, (F7.trans (cmp_scr u2))⟩
          · unfold f_X10_cluster
            rw [a1, bu_n, nd8 p1 p2, btT qp, x_rf8, x_rf6, b1, Option.bind_some, if_neg (by decide), if_neg (by decide), if_neg (by decide), if_neg (by decide), if_neg (by decide), if_neg (by decide), if_neg (by decide), if_neg (by decide), r6, hkp, Option.bind_some]
          · unfold f_X12_cluster
            rw [e1, b2_s, if_pos rfl, m_rf18, f1, Option.bind_some, if_neg (by decide), if_neg (by decide), if_neg (by decide), if_neg (by decide), if_neg (by decide), if_neg (by decide), if_neg (by decide), if_neg (by decide), if_pos (by decide), u1, b2_s]
      · obtain ⟨t4, e1, e2, e3, e4, e5⟩ := m_noClT h5 hl q k1 k2 g
        obtain ⟨t5, f1, f2, f3⟩ := m_layBoxes (b := 505) (Or.inl rfl) e2 hc (n4 c hc)
        refine ⟨.inr 0, s4, 0, ms_si t5 493 7 1, ?_, hF4, ?_, i_si_same _ _ _ _, (e5.trans (mb_scr (Or.inl rfl) f3)).trans (fr7 t5 1)⟩
        · unfold f_X10_cluster
          rw [a1, bu_n, nd8 p1 p2, btF qp]
        · unfold f_X12_cluster
          rw [e1, b2_s, if_pos rfl, m_rf18, f1, Option.bind_some, ieqF (y := 0) (a := p) (b := 0) rfl rfl (by omega) (by omega) (by omega) (by omega) (by omega), ieqF (y := 1) (a := p) (b := 1) rfl rfl (by omega) (by omega) (by omega) (by omega) (by omega), ieqF (y := 2) (a := p) (b := 2) rfl rfl (by omega) (by omega) (by omega) (by omega) (by omega), ieqF (y := 3) (a := p) (b := 3) rfl rfl (by omega) (by omega) (by omega) (by omega) (by omega), ieqF (y := 4) (a := p) (b := 4) rfl rfl (by omega) (by omega) (by omega) (by omega) (by omega), ieqF (y := 5) (a := p) (b := 5) rfl rfl (by omega) (by omega) (by omega) (by omega) (by omega), ieqF (y := 6) (a := p) (b := 6) rfl rfl (by omega) (by omega) (by omega) (by omega) (by omega), ieqF (y := 7) (a := p) (b := 7) rfl rfl (by omega) (by omega) (by omega) (by omega) (by omega), ieqF (y := 8) (a := p) (b := 8) rfl rfl (by omega) (by omega) (by omega) (by omega) (by omega), raise_s, b2_s]
    · rw [if_neg g] at a1
      obtain ⟨t4, e1, e2, e3⟩ := m_noClF h5 z1 z2 k1 k2 (fun g' => g g'.2)
      refine ⟨.inr 0, s4, 0, t4, ?_, hF4, ?_, e2, e3⟩
      · unfold f_X10_cluster
        rw [a1, bu_s]
      · unfold f_X12_cluster
        rw [e1, b2_s, if_neg (by decide)]
  · obtain ⟨t4, e1, e2, e3⟩ := m_noClF h z1 z2 k1 k2 (fun g' => q g'.1)
    refine ⟨.inr 0, σ, 0, t4, ?_, Fr.refl _ _, ?_, e2, e3⟩
    · unfold f_X10_cluster
      rw [c_needCF h z1 z2 q, bu_s]
    · unfold f_X12_cluster
      rw [e1, b2_s, if_neg (by decide)]
end Cq
