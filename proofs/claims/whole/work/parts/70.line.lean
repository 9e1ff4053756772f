/-! lines: what both sides know of one -/
section Li
variable {σ : MsSt} {w : Nat → Nat}
theorem c_deriveL (h : InvS σ w) {F l : Nat} (hF : FmAt F) (hl : l < 4) : ∃ σ', f_X1_derive σ F (3 + 123 + 2 * l) (-1) = some σ' ∧ DvR σ' F w (spN w) (w 0) (ln w l) ∧ Fr (In F (F + 13)) σ σ' := by
  obtain ⟨hm, h60⟩ := h.1.line hl
  have hlo := fm_lo hF
  obtain ⟨σ', a1, a2, a3⟩ := c_derive (sp := spN w) (fr := -1) h.1.1 h.2.1.1 hF (h.2.1.2.2.2 l hl) hm h60 (by omega) (fun p _ _ => spN_hsp w p) (by omega) (by omega)
  exact ⟨σ', a1, a2, a3⟩
theorem fm_scr {F : Nat} (hF : FmAt F) {σ σ' : MsSt} (h : Fr (In F (F + 13)) σ σ') : Fr FScr σ σ' := by
  have hlo := fm_lo hF
  exact h.mono fun a k q => by have q1 := q.1; have q2 := q.2; unfold FScr; omega
theorem bx_scr {a : Nat} (ha : BxAt a) {σ σ' : MsSt} (h : Fr (In a (a + 11)) σ σ') : Fr FScr σ σ' := by
  have hlo := bx_lo ha
  exact h.mono fun a k q => by have q1 := q.1; have q2 := q.2; unfold FScr; omega
theorem lc_scr {σ σ' : MsSt} (h : Fr FLC σ σ') : Fr FScr σ σ' := h.mono fun a k q => by unfold FLC at q; unfold FScr; omega
theorem cmp_scr {σ σ' : MsSt} (h : Fr FCmp σ σ') : Fr FScr σ σ' := h.mono fun a k q => by unfold FCmp at q; unfold FScr; omega
theorem mb_scr {b : Nat} (hb : MbAt b) {σ σ' : MsSt} (h : Fr (FMb b) σ σ') : Fr FScr σ σ' := by
  have hlo := mb_lo hb
  exact h.mono fun a k q => by unfold FMb at q; unfold FScr; omega
theorem lnok (h : WF w) {l : Nat} (hl : l < 4) : (∀ y ∈ dF w (ln w l), y < w 0 ∧ Kd w y ≤ 1 ∧ Cl w y ≤ 60) ∧ (dF w (ln w l)).length ≤ 360 ∧ (bg w (dF w (ln w l))).length ≤ 60 ∧ ∀ c, c < (bg w (dF w (ln w l))).length → mks w (dF w (ln w l)) c ≤ 66 := by
  obtain ⟨hm, h60⟩ := h.line hl
  have h1 := dF_length h.1 hm
  have h2 := bg_length h.1 hm
  refine ⟨dF_ok h.1 hm, by omega, by omega, fun c hc => ?_⟩
  have := marks_le h.1 hm h60 hc
  unfold mks
  omega
theorem m_lcL (h : InvS σ w) {l : Nat} (hl : l < 4) : ∃ σ', f_X12_layClusters σ 493 (iZ (l : Int)) = some σ' ∧ LcS σ' w (w 0) (dF w (ln w l)) ∧ ms_i σ' 493 12 = iZ (sw w (pn w (ln w l)) : Int) ∧ LayS σ' (dF w (ln w l)) (sw w (pn w (ln w l)) : Int) ∧ Fr FLC σ σ' := by
  obtain ⟨h1, h2, h3, -⟩ := lnok h.1 hl
  obtain ⟨σ', a1, a2, a3, a4⟩ := m_layClusters h.1 hl h.2.2
  exact ⟨σ', a1, ⟨h.2.2.fr a4 (by unfold FLC; intros; omega), rfl, h.1.1, h1, h2, h3, a2.1, a2.2.1, a3⟩, a2.2.2, a2, a4⟩
theorem LcS.cmp {n : Nat} {D : List Nat} {c : Int} (h : LcS σ w n D) (hL : LayS σ D c) : ∃ σ', f_X12_layComposed σ 493 = some σ' ∧ CmS σ' (cmp w (spN w) n D) ∧ Fr FCmp σ σ' :=
  m_layComposed h.2.2.1 h.2.1 h.1 hL (fun y hy => ⟨(h.2.2.2.1 y hy).1, (h.2.2.2.1 y hy).2.2⟩) h.2.2.2.2.1
theorem LcS.frc {σ' : MsSt} {n : Nat} {D : List Nat} (h : LcS σ w n D) (hF : Fr FCmp σ σ') : LcS σ' w n D := h.fr hF (by unfold FCmp; intros; omega) (by unfold FCmp; intros; omega) (by unfold FCmp; intros; omega) (by unfold FCmp; omega) (by unfold FCmp; omega)
theorem LcS.frb {σ' : MsSt} {n : Nat} {D : List Nat} {b : Nat} (hb : MbAt b) (h : LcS σ w n D) (hF : Fr (FMb b) σ σ') : LcS σ' w n D := by
  have hlo := mb_lo hb
  exact h.fr hF (by unfold FMb; intros; omega) (by unfold FMb; intros; omega) (by unfold FMb; intros; omega) (by unfold FMb; omega) (by unfold FMb; omega)
theorem LcS.frq {σ' : MsSt} {n : Nat} {D : List Nat} (h : LcS σ w n D) (hF : Fr (fun a k => (505 ≤ a ∧ a ≤ 508)) σ σ') : LcS σ' w n D := h.fr hF (by intros; omega) (by intros; omega) (by intros; omega) (by omega) (by omega)
theorem cmp_len {n : Nat} {D : List Nat} (hD : ∀ y ∈ D, y < n ∧ Kd w y ≤ 1 ∧ Cl w y ≤ 60) (sp : Nat → Bool) : (cmp w sp n D).1.length ≤ D.length ∧ (cmp w sp n D).1.length = (cmp w sp n D).2.1.length ∧ ∀ x ∈ (cmp w sp n D).1, x < n := by
  have hi := cmp_inv (sp := sp) (fun y hy => ⟨(hD y hy).1, (hD y hy).2.2⟩) _ (Nat.le_refl D.length)
  rw [List.take_length] at hi
  exact ⟨hi.2.1, hi.1, hi.2.2.2.2.2.1⟩
theorem c_cw0 (h : InvS σ w) {F : Nat} (hF : FmAt F) {L : List Nat} (hm : ∀ x ∈ L, x < w 0) : CwR σ F w (pn w L) (-1) 0 := by
  intro x hx
  have h40 := h.1.1.1
  obtain ⟨p1, p2⟩ := pn_lt h.1.1 hm x hx
  have p3 := (pn_sgB h.1.1 hm x hx).2.2
  obtain ⟨k1, k2, k3, k4⟩ := (h.1.1.2.1 x p1).1
  refine ⟨?_, p3, ?_⟩
  · unfold f_X1_classWith
    rw [ieqF rfl im1 (by omega) (by omega) (by omega) (by omega) (by omega), (fm_refs hF).1, classOf_s h.2.1.1 (Or.inl rfl) p1 h40]
    rfl
  · constructor
    · intro q
      have := (k3 q).1
      omega
    · intro q
      by_cases g : Kd w x = 1
      · exact g
      · exact absurd (k2 (by omega)).1 q
theorem c_penOf {n F : Nat} {D : List Nat} (hs : SgsOK w n) (hc : ScRep σ 3 w n) (hF : FmAt F) (hD : ∀ y ∈ D, y < n ∧ Kd w y ≤ 1 ∧ Cl w y ≤ 60) (hR : FmR σ F w D) {k : Nat} (hk : k ≤ (bg w D).length) : f_X1_penOf σ F (iZ (k : Int)) = some (iZ (pen w D k : Int)) := by
  obtain ⟨r0, r1, r2, r3, r4, r5, r6⟩ := fm_refs hF
  have hb := hR.2.1.2.1
  unfold f_X1_penOf
  refine lpx (S := Int32 × Int32) (f := fun n s => f_X1_penOf_4 σ n F (iZ (k : Int)) s.1 s.2) (fun i s => s.2 = iZ (i : Int) ∧ i ≤ k ∧ s.1 = iZ (pen w D i : Int)) k ?_ ?_ k 0 (0, 0) ms_fuel ⟨rfl, Nat.zero_le _, rfl⟩ (by omega) (by show _ < 100000; omega)
  · rintro i ⟨a, x⟩ ⟨hx, hi, ha⟩ hlt
    dsimp only at hx ha ⊢
    subst hx; subst ha
    refine ⟨(iZ (pen w D (i + 1) : Int), iZ ((i + 1 : Nat) : Int)), ⟨rfl, hlt, rfl⟩, fun n' => ?_⟩
    show (if iZ (i : Int) < iZ (k : Int) then _ else _) = _
    rw [iltT rfl rfl (by omega) (by omega) (by omega), r4, iltT rfl hR.2.1.cnt (by omega) (by omega) (by omega), r5, c_base hR (by omega), Option.bind_some, r0, c_widthOf hs hc hD (by omega), Option.bind_some, iZ_add, i1, iZ_add]
    rfl
  · rintro ⟨a, x⟩ ⟨hx, hi, ha⟩ n'
    dsimp only at hx ha ⊢
    subst hx; subst ha
    show (if iZ (k : Int) < iZ (k : Int) then _ else _) = _
    rw [iltF rfl rfl (by omega) (by omega) (by omega)]
/-- the greatest crown, the least foot -/
def gCr (w : Nat → Nat) (D : List Nat) : Nat → Int
  | 0 => 0
  | c + 1 => if gCr w D c < (bS w D c (mks w D c)).2.2.1 then (bS w D c (mks w D c)).2.2.1 else gCr w D c
def gFt (w : Nat → Nat) (D : List Nat) : Nat → Int
  | 0 => 0
  | c + 1 => if (bS w D c (mks w D c)).2.2.2 < gFt w D c then (bS w D c (mks w D c)).2.2.2 else gFt w D c
theorem gCr_bd {n : Nat} {D : List Nat} (hs : SgsOK w n) (hD : ∀ y ∈ D, y < n ∧ Kd w y ≤ 1 ∧ Cl w y ≤ 60) (h65 : ∀ c, c < (bg w D).length → mks w D c ≤ 66) : ∀ k, k ≤ (bg w D).length → 0 ≤ gCr w D k ∧ gCr w D k ≤ 5010 ∧ -5000 ≤ gFt w D k ∧ gFt w D k ≤ 0 := by
  intro k
  induction k with
  | zero => intro _; exact ⟨Int.le_refl _, by show (0 : Int) ≤ 5010; omega, by show -5000 ≤ (0 : Int); omega, Int.le_refl _⟩
  | succ k ih =>
    intro hk
    have h1 := ih (by omega)
    have h2 := bS_bd hs hD (c := k) (by omega) (by have := h65 k (by omega); omega) (mks w D k) (Nat.le_refl _)
    unfold gCr gFt
    refine ⟨?_, ?_, ?_, ?_⟩ <;> split <;> omega
section Gc
variable {n : Nat} {D : List Nat}
theorem c_gCr (hs : SgsOK w n) (hc : ScRep σ 3 w n) (hD : ∀ y ∈ D, y < n ∧ Kd w y ≤ 1 ∧ Cl w y ≤ 60) (hR : FmR σ 441 w D) (h65 : ∀ c, c < (bg w D).length → mks w D c ≤ 66) : ∃ σ', f_X10_greatestCrown σ 0 = some (iZ (gCr w D (bg w D).length), σ') ∧ Fr (In 467 478) σ σ' := by
  have h40 := hs.1
  have hb := hR.2.1.2.1
  have key := lp0 (S := MsSt × Int32 × Int32) (f := fun n' s => f_X10_greatestCrown_4 n' s.1 0 s.2.1 s.2.2) (Q := fun r => r.1 = iZ (gCr w D (bg w D).length) ∧ Fr (In 467 478) σ r.2)
    (fun i s => s.2.2 = iZ (i : Int) ∧ i ≤ (bg w D).length ∧ s.2.1 = iZ (gCr w D i) ∧ Fr (In 467 478) σ s.1) (bg w D).length (s := (σ, 0, 0)) ⟨rfl, Nat.zero_le _, rfl, Fr.refl _ _⟩ (by omega) ?_ ?_
  · obtain ⟨⟨r1, r2⟩, h1, h2, h3⟩ := key
    dsimp only at h2
    subst h2
    exact ⟨r2, h1, h3⟩
  · rintro i ⟨s, a, x⟩ ⟨hx, hi, ha, hFi⟩ hlt
    dsimp only at hx ha hFi ⊢
    subst hx; subst ha
    left
    have hRi := hR.away hFi (by omega)
    obtain ⟨s', d1, d2, d3⟩ := c_lay (a := 467) (F := 441) (Or.inl rfl) (Or.inl rfl) hs (hc.away hFi h40 (by omega)) hD hRi hlt (h65 i hlt)
    have hS := bS_bd hs hD hlt (by have := h65 i hlt; omega) (mks w D i) (Nat.le_refl _)
    have hg := gCr_bd hs hD h65 i hi
    refine ⟨(s', iZ (gCr w D (i + 1)), iZ ((i + 1 : Nat) : Int)), ⟨rfl, hlt, rfl, hFi.trans d3⟩, fun n' => ?_⟩
    show (if iZ (i : Int) < ms_i s (ms_rf (ms_rf 0 6) 4) 1 then _ else _) = _
    rw [x_rf6, (fm_refs (F := 441) (Or.inl rfl)).2.2.2.2.1, iltT rfl hRi.2.1.cnt (by omega) (by omega) (by omega), x_rf8, d1, Option.bind_some, ilt_iZ (a := gCr w D i) (b := (bS w D i (mks w D i)).2.2.1) (c := (bS w D i (mks w D i)).2.2.1) (d := gCr w D i) rfl d2.2.2.2.2.2.2.2.1 d2.2.2.2.2.2.2.2.1 rfl (by omega) (by omega) (by omega) (by omega), i1, iZ_add]
    rfl
  · rintro ⟨s, a, x⟩ ⟨hx, hi, ha, hFi⟩
    dsimp only at hx ha hFi ⊢
    subst hx; subst ha
    refine ⟨(iZ (gCr w D (bg w D).length), s), ⟨rfl, hFi⟩, fun n' => ?_⟩
    show (if iZ ((bg w D).length : Int) < ms_i s (ms_rf (ms_rf 0 6) 4) 1 then _ else _) = _
    rw [x_rf6, (fm_refs (F := 441) (Or.inl rfl)).2.2.2.2.1, iltF rfl (hR.away hFi (by omega)).2.1.cnt (by omega) (by omega) (by omega)]
theorem c_gFt (hs : SgsOK w n) (hc : ScRep σ 3 w n) (hD : ∀ y ∈ D, y < n ∧ Kd w y ≤ 1 ∧ Cl w y ≤ 60) (hR : FmR σ 441 w D) (h65 : ∀ c, c < (bg w D).length → mks w D c ≤ 66) : ∃ σ', f_X10_leastFoot σ 0 = some (iZ (gFt w D (bg w D).length), σ') ∧ Fr (In 467 478) σ σ' := by
  have h40 := hs.1
  have hb := hR.2.1.2.1
  have key := lp0 (S := MsSt × Int32 × Int32) (f := fun n' s => f_X10_leastFoot_4 n' s.1 0 s.2.1 s.2.2) (Q := fun r => r.1 = iZ (gFt w D (bg w D).length) ∧ Fr (In 467 478) σ r.2)
    (fun i s => s.2.2 = iZ (i : Int) ∧ i ≤ (bg w D).length ∧ s.2.1 = iZ (gFt w D i) ∧ Fr (In 467 478) σ s.1) (bg w D).length (s := (σ, 0, 0)) ⟨rfl, Nat.zero_le _, rfl, Fr.refl _ _⟩ (by omega) ?_ ?_
  · obtain ⟨⟨r1, r2⟩, h1, h2, h3⟩ := key
    dsimp only at h2
    subst h2
    exact ⟨r2, h1, h3⟩
  · rintro i ⟨s, a, x⟩ ⟨hx, hi, ha, hFi⟩ hlt
    dsimp only at hx ha hFi ⊢
    subst hx; subst ha
    left
    have hRi := hR.away hFi (by omega)
    obtain ⟨s', d1, d2, d3⟩ := c_lay (a := 467) (F := 441) (Or.inl rfl) (Or.inl rfl) hs (hc.away hFi h40 (by omega)) hD hRi hlt (h65 i hlt)
    have hS := bS_bd hs hD hlt (by have := h65 i hlt; omega) (mks w D i) (Nat.le_refl _)
    have hg := gCr_bd hs hD h65 i hi
    refine ⟨(s', iZ (gFt w D (i + 1)), iZ ((i + 1 : Nat) : Int)), ⟨rfl, hlt, rfl, hFi.trans d3⟩, fun n' => ?_⟩
    show (if iZ (i : Int) < ms_i s (ms_rf (ms_rf 0 6) 4) 1 then _ else _) = _
    rw [x_rf6, (fm_refs (F := 441) (Or.inl rfl)).2.2.2.2.1, iltT rfl hRi.2.1.cnt (by omega) (by omega) (by omega), x_rf8, d1, Option.bind_some, ilt_iZ (a := (bS w D i (mks w D i)).2.2.2) (b := gFt w D i) (c := (bS w D i (mks w D i)).2.2.2) (d := gFt w D i) d2.2.2.2.2.2.2.2.2 rfl d2.2.2.2.2.2.2.2.2 rfl (by omega) (by omega) (by omega) (by omega), i1, iZ_add]
    rfl
  · rintro ⟨s, a, x⟩ ⟨hx, hi, ha, hFi⟩
    dsimp only at hx ha hFi ⊢
    subst hx; subst ha
    refine ⟨(iZ (gFt w D (bg w D).length), s), ⟨rfl, hFi⟩, fun n' => ?_⟩
    show (if iZ ((bg w D).length : Int) < ms_i s (ms_rf (ms_rf 0 6) 4) 1 then _ else _) = _
    rw [x_rf6, (fm_refs (F := 441) (Or.inl rfl)).2.2.2.2.1, iltF rfl (hR.away hFi (by omega)).2.1.cnt (by omega) (by omega) (by omega)]
theorem c_clashNext {c : Nat} (hs : SgsOK w n) (hc : ScRep σ 3 w n) (hD : ∀ y ∈ D, y < n ∧ Kd w y ≤ 1 ∧ Cl w y ≤ 60) (hR : FmR σ 441 w D) (h65 : ∀ c, c < (bg w D).length → mks w D c ≤ 66) (hcc : c + 1 < (bg w D).length) : ∃ σ', f_X10_clashesWithNext σ 0 (iZ (c : Int)) = some (b01 (clB w D c = true), σ') ∧ Fr (In 467 489) σ σ' := by
  have h40 := hs.1
  obtain ⟨s1, a1, a2, a3⟩ := c_lay (a := 467) (F := 441) (Or.inl rfl) (Or.inl rfl) hs hc hD hR (c := c) (by omega) (h65 c (by omega))
  have hR1 := hR.away a3 (by omega)
  obtain ⟨s2, b1, b2, b3⟩ := c_lay (a := 478) (F := 441) (Or.inr rfl) (Or.inl rfl) hs (hc.away a3 h40 (by omega)) hD hR1 hcc (h65 _ hcc)
  have hR2 := hR1.away b3 (by omega)
  have e1 : iZ (c : Int) + 1 = iZ ((c + 1 : Nat) : Int) := by rw [i1, iZ_add]; rfl
  refine ⟨s2, ?_, (a3.widen (by omega) (by omega)).trans (b3.widen (by omega) (by omega))⟩
  unfold f_X10_clashesWithNext
  rw [x_rf8, x_rf6, a1, Option.bind_some, x_rf9, e1, b1, Option.bind_some, (fm_refs (F := 441) (Or.inl rfl)).2.2.2.2.2.1, c_base hR2 (by omega), Option.bind_some, x_rf1, c_widthOf hs ((hc.away a3 h40 (by omega)).away b3 h40 (by omega)) hD (by omega), Option.bind_some, c_overlaps hs hD hcc (h65 c (by omega)) (h65 _ hcc) (a2.away b3 (by omega)) b2, Option.bind_some, bz_b01]
  rfl
theorem c_countClash (hs : SgsOK w n) (hc : ScRep σ 3 w n) (hD : ∀ y ∈ D, y < n ∧ Kd w y ≤ 1 ∧ Cl w y ≤ 60) (hR : FmR σ 441 w D) (h65 : ∀ c, c < (bg w D).length → mks w D c ≤ 66) : ∃ σ', f_X10_countClashes σ 0 = some (iZ (cnt (clB w D) ((bg w D).length - 1) : Int), σ') ∧ Fr (In 467 489) σ σ' := by
  have h40 := hs.1
  have hb := hR.2.1.2.1
  have key := lp0 (S := MsSt × Int32 × Int32) (f := fun n' s => f_X10_countClashes_4 n' s.1 0 s.2.1 s.2.2) (Q := fun r => r.1 = iZ (cnt (clB w D) ((bg w D).length - 1) : Int) ∧ Fr (In 467 489) σ r.2)
    (fun i s => s.2.2 = iZ (i : Int) ∧ i ≤ (bg w D).length - 1 ∧ s.2.1 = iZ (cnt (clB w D) i : Int) ∧ Fr (In 467 489) σ s.1) ((bg w D).length - 1) (s := (σ, 0, 0)) ⟨rfl, Nat.zero_le _, rfl, Fr.refl _ _⟩ (by omega) ?_ ?_
  · obtain ⟨⟨r1, r2⟩, h1, h2, h3⟩ := key
    dsimp only at h2
    subst h2
    exact ⟨r2, h1, h3⟩
  · rintro i ⟨s, a, x⟩ ⟨hx, hi, ha, hFi⟩ hlt
    dsimp only at hx ha hFi ⊢
    subst hx; subst ha
    left
    have hRi := hR.away hFi (by omega)
    obtain ⟨s', d1, d2⟩ := c_clashNext hs (hc.away hFi h40 (by omega)) hD hRi h65 (c := i) (by omega)
    have ec : (if clB w D i = true then (cnt (clB w D) i : Int) + 1 else (cnt (clB w D) i : Int)) = (cnt (clB w D) (i + 1) : Int) := by
      rw [cnt_succ]
      split <;> omega
    refine ⟨(s', iZ (cnt (clB w D) (i + 1) : Int), iZ ((i + 1 : Nat) : Int)), ⟨rfl, hlt, rfl, hFi.trans d2⟩, fun n' => ?_⟩
    show (if iZ (i : Int) + 1 < ms_i s (ms_rf (ms_rf 0 6) 4) 1 then _ else _) = _
    have e1 : iZ (i : Int) + 1 = iZ ((i : Int) + 1) := by rw [i1, iZ_add]
    rw [x_rf6, (fm_refs (F := 441) (Or.inl rfl)).2.2.2.2.1, iltT e1 hRi.2.1.cnt (by omega) (by omega) (by omega), d1, b2_s, ib01, e1, ← ec]
    by_cases q : clB w D i = true
    · rw [if_pos q, if_pos q, i1, iZ_add]
      rfl
    · rw [if_neg q, if_neg q]
      rfl
  · rintro ⟨s, a, x⟩ ⟨hx, hi, ha, hFi⟩
    dsimp only at hx ha hFi ⊢
    subst hx; subst ha
    refine ⟨(iZ (cnt (clB w D) ((bg w D).length - 1) : Int), s), ⟨rfl, hFi⟩, fun n' => ?_⟩
    show (if iZ (((bg w D).length - 1 : Nat) : Int) + 1 < ms_i s (ms_rf (ms_rf 0 6) 4) 1 then _ else _) = _
    have e1 : iZ (((bg w D).length - 1 : Nat) : Int) + 1 = iZ ((((bg w D).length - 1 : Nat) : Int) + 1) := by rw [i1, iZ_add]
    rw [x_rf6, (fm_refs (F := 441) (Or.inl rfl)).2.2.2.2.1, iltF e1 (hR.away hFi (by omega)).2.1.cnt (by omega) (by omega) (by omega)]
theorem m_gCr (h : LcS σ w n D) (h65 : ∀ c, c < (bg w D).length → mks w D c ≤ 66) : ∃ σ', f_X12_crowns σ 493 = some (iZ (gCr w D (bg w D).length), σ') ∧ Fr (FMb 505) σ σ' := by
  have hb := h.2.2.2.2.2.1
  have hs := h.2.2.1
  have hD := h.2.2.2.1
  have key := lp0 (S := MsSt × Int32 × Int32) (f := fun n' s => f_X12_crowns_4 n' s.1 493 s.2.1 s.2.2) (Q := fun r => r.1 = iZ (gCr w D (bg w D).length) ∧ Fr (FMb 505) σ r.2)
    (fun i s => s.2.2 = iZ (i : Int) ∧ i ≤ (bg w D).length ∧ s.2.1 = iZ (gCr w D i) ∧ Fr (FMb 505) σ s.1) (bg w D).length (s := (σ, 0, 0)) ⟨rfl, Nat.zero_le _, rfl, Fr.refl _ _⟩ (by omega) ?_ ?_
  · obtain ⟨⟨r1, r2⟩, h1, h2, h3⟩ := key
    dsimp only at h2
    subst h2
    exact ⟨r2, h1, h3⟩
  · rintro i ⟨s, a, x⟩ ⟨hx, hi, ha, hFi⟩ hlt
    dsimp only at hx ha hFi ⊢
    subst hx; subst ha
    left
    have hi2 := h.frb (Or.inl rfl) hFi
    obtain ⟨s', d1, d2, d3⟩ := m_layBoxes (b := 505) (Or.inl rfl) hi2 hlt (h65 i hlt)
    have hS := bS_bd hs hD hlt (by have := h65 i hlt; omega) (mks w D i) (Nat.le_refl _)
    have hg := gCr_bd hs hD h65 i hi
    refine ⟨(s', iZ (gCr w D (i + 1)), iZ ((i + 1 : Nat) : Int)), ⟨rfl, hlt, rfl, hFi.trans d3⟩, fun n' => ?_⟩
    have eg : gCr w D (i + 1) = if gCr w D i < (bS w D i (mks w D i)).2.2.1 then (bS w D i (mks w D i)).2.2.1 else gCr w D i := rfl
    show (if iZ (i : Int) < ms_i s 493 17 then _ else _) = _
    rw [iltT rfl hi2.2.2.2.2.2.2.2.2.2 (by omega) (by omega) (by omega), m_rf18, d1, Option.bind_some]
    have e1 : iZ (i : Int) + 1 = iZ ((i + 1 : Nat) : Int) := by rw [i1, iZ_add]; rfl
    rw [e1]
    by_cases q : i = 0
    · rw [ieqT rfl i0 (by omega), d2.2.2.2.2.1, eg]
      have g0 : gCr w D i = 0 := by rw [q]; rfl
      have : (if gCr w D i < (bS w D i (mks w D i)).2.2.1 then (bS w D i (mks w D i)).2.2.1 else gCr w D i) = (bS w D i (mks w D i)).2.2.1 := by
        rw [g0]
        split <;> omega
      rw [this]
    · rw [ieqF rfl i0 (by omega) (by omega) (by omega) (by omega) (by omega), ilt_iZ (a := gCr w D i) (b := (bS w D i (mks w D i)).2.2.1) (c := (bS w D i (mks w D i)).2.2.1) (d := gCr w D i) rfl d2.2.2.2.2.1 d2.2.2.2.2.1 rfl (by omega) (by omega) (by omega) (by omega), eg]
  · rintro ⟨s, a, x⟩ ⟨hx, hi, ha, hFi⟩
    dsimp only at hx ha hFi ⊢
    subst hx; subst ha
    refine ⟨(iZ (gCr w D (bg w D).length), s), ⟨rfl, hFi⟩, fun n' => ?_⟩
    show (if iZ ((bg w D).length : Int) < ms_i s 493 17 then _ else _) = _
    rw [iltF rfl (h.frb (Or.inl rfl) hFi).2.2.2.2.2.2.2.2.2 (by omega) (by omega) (by omega)]
theorem m_gFt (h : LcS σ w n D) (h65 : ∀ c, c < (bg w D).length → mks w D c ≤ 66) : ∃ σ', f_X12_feet σ 493 = some (iZ (gFt w D (bg w D).length), σ') ∧ Fr (FMb 505) σ σ' := by
  have hb := h.2.2.2.2.2.1
  have hs := h.2.2.1
  have hD := h.2.2.2.1
  have key := lp0 (S := MsSt × Int32 × Int32) (f := fun n' s => f_X12_feet_4 n' s.1 493 s.2.1 s.2.2) (Q := fun r => r.1 = iZ (gFt w D (bg w D).length) ∧ Fr (FMb 505) σ r.2)
    (fun i s => s.2.2 = iZ (i : Int) ∧ i ≤ (bg w D).length ∧ s.2.1 = iZ (gFt w D i) ∧ Fr (FMb 505) σ s.1) (bg w D).length (s := (σ, 0, 0)) ⟨rfl, Nat.zero_le _, rfl, Fr.refl _ _⟩ (by omega) ?_ ?_
  · obtain ⟨⟨r1, r2⟩, h1, h2, h3⟩ := key
    dsimp only at h2
    subst h2
    exact ⟨r2, h1, h3⟩
  · rintro i ⟨s, a, x⟩ ⟨hx, hi, ha, hFi⟩ hlt
    dsimp only at hx ha hFi ⊢
    subst hx; subst ha
    left
    have hi2 := h.frb (Or.inl rfl) hFi
    obtain ⟨s', d1, d2, d3⟩ := m_layBoxes (b := 505) (Or.inl rfl) hi2 hlt (h65 i hlt)
    have hS := bS_bd hs hD hlt (by have := h65 i hlt; omega) (mks w D i) (Nat.le_refl _)
    have hg := gCr_bd hs hD h65 i hi
    refine ⟨(s', iZ (gFt w D (i + 1)), iZ ((i + 1 : Nat) : Int)), ⟨rfl, hlt, rfl, hFi.trans d3⟩, fun n' => ?_⟩
    show (if iZ (i : Int) < ms_i s 493 17 then _ else _) = _
    rw [iltT rfl hi2.2.2.2.2.2.2.2.2.2 (by omega) (by omega) (by omega), m_rf18, d1, Option.bind_some, ilt_iZ (a := (bS w D i (mks w D i)).2.2.2) (b := gFt w D i) (c := (bS w D i (mks w D i)).2.2.2) (d := gFt w D i) d2.2.2.2.2.2 rfl d2.2.2.2.2.2 rfl (by omega) (by omega) (by omega) (by omega), i1, iZ_add]
    rfl
  · rintro ⟨s, a, x⟩ ⟨hx, hi, ha, hFi⟩
    dsimp only at hx ha hFi ⊢
    subst hx; subst ha
    refine ⟨(iZ (gFt w D (bg w D).length), s), ⟨rfl, hFi⟩, fun n' => ?_⟩
    show (if iZ ((bg w D).length : Int) < ms_i s 493 17 then _ else _) = _
    rw [iltF rfl (h.frb (Or.inl rfl) hFi).2.2.2.2.2.2.2.2.2 (by omega) (by omega) (by omega)]
theorem m_clashCount (h : LcS σ w n D) (h65 : ∀ c, c < (bg w D).length → mks w D c ≤ 66) : ∃ σ', f_X12_clashesOf σ 493 = some (iZ (cnt (clB w D) ((bg w D).length - 1) : Int), σ') ∧ Fr (fun a k => (505 ≤ a ∧ a ≤ 508)) σ σ' := by
  have hb := h.2.2.2.2.2.1
  have key := lp0 (S := MsSt × Int32 × Int32) (f := fun n' s => f_X12_clashesOf_4 n' s.1 493 s.2.1 s.2.2) (Q := fun r => r.1 = iZ (cnt (clB w D) ((bg w D).length - 1) : Int) ∧ Fr (fun a k => (505 ≤ a ∧ a ≤ 508)) σ r.2)
    (fun i s => s.2.2 = iZ (i : Int) ∧ i ≤ (bg w D).length - 1 ∧ s.2.1 = iZ (cnt (clB w D) i : Int) ∧ Fr (fun a k => (505 ≤ a ∧ a ≤ 508)) σ s.1) ((bg w D).length - 1) (s := (σ, 0, 0)) ⟨rfl, Nat.zero_le _, rfl, Fr.refl _ _⟩ (by omega) ?_ ?_
  · obtain ⟨⟨r1, r2⟩, h1, h2, h3⟩ := key
    dsimp only at h2
    subst h2
    exact ⟨r2, h1, h3⟩
  · rintro i ⟨s, a, x⟩ ⟨hx, hi, ha, hFi⟩ hlt
    dsimp only at hx ha hFi ⊢
    subst hx; subst ha
    left
    have hi2 := h.frq hFi
    obtain ⟨s', d1, d2⟩ := m_isClash hi2 (c := i) (by omega) h65
    have ec : (if clB w D i = true then (cnt (clB w D) i : Int) + 1 else (cnt (clB w D) i : Int)) = (cnt (clB w D) (i + 1) : Int) := by
      rw [cnt_succ]
      split <;> omega
    refine ⟨(s', iZ (cnt (clB w D) (i + 1) : Int), iZ ((i + 1 : Nat) : Int)), ⟨rfl, hlt, rfl, hFi.trans d2⟩, fun n' => ?_⟩
    show (if iZ (i : Int) < ms_i s 493 17 - 1 then _ else _) = _
    have e1 : iZ (i : Int) + 1 = iZ ((i + 1 : Nat) : Int) := by rw [i1, iZ_add]; rfl
    have e2 : ms_i s 493 17 - 1 = iZ (((bg w D).length : Int) - 1) := by rw [hi2.2.2.2.2.2.2.2.2.2, i1, iZ_sub]
    rw [iltT rfl e2 (by omega) (by omega) (by omega), d1, b2_s, ib01, e1, ← ec]
    by_cases q : clB w D i = true
    · rw [if_pos q, if_pos q, i1, iZ_add]
    · rw [if_neg q, if_neg q, i0, iZ_add, Int.add_zero]
  · rintro ⟨s, a, x⟩ ⟨hx, hi, ha, hFi⟩
    dsimp only at hx ha hFi ⊢
    subst hx; subst ha
    refine ⟨(iZ (cnt (clB w D) ((bg w D).length - 1) : Int), s), ⟨rfl, hFi⟩, fun n' => ?_⟩
    show (if iZ (((bg w D).length - 1 : Nat) : Int) < ms_i s 493 17 - 1 then _ else _) = _
    have e2 : ms_i s 493 17 - 1 = iZ (((bg w D).length : Int) - 1) := by rw [(h.frq hFi).2.2.2.2.2.2.2.2.2, i1, iZ_sub]
    rw [iltF rfl e2 (by omega) (by omega) (by omega)]
end Gc
end Li
