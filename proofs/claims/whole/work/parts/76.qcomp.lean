/-! two lines: compare, areBare -/
section Tw
variable {σ : MsSt} {w : Nat → Nat}
/-- the other line, copied -/
def OtS (σ : MsSt) (w : Nat → Nat) (E : List Nat) : Prop := Aw σ 509 E ∧ ms_i σ 493 22 = iZ (E.length : Int) ∧ ms_i σ 493 23 = iZ ((bg w E).length : Int) ∧ ∀ k, k ≤ (bg w E).length → ms_i σ 510 k = iZ (be w E k : Int)
theorem OtS.fr {σ' : MsSt} {E : List Nat} {P : Nat → Nat → Prop} (h : OtS σ w E) (hF : Fr P σ σ') (h1 : ∀ k, ¬ P 509 k) (h2 : ¬ P 493 22) (h3 : ¬ P 493 23) (h4 : ∀ k, ¬ P 510 k) : OtS σ' w E :=
  ⟨h.1.fr hF h1, (hF.1 _ _ h2).trans h.2.1, (hF.1 _ _ h3).trans h.2.2.1, fun k hk => (hF.1 _ _ (h4 k)).trans (h.2.2.2 k hk)⟩
theorem m_ln510 : ms_ln 510 = 362 := m_ln.2.2.2.2.2.2.2.2.2.2.2.2.2.2.1
theorem m_ln509 : ms_ln 509 = 361 := m_ln.2.2.2.2.2.2.2.2.2.2.2.2.2.1
def FOt : Nat → Nat → Prop := fun a k => a = 509 ∨ a = 510 ∨ (a = 493 ∧ (k = 22 ∨ k = 23))
theorem LcS.fro {σ' : MsSt} {n : Nat} {D : List Nat} (h : LcS σ w n D) (hF : Fr FOt σ σ') : LcS σ' w n D := h.fr hF (by unfold FOt; intros; omega) (by unfold FOt; intros; omega) (by unfold FOt; intros; omega) (by unfold FOt; omega) (by unfold FOt; omega)
theorem m_layTwo (h : InvS σ w) {l m : Nat} (hl : l < 4) (hm : m < 4) : ∃ σ', f_X12_layTwo σ 493 (iZ (l : Int)) (iZ (m : Int)) = some σ' ∧ LcS σ' w (w 0) (dF w (ln w l)) ∧ OtS σ' w (dF w (ln w m)) ∧ ms_i σ' 493 7 = ms_i σ 493 7 ∧ Fr FScr σ σ' := by
  obtain ⟨n1, n2, n3, n4⟩ := lnok h.1 hm
  obtain ⟨s1, a1, a2, a3, a4, a5⟩ := m_lcL h hm
  generalize hE : dF w (ln w m) = E at n1 n2 n3 n4 a2 a4 ⊢
  have hF1 : Fr FScr σ s1 := lc_scr a5
  have G1 : Fr FOt s1 (ms_si s1 493 22 (ms_i s1 493 11)) := Fr.si _ _ (by unfold FOt; omega)
  have G2 : Fr FOt s1 (ms_si (ms_si s1 493 22 (ms_i s1 493 11)) 493 23 (ms_i (ms_si s1 493 22 (ms_i s1 493 11)) 493 17)) := G1.trans (Fr.si _ _ (by unfold FOt; omega))
  have v22 : ms_i (ms_si (ms_si s1 493 22 (ms_i s1 493 11)) 493 23 (ms_i (ms_si s1 493 22 (ms_i s1 493 11)) 493 17)) 493 22 = iZ (E.length : Int) := by
    rw [i_si_ne (Or.inr (by omega)), i_si_same]
    exact a2.2.2.2.2.2.2.2.1
  have v23 : ms_i (ms_si (ms_si s1 493 22 (ms_i s1 493 11)) 493 23 (ms_i (ms_si s1 493 22 (ms_i s1 493 11)) 493 17)) 493 23 = iZ ((bg w E).length : Int) := by
    rw [i_si_same, i_si_ne (Or.inr (by omega))]
    exact a2.2.2.2.2.2.2.2.2.2
  unfold f_X12_layTwo
  rw [a1, Option.bind_some, nm_s, nm_s]
  generalize ms_si (ms_si s1 493 22 (ms_i s1 493 11)) 493 23 (ms_i (ms_si s1 493 22 (ms_i s1 493 11)) 493 17) = s3 at G2 v22 v23 ⊢
  -- the second loop
  have lp2 : ∀ s : MsSt, Fr FOt s1 s → Aw s 509 E → ms_i s 493 22 = iZ (E.length : Int) → ms_i s 493 23 = iZ ((bg w E).length : Int) → ∃ σ', f_X12_layTwo_51 ms_fuel s 493 (iZ (l : Int)) 0 = some σ' ∧ LcS σ' w (w 0) (dF w (ln w l)) ∧ OtS σ' w E ∧ ms_i σ' 493 7 = ms_i σ 493 7 ∧ Fr FScr σ σ' := by
    intro s hs1 hA h22 h23
    have key := lp0 (S := MsSt × Int32) (f := fun n s => f_X12_layTwo_51 n s.1 493 (iZ (l : Int)) s.2) (Q := fun σ' => LcS σ' w (w 0) (dF w (ln w l)) ∧ OtS σ' w E ∧ ms_i σ' 493 7 = ms_i σ 493 7 ∧ Fr FScr σ σ')
      (fun i t => t.2 = iZ (i : Int) ∧ i ≤ (bg w E).length + 1 ∧ Fr (fun a _ => a = 510) s t.1 ∧ ∀ k, k < i → ms_i t.1 510 k = iZ (be w E k : Int)) ((bg w E).length + 1) (s := (s, 0)) ⟨rfl, Nat.zero_le _, Fr.refl _ _, fun k hk => absurd hk (by omega)⟩ (by omega) ?_ ?_
    · exact key
    · rintro i ⟨t, x⟩ ⟨hx, hi, hFt, hk⟩ hlt
      dsimp only at hx hFt hk ⊢
      subst hx
      left
      have hFO : Fr FOt s1 t := hs1.trans (hFt.mono fun a k q => by unfold FOt; omega)
      have hL := a2.fro hFO
      refine ⟨(ms_si t 510 i (iZ (be w E i : Int)), iZ ((i + 1 : Nat) : Int)), ⟨rfl, hlt, hFt.trans (Fr.si _ _ rfl), fun k hk2 => ?_⟩, fun n' => ?_⟩
      · rw [ms_i_si]
        by_cases q : k = i
        · rw [if_pos ⟨rfl, q⟩, q]
        · rw [if_neg (by omega), hk k (by omega)]
      · show (if ms_i t 493 17 < iZ (i : Int) then _ else _) = _
        rw [iltF hL.2.2.2.2.2.2.2.2.2 rfl (by omega) (by omega) (by omega), m_rf16, m_begin hL (c := i) (by omega), Option.bind_some, m_rf21, ast_iZ (by rw [m_ln510]; omega) (by rw [m_ln510]; omega), Option.bind_some, i1, iZ_add]
        rfl
    · rintro ⟨t, x⟩ ⟨hx, hi, hFt, hk⟩
      dsimp only at hx hFt hk ⊢
      subst hx
      have hFO : Fr FOt s1 t := hs1.trans (hFt.mono fun a k q => by unfold FOt; omega)
      have hL := a2.fro hFO
      have hFS : Fr FScr σ t := hF1.trans (hFO.mono fun a k q => by unfold FOt at q; unfold FScr; omega)
      obtain ⟨u, b1, b2, b3, b4, b5⟩ := m_lcL (h.fr hFS) hl
      have hO : OtS t w E := ⟨hA.fr hFt (by intros; omega), (hFt.1 _ _ (by omega)).trans h22, (hFt.1 _ _ (by omega)).trans h23, fun k hk2 => hk k (by omega)⟩
      refine ⟨u, ⟨b2, hO.fr b5 (by unfold FLC; intros; omega) (by unfold FLC; omega) (by unfold FLC; omega) (by unfold FLC; intros; omega), ?_, hFS.trans (lc_scr b5)⟩, fun n' => ?_⟩
      · rw [b5.1 _ _ (by unfold FLC; omega), hFO.1 _ _ (by unfold FOt; omega), a5.1 _ _ (by unfold FLC; omega)]
      · show (if ms_i t 493 17 < iZ (((bg w E).length + 1 : Nat) : Int) then _ else _) = _
        rw [iltT hL.2.2.2.2.2.2.2.2.2 rfl (by omega) (by omega) (by omega), b1, Option.bind_some]
  refine lp0 (S := MsSt × Int32) (f := fun n s => f_X12_layTwo_23 n s.1 493 (iZ (l : Int)) s.2) (Q := fun σ' => LcS σ' w (w 0) (dF w (ln w l)) ∧ OtS σ' w E ∧ ms_i σ' 493 7 = ms_i σ 493 7 ∧ Fr FScr σ σ')
    (fun i t => t.2 = iZ (i : Int) ∧ i ≤ E.length ∧ Fr (fun a _ => a = 509) s3 t.1 ∧ ∀ k (hk : k < E.length), k < i → ms_i t.1 509 k = iZ (E[k] : Int)) E.length (s := (s3, 0)) ⟨rfl, Nat.zero_le _, Fr.refl _ _, fun k _ hk => absurd hk (by omega)⟩ (by omega) ?_ ?_
  · rintro i ⟨t, x⟩ ⟨hx, hi, hFt, hk⟩ hlt
    dsimp only at hx hFt hk ⊢
    subst hx
    left
    have hFO : Fr FOt s1 t := G2.trans (hFt.mono fun a k q => by unfold FOt; omega)
    have hL := a2.fro hFO
    have hg : ms_ald t 501 (iZ (i : Int)) = some (iZ (E[i] : Int)) := by
      rw [m_sgn hL hlt, getD_get hlt]
    refine ⟨(ms_si t 509 i (iZ (E[i] : Int)), iZ ((i + 1 : Nat) : Int)), ⟨rfl, hlt, hFt.trans (Fr.si _ _ rfl), fun k hk0 hk2 => ?_⟩, fun n' => ?_⟩
    · rw [ms_i_si]
      by_cases q : k = i
      · subst q
        rw [if_pos ⟨rfl, rfl⟩]
      · rw [if_neg (by omega), hk k hk0 (by omega)]
    · show (if iZ (i : Int) < ms_i t 493 11 then _ else _) = _
      rw [iltT rfl hL.2.2.2.2.2.2.2.1 (by omega) (by omega) (by omega), m_rf10, hg, Option.bind_some, m_rf20, ast_iZ (by rw [m_ln509]; omega) (by rw [m_ln509]; omega), Option.bind_some, i1, iZ_add]
      rfl
  · rintro ⟨t, x⟩ ⟨hx, hi, hFt, hk⟩
    dsimp only at hx hFt hk ⊢
    subst hx
    have hFO : Fr FOt s1 t := G2.trans (hFt.mono fun a k q => by unfold FOt; omega)
    have hL := a2.fro hFO
    obtain ⟨u, b1, b2⟩ := lp2 t hFO (fun k hk2 => hk k hk2 hk2) ((hFt.1 _ _ (by omega)).trans v22) ((hFt.1 _ _ (by omega)).trans v23)
    refine ⟨u, b2, fun n' => ?_⟩
    show (if iZ (E.length : Int) < ms_i t 493 11 then _ else _) = _
    rw [iltF rfl hL.2.2.2.2.2.2.2.1 (by omega) (by omega) (by omega), b1]
/-- both lines in the class -/
theorem c_needBothT (h : InvS σ w) {l m : Nat} (q1 : 0 ≤ (l : Int) ∧ (l : Int) ≤ (w 1 : Int) - 1) (q2 : 0 ≤ (m : Int) ∧ (m : Int) ≤ (w 1 : Int) - 1) : ∃ σ', f_X10_needBoth σ 0 (iZ (l : Int)) (iZ (m : Int)) = some (none, σ') ∧ DvR σ' 441 w (spN w) (w 0) (ln w l) ∧ DvR σ' 454 w (spN w) (w 0) (ln w m) ∧ Fr FScr σ σ' := by
  have h4 := h.1.2.2.1
  obtain ⟨s4, a1, a2, a3⟩ := c_deriveL h (F := 441) (Or.inl rfl) (l := l) (by omega)
  have hF4 := fm_scr (F := 441) (Or.inl rfl) a3
  obtain ⟨s6, b1, b2, b3⟩ := c_deriveL (h.fr hF4) (F := 454) (Or.inr rfl) (l := m) (by omega)
  refine ⟨s6, ?_, a2.away b3 (by omega), b2, hF4.trans (fm_scr (F := 454) (Or.inr rfl) b3)⟩
  unfold f_X10_needBoth
  rw [needLine_s h (by omega) (by omega), btT q1, needLine_s h (by omega) (by omega), btT q2, x_rf1, lineAt_s (a := 3) (Or.inl rfl) (by omega), Option.bind_some, x_rf6, a1, Option.bind_some, lineAt_s (a := 3) (Or.inl rfl) (by omega), Option.bind_some, x_rf7, b1, Option.bind_some]
theorem c_needBothF (h : InvS σ w) {z k : Int} (z1 : -2147483648 ≤ z) (z2 : z < 2147483648) (k1 : -2147483648 ≤ k) (k2 : k < 2147483648) (q : ¬ ((0 ≤ z ∧ z ≤ (w 1 : Int) - 1) ∧ 0 ≤ k ∧ k ≤ (w 1 : Int) - 1)) : f_X10_needBoth σ 0 (iZ z) (iZ k) = some (some 0, σ) := by
  unfold f_X10_needBoth
  rw [needLine_s h z1 z2, needLine_s h k1 k2]
  by_cases g : 0 ≤ z ∧ z ≤ (w 1 : Int) - 1
  · rw [btT g, btF (fun g2 => q ⟨g, g2⟩)]
  · rw [btF g]
theorem m_noTwoT (h : InvS σ w) {l m : Nat} (q1 : 0 ≤ (l : Int) ∧ (l : Int) ≤ (w 1 : Int) - 1) (q2 : 0 ≤ (m : Int) ∧ (m : Int) ≤ (w 1 : Int) - 1) : f_X12_noTwoLines σ 493 (iZ (l : Int)) (iZ (m : Int)) = some (0, ms_si σ 493 7 0) := by
  have h4 := h.1.2.2.1
  unfold f_X12_noTwoLines
  rw [m_isLine h.2.2 h4 (by omega) (by omega), Option.bind_some, ibT q1, m_isLine h.2.2 h4 (by omega) (by omega), Option.bind_some, ibT q2, nm_s, i_si_same, if_pos rfl]
theorem m_noTwoF (h : InvS σ w) {z k : Int} (z1 : -2147483648 ≤ z) (z2 : z < 2147483648) (k1 : -2147483648 ≤ k) (k2 : k < 2147483648) (q : ¬ ((0 ≤ z ∧ z ≤ (w 1 : Int) - 1) ∧ 0 ≤ k ∧ k ≤ (w 1 : Int) - 1)) : f_X12_noTwoLines σ 493 (iZ z) (iZ k) = some (1, ms_si σ 493 7 1) := by
  have h4 := h.1.2.2.1
  have bad : f_X12_noTwoLines_21 σ 493 493 = some (1, ms_si σ 493 7 1) := by
    unfold f_X12_noTwoLines_21
    rw [nm_s, i_si_same, if_neg (by decide)]
  unfold f_X12_noTwoLines
  rw [m_isLine h.2.2 h4 z1 z2, Option.bind_some, m_isLine h.2.2 h4 k1 k2, Option.bind_some]
  by_cases g : 0 ≤ z ∧ z ≤ (w 1 : Int) - 1
  · rw [ibT g, ibF (fun g2 => q ⟨g, g2⟩), bad]
  · rw [ibF g, bad]
theorem cp81 {a : Int} (h1 : -2147483648 ≤ a) (h2 : a < 2147483648) : f_X12_compare_81 σ (iZ a) = some (iZ (if a < 0 then -1 else if 0 < a then 1 else 0), σ) := by
  unfold f_X12_compare_81
  rw [ilt rfl i0 h1 h2 (by omega) (by omega), ilt i0 rfl (by omega) (by omega) h1 h2]
  by_cases q : a < 0
  · rw [if_pos q, if_pos q]
    rfl
  · rw [if_neg q, if_neg q]
    by_cases q2 : 0 < a
    · rw [if_pos q2, if_pos q2]
      rfl
    · rw [if_neg q2, if_neg q2]
      rfl
/-- the order of two rows -/
def cpR (D E : List Nat) : Int := if fsU (unB D E) 0 (max D.length E.length) = -1 then 0 else if gI D (fsU (unB D E) 0 (max D.length E.length)).toNat < gI E (fsU (unB D E) 0 (max D.length E.length)).toNat then -1 else 1
theorem fsU_true (P : Nat → Bool) : ∀ (n i : Nat), fsU P i n ≠ -1 → P (fsU P i n).toNat = true := by
  intro n
  induction n with
  | zero => intro i g; exact absurd rfl g
  | succ n ih =>
    intro i
    show (if P i = true then (i : Int) else fsU P (i + 1) n) ≠ -1 → P (if P i = true then (i : Int) else fsU P (i + 1) n).toNat = true
    by_cases q : P i = true
    · rw [if_pos q]
      intro _
      exact q
    · rw [if_neg q]
      exact ih (i + 1)
theorem m_compareL {n : Nat} {D E : List Nat} (h : LcS σ w n D) (hO : OtS σ w E) (hE : ∀ y ∈ E, y < n) (hEl : E.length ≤ 360) : f_X12_compare_22 ms_fuel σ 493 0 0 = some (iZ (cpR D E), σ) := by
  have hD := h.2.2.2.1
  have hDl := h.2.2.2.2.1
  have h40 := h.2.2.1.1
  have hD' : ∀ x ∈ D, x < 1000 := fun x hx => by have := (hD x hx).1; omega
  have hE' : ∀ x ∈ E, x < 1000 := fun x hx => by have := hE x hx; omega
  have em : (if ms_i σ 493 22 < ms_i σ 493 11 then ms_i σ 493 22 else ms_i σ 493 11) = iZ ((min D.length E.length : Nat) : Int) := by
    rw [ilt hO.2.1 h.2.2.2.2.2.2.2.1 (by omega) (by omega) (by omega) (by omega), hO.2.1, h.2.2.2.2.2.2.2.1]
    by_cases g : (E.length : Int) < (D.length : Int)
    · rw [if_pos g, Nat.min_eq_right (by omega)]
    · rw [if_neg g, Nat.min_eq_left (by omega)]
  have h64 : ∀ (d : Int) (i : Int32) (n : Nat), d ≠ 0 → -2147483648 ≤ d → d < 2147483648 → f_X12_compare_22 (n + 1) σ 493 (iZ d) i = f_X12_compare_81 σ (iZ d) := by
    intro d i n d0 d1 d2
    have e64 : f_X12_compare_64 σ 493 (iZ d) = f_X12_compare_81 σ (iZ d) := by
      unfold f_X12_compare_64
      rw [ieqF rfl i0 d0 d1 d2 (by omega) (by omega)]
    show (if i < _ then (if iZ d = 0 then _ else f_X12_compare_64 σ 493 (iZ d)) else f_X12_compare_64 σ 493 (iZ d)) = _
    rw [ieqF rfl i0 d0 d1 d2 (by omega) (by omega), e64, ite_self]
  have key := fs_loop (f := fun n i => f_X12_compare_22 (n + 1) σ 493 0 i) (o := fun z => some (iZ (if gI D z.toNat < gI E z.toNat then -1 else 1), σ)) (e := some (iZ (if (D.length : Int) - (E.length : Int) < 0 then -1 else if 0 < (D.length : Int) - (E.length : Int) then 1 else 0), σ)) (unB D E) (min D.length E.length) ?_ ?_ (min D.length E.length) 0 99999 (by omega) (by omega)
  · refine Eq.trans (show f_X12_compare_22 ms_fuel σ 493 0 0 = f_X12_compare_22 (99999 + 1) σ 493 0 (iZ (0 : Nat)) from rfl) (key.trans ?_)
    unfold cpR
    rw [fsU_max hD' hE']
    by_cases q : fsU (unB D E) 0 (min D.length E.length) = -1
    · rw [if_pos q, if_pos q]
      by_cases q2 : (D.length : Int) = (E.length : Int)
      · rw [if_pos q2, if_pos rfl, if_neg (by omega), if_neg (by omega)]
      · have em1 : ¬ ((min D.length E.length : Nat) : Int) = -1 := by omega
        rw [if_neg q2, if_neg em1, Int.toNat_natCast]
        have g1 := gI_bd hD' (min D.length E.length)
        have g2 := gI_bd hE' (min D.length E.length)
        by_cases q3 : (D.length : Int) - (E.length : Int) < 0
        · have a1 := g1.2.2.mpr (by omega)
          have a2 : ¬ gI E (min D.length E.length) = -1 := fun g => (g2.2.2.mp g) (by omega)
          rw [if_pos q3, if_pos (show gI D (min D.length E.length) < gI E (min D.length E.length) from by omega)]
        · have a1 := g2.2.2.mpr (by omega)
          rw [if_neg q3, if_pos (show 0 < (D.length : Int) - (E.length : Int) from by omega), if_neg (show ¬ gI D (min D.length E.length) < gI E (min D.length E.length) from by omega)]
    · rw [if_neg q, if_neg q, if_neg q]
  · intro n' i hi
    have hiD : i < D.length := by omega
    have hiE : i < E.length := by omega
    have g1 := hD' _ (List.getElem_mem hiD)
    have g2 := hE' _ (List.getElem_mem hiE)
    have e1 : ms_ald σ 501 (iZ (i : Int)) = some (iZ (D[i] : Int)) := by rw [m_sgn h hiD, getD_get hiD]
    have e2 : ms_ald σ 509 (iZ (i : Int)) = some (iZ (E[i] : Int)) := by rw [ald_iZ (by rw [m_ln509]; omega) (by rw [m_ln509]; omega), hO.1 i hiE]
    show (if iZ (i : Int) < (if ms_i σ 493 22 < ms_i σ 493 11 then ms_i σ 493 22 else ms_i σ 493 11) then (if (0 : Int32) = 0 then _ else _) else _) = _
    rw [em, iltT rfl rfl (by omega) (by omega) (by omega), if_pos rfl, m_rf10, e1, Option.bind_some, m_rf20, e2, Option.bind_some, iZ_sub]
    unfold unB
    rw [gI_in hiD, gI_in hiE]
    by_cases q : (D[i] : Int) = (E[i] : Int)
    · have z : (D[i] : Int) - (E[i] : Int) = 0 := by omega
      rw [z, if_neg (by simp [q]), i1, iZ_add]
      rfl
    · rw [if_pos (by simpa using q), h64 _ _ _ (by omega) (by omega) (by omega), cp81 (by omega) (by omega), Int.toNat_natCast, gI_in hiD, gI_in hiE]
      by_cases q2 : (D[i] : Int) < (E[i] : Int)
      · rw [if_pos (by omega), if_pos q2]
      · rw [if_neg (by omega), if_pos (by omega), if_neg q2]
  · intro n'
    show (if iZ ((min D.length E.length : Nat) : Int) < (if ms_i σ 493 22 < ms_i σ 493 11 then ms_i σ 493 22 else ms_i σ 493 11) then _ else f_X12_compare_64 σ 493 0) = _
    rw [em, iltF rfl rfl (by omega) (by omega) (by omega)]
    unfold f_X12_compare_64
    rw [if_pos rfl, hO.2.1, h.2.2.2.2.2.2.2.1, iZ_sub, cp81 (by omega) (by omega)]
theorem q_compare (h : InvS σ w) (x y : Int32) : ∃ r σ1 b σ2, f_X10_compare σ 0 x y = some (r, σ1) ∧ Fr FScr σ σ1 ∧ f_X12_compare σ1 493 x y = some (b, σ2) ∧ Ok r (ms_i σ2 493 7) b ∧ Fr FScr σ1 σ2 := by
  obtain ⟨z, z1, z2, rfl⟩ := iZ_of x
  obtain ⟨k, k1, k2, rfl⟩ := iZ_of y
  have h4 := h.1.2.2.1
  have h40 := h.1.1.1
  by_cases q : (0 ≤ z ∧ z ≤ (w 1 : Int) - 1) ∧ 0 ≤ k ∧ k ≤ (w 1 : Int) - 1
  · obtain ⟨l, rfl⟩ : ∃ l : Nat, z = (l : Int) := ⟨z.toNat, by omega⟩
    obtain ⟨m, rfl⟩ : ∃ m : Nat, k = (m : Int) := ⟨k.toNat, by omega⟩
    obtain ⟨s4, a1, ⟨a2, a3, a4, a5⟩, ⟨b2, b3, b4, b5⟩, a6⟩ := c_needBothT h q.1 q.2
    obtain ⟨n1, n2, n3, n4⟩ := lnok h.1 (l := l) (by omega)
    obtain ⟨p1, p2, p3, p4⟩ := lnok h.1 (l := m) (by omega)
    have hD' : ∀ x ∈ dF w (ln w l), x < 1000 := fun x hx => by have := (n1 x hx).1; omega
    have hE' : ∀ x ∈ dF w (ln w m), x < 1000 := fun x hx => by have := (p1 x hx).1; omega
    have h5 := h.fr a6
    have hu := c_firstUnlike a3.1 b3.1 hD' hE'
    obtain ⟨t3, c1, c2, c3, c4, c5⟩ := m_layTwo (h5.fr (fr7 s4 0)) (l := l) (m := m) (by omega) (by omega)
    rw [i_si_same] at c4
    have hfs := fsU_lt (unB (dF w (ln w l)) (dF w (ln w m))) (max (dF w (ln w l)).length (dF w (ln w m)).length) 0
    refine ⟨.inl (iZ (cpR (dF w (ln w l)) (dF w (ln w m)))), s4, iZ (cpR (dF w (ln w l)) (dF w (ln w m))), t3, ?_, a6, ?_, ⟨c4, rfl⟩, (fr7 s4 0).trans c5⟩
    · unfold f_X10_compare
      rw [a1, bu_n, x_rf6, x_rf7, (fm_refs (F := 441) (Or.inl rfl)).2.2.1, (fm_refs (F := 454) (Or.inr rfl)).2.2.1, hu, Option.bind_some]
      unfold cpR
      by_cases g : fsU (unB (dF w (ln w l)) (dF w (ln w m))) 0 (max (dF w (ln w l)).length (dF w (ln w m)).length) = -1
      · rw [ieqT rfl im1 g, if_pos g]
        rfl
      · obtain ⟨j, hj⟩ : ∃ j : Nat, fsU (unB (dF w (ln w l)) (dF w (ln w m))) 0 (max (dF w (ln w l)).length (dF w (ln w m)).length) = (j : Int) := ⟨(fsU (unB (dF w (ln w l)) (dF w (ln w m))) 0 (max (dF w (ln w l)).length (dF w (ln w m)).length)).toNat, by omega⟩
        rw [ieqF rfl im1 g (by omega) (by omega) (by omega) (by omega), if_neg g, hj, get_gI a3.1 (by omega), Option.bind_some, get_gI b3.1 (by omega), Option.bind_some, Int.toNat_natCast]
        have g1 := gI_bd hD' j
        have g2 := gI_bd hE' j
        rw [ilt rfl rfl (by omega) (by omega) (by omega) (by omega)]
        by_cases g3 : gI (dF w (ln w l)) j < gI (dF w (ln w m)) j
        · rw [if_pos g3, if_pos g3]
          rfl
        · rw [if_neg g3, if_neg g3]
          rfl
    · unfold f_X12_compare
      rw [m_noTwoT h5 q.1 q.2, b2_s, if_pos rfl, c1, Option.bind_some, m_compareL c2 c3 (fun y hy => (p1 y hy).1) p2]
  · refine ⟨.inr 0, σ, 0, ms_si σ 493 7 1, ?_, Fr.refl _ _, ?_, i_si_same _ _ _ _, fr7 σ 1⟩
    · unfold f_X10_compare
      rw [c_needBothF h z1 z2 k1 k2 q, bu_s]
    · unfold f_X12_compare
      rw [m_noTwoF h z1 z2 k1 k2 q, b2_s, if_neg (by decide)]
end Tw
