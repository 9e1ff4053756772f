/-! ranges, clusters in the reference -/
def jZ (z : Int) : Int64 := Int64.ofInt z
theorem jZ_toInt {a : Int} (h1 : -9223372036854775808 ≤ a) (h2 : a < 9223372036854775808) : (jZ a).toInt = a := Int64.toInt_ofInt_of_le (by omega) (by omega)
theorem iZ_long {z : Int} (h1 : -2147483648 ≤ z) (h2 : z < 2147483648) : (iZ z).toInt64 = jZ z := by
  rw [← Int64.toInt_inj, Int32.toInt_toInt64, iZ_toInt h1 h2, jZ_toInt (by omega) (by omega)]
theorem lg_jZ {a b : Int} (a1 : -9223372036854775808 ≤ a) (a2 : a < 9223372036854775808) (b1 : -9223372036854775808 ≤ b) (b2 : b < 9223372036854775808) : lg_cmp (jZ a) (jZ b) = if b < a then 1 else if a = b then 0 else -1 := by
  unfold lg_cmp
  have e1 : (jZ a > jZ b) ↔ b < a := by
    show jZ b < jZ a ↔ _
    rw [Int64.lt_iff_toInt_lt, jZ_toInt a1 a2, jZ_toInt b1 b2]
  have e2 : (jZ a = jZ b) ↔ a = b := by rw [← Int64.toInt_inj, jZ_toInt a1 a2, jZ_toInt b1 b2]
  by_cases c1 : b < a
  · rw [if_pos c1, if_pos (e1.mpr c1)]
  · rw [if_neg c1, if_neg (fun g => c1 (e1.mp g))]
    by_cases c2 : a = b
    · rw [if_pos c2, if_pos (e2.mpr c2)]
    · rw [if_neg c2, if_neg (fun g => c2 (e2.mp g))]
theorem inR {σ : MsSt} {a b c : Int} (a1 : -9223372036854775808 ≤ a) (a2 : a < 9223372036854775808) (b1 : -9223372036854775808 ≤ b) (b2 : b < 9223372036854775808) (c1 : -9223372036854775808 ≤ c) (c2 : c < 9223372036854775808) : f_X12_inRange σ (jZ a) (jZ b) (jZ c) = some (b01 (b ≤ a ∧ a ≤ c)) := by
  unfold f_X12_inRange
  rw [lg_jZ a1 a2 b1 b2, lg_jZ a1 a2 c1 c2]
  unfold b01
  by_cases h1 : b < a
  · rw [if_pos h1, if_neg (by decide)]
    by_cases h2 : c < a
    · rw [if_pos h2, if_pos (by decide), if_neg (by omega)]
    · rw [if_neg h2]
      by_cases h3 : a = c
      · rw [if_pos h3, if_neg (by decide), if_pos (by omega)]
      · rw [if_neg h3, if_neg (by decide), if_pos (by omega)]
  · rw [if_neg h1]
    by_cases h4 : a = b
    · rw [if_pos h4, if_neg (by decide)]
      by_cases h2 : c < a
      · rw [if_pos h2, if_pos (by decide), if_neg (by omega)]
      · rw [if_neg h2]
        by_cases h3 : a = c
        · rw [if_pos h3, if_neg (by decide), if_pos (by omega)]
        · rw [if_neg h3, if_neg (by decide), if_pos (by omega)]
    · rw [if_neg h4, if_pos (by decide), if_neg (by omega)]
section Mr
variable {σ : MsSt} {w : Nat → Nat} {z : Int}
theorem m_isSign (h : Mw σ 494 w) (h40 : w 0 ≤ 40) (z1 : -2147483648 ≤ z) (z2 : z < 2147483648) : f_X12_isSign σ 493 (iZ z) = some (b01 (0 ≤ z ∧ z ≤ (w 0 : Int) - 1)) := by
  unfold f_X12_isSign
  rw [m_rf0, i0, mw_get h (Or.inl rfl) (z := 0) (k := 0) rfl (by omega), Option.bind_some, i1, iZ_sub, iZ_long z1 z2, iZ_long (by omega) (by omega), show (0 : Int64) = jZ 0 from rfl, inR (by omega) (by omega) (by omega) (by omega) (by omega) (by omega), Option.bind_some, bz_b01]
  rfl
theorem m_isLine (h : Mw σ 494 w) (h4 : w 1 ≤ 4) (z1 : -2147483648 ≤ z) (z2 : z < 2147483648) : f_X12_isLine σ 493 (iZ z) = some (b01 (0 ≤ z ∧ z ≤ (w 1 : Int) - 1)) := by
  have h1 := mw_get h (Or.inl rfl) (z := 1) (k := 1) rfl (by omega)
  have h1' : ms_ald σ 494 1 = some (iZ (w 1 : Int)) := h1
  unfold f_X12_isLine
  rw [m_rf0, h1', Option.bind_some, i1, iZ_sub, iZ_long z1 z2, iZ_long (by omega) (by omega), show (0 : Int64) = jZ 0 from rfl, inR (by omega) (by omega) (by omega) (by omega) (by omega) (by omega), Option.bind_some, bz_b01]
  rfl
theorem m_noLine (h : Mw σ 494 w) (h4 : w 1 ≤ 4) (z1 : -2147483648 ≤ z) (z2 : z < 2147483648) : f_X12_noLine σ 493 (iZ z) = some (b01 (¬ (0 ≤ z ∧ z ≤ (w 1 : Int) - 1)), ms_si σ 493 7 (b01 (¬ (0 ≤ z ∧ z ≤ (w 1 : Int) - 1)))) := by
  unfold f_X12_noLine
  rw [m_isLine h h4 z1 z2, Option.bind_some]
  by_cases q : 0 ≤ z ∧ z ≤ (w 1 : Int) - 1
  · rw [ibT q, nm_s, i_si_same, if_pos rfl]
    unfold b01
    rw [if_neg (by simpa using q)]
  · rw [ibF q, nm_s, i_si_same, if_neg (by decide)]
    unfold b01
    rw [if_pos q]
theorem m_noSign (h : Mw σ 494 w) (h40 : w 0 ≤ 40) (z1 : -2147483648 ≤ z) (z2 : z < 2147483648) : f_X12_noSign σ 493 (iZ z) = some (b01 (¬ (0 ≤ z ∧ z ≤ (w 0 : Int) - 1)), ms_si σ 493 7 (b01 (¬ (0 ≤ z ∧ z ≤ (w 0 : Int) - 1)))) := by
  unfold f_X12_noSign
  rw [m_isSign h h40 z1 z2, Option.bind_some]
  by_cases q : 0 ≤ z ∧ z ≤ (w 0 : Int) - 1
  · rw [ibT q, nm_s, i_si_same, if_pos rfl]
    unfold b01
    rw [if_neg (by simpa using q)]
  · rw [ibF q, nm_s, i_si_same, if_neg (by decide)]
    unfold b01
    rw [if_pos q]
end Mr
/-- the reference's beginnings -/
def ClS (σ : MsSt) (w : Nat → Nat) (D : List Nat) : Prop := Aw σ 504 (bg w D ++ [D.length]) ∧ ms_i σ 493 17 = iZ ((bg w D).length : Int)
def FCl : Nat → Nat → Prop := fun a k => a = 504 ∨ (a = 493 ∧ k = 17)
def FLC : Nat → Nat → Prop := fun a k => a = 500 ∨ a = 501 ∨ a = 504 ∨ (a = 493 ∧ (k = 11 ∨ k = 12 ∨ k = 17))
theorem m_layClusters {w : Nat → Nat} {l : Nat} {σ : MsSt} (hW : WF w) (hl : l < 4) (hw : Mw σ 494 w) :
    ∃ σ', f_X12_layClusters σ 493 (iZ (l : Int)) = some σ' ∧ LayS σ' (dF w (ln w l)) (sw w (pn w (ln w l)) : Int) ∧ ClS σ' w (dF w (ln w l)) ∧ Fr FLC σ σ' := by
  obtain ⟨hm, h60⟩ := hW.line hl
  have hs := hW.1
  have h40 := hs.1
  have hok := dF_ok hs hm
  have hdl := dF_length hs hm
  have hbg := bg_length hs hm
  obtain ⟨s1, a1, a2, a3⟩ := m_layDecomposed hW hl hw
  have F1 : Fr FLC σ s1 := a3.mono fun a k q => by unfold FLay at q; unfold FLC; omega
  have F2 : Fr FLC s1 (ms_si s1 493 17 0) := Fr.si _ _ (by unfold FLC; omega)
  have F2s : Fr (fun a k => a = 493 ∧ k = 17) s1 (ms_si s1 493 17 0) := Fr.si _ _ ⟨rfl, rfl⟩
  generalize hDg : dF w (ln w l) = D at *
  have key := lp0 (S := MsSt × Int32) (f := fun n s => f_X12_layClusters_12 n s.1 493 s.2) (Q := fun σ' => LayS σ' D (sw w (pn w (ln w l)) : Int) ∧ ClS σ' w D ∧ Fr FLC σ σ')
    (fun i s => s.2 = iZ (i : Int) ∧ i ≤ D.length ∧ Aw s.1 504 (bgn w D i) ∧ ms_i s.1 493 17 = iZ ((bgn w D i).length : Int) ∧ Fr FCl (ms_si s1 493 17 0) s.1) D.length (s := (ms_si s1 493 17 0, 0)) ⟨rfl, Nat.zero_le _, Aw.nil _ _, by rw [i_si_same]; rfl, Fr.refl _ _⟩ (by omega) ?_ ?_
  · obtain ⟨x, h1, h2⟩ := key
    refine ⟨x, ?_, h2⟩
    unfold f_X12_layClusters
    rw [a1, Option.bind_some, nm_s]
    exact h1
  · rintro i ⟨s, x⟩ ⟨hx, hi, hA, hB, hFi⟩ hlt
    dsimp only at hx hA hB hFi ⊢
    subst hx
    left
    have hLi : LayS s D (sw w (pn w (ln w l)) : Int) := (a2.fr F2s (by intros; omega) (by omega) (by omega)).fr hFi (by unfold FCl; intros; omega) (by unfold FCl; omega) (by unfold FCl; omega)
    have hwi : Mw s 494 w := ((hw.fr F1 (by unfold FLC; intros; omega)).fr F2 (by unfold FLC; intros; omega)).fr hFi (by unfold FCl; intros; omega)
    have hmem := hok _ (List.getElem_mem hlt)
    have hgd := getD_get hlt
    have hmono : (bgn w D (i + 1)).length ≤ (bg w D).length := bgn_mono w D (Nat.succ_le_of_lt hlt)
    have hmono0 : (bgn w D i).length ≤ (bg w D).length := bgn_mono w D (Nat.le_of_lt hlt)
    have e1 : iZ (i : Int) + 1 = iZ ((i + 1 : Nat) : Int) := by rw [i1, iZ_add]; rfl
    have h37 : ∃ s', (∀ k12, f_X12_layClusters_37 k12 s 493 (iZ (i : Int)) = k12 s' 493 (iZ (i : Int) + 1)) ∧ Aw s' 504 (bgn w D i ++ [i]) ∧ ms_i s' 493 17 = iZ (((bgn w D i).length + 1 : Nat) : Int) ∧ Fr FCl s s' := by
      refine ⟨ms_si (ms_si s 504 (bgn w D i).length (iZ (i : Int))) 493 17 (iZ (((bgn w D i).length : Int) + 1)), fun k12 => ?_, (hA.snoc i).fr (Fr.si (P := fun a _ => a = 493) _ _ rfl) (by intros; omega), by rw [i_si_same]; rfl, (Fr.si (P := FCl) _ _ (Or.inl rfl)).trans (Fr.si _ _ (Or.inr ⟨rfl, rfl⟩))⟩
      unfold f_X12_layClusters_37
      rw [m_rf16, hB, ast_iZ (by rw [m_ln.2.2.2.2.2.2.2.2.2.2.1]; omega) (by rw [m_ln.2.2.2.2.2.2.2.2.2.2.1]; omega), Option.bind_some, nm_s, i_si_ne (Or.inl (by omega)), hB]
      rw [show iZ (((bgn w D i).length : Nat) : Int) + 1 = iZ (((bgn w D i).length : Int) + 1) from by rw [i1, iZ_add]]
    obtain ⟨s', c1, c2, c3, c4⟩ := h37
    have hhead : ∀ n', f_X12_layClusters_12 (n' + 1) s 493 (iZ (i : Int)) = if bgf w D i = true then f_X12_layClusters_37 (f_X12_layClusters_12 n') s 493 (iZ (i : Int)) else f_X12_layClusters_12 n' s 493 (iZ (i : Int) + 1) := by
      intro n'
      show (if iZ (i : Int) < ms_i s 493 11 then _ else _) = _
      rw [iltT rfl hLi.2.1 (by omega) (by omega) (by omega)]
      by_cases q0 : i = 0
      · rw [ieqT rfl i0 (by omega), if_pos (by simp [bgf, q0])]
      · rw [ieqF rfl i0 (by omega) (by omega) (by omega) (by omega) (by omega), m_rf10, ald_iZ (by rw [m_ln.2.2.2.2.2.2.2.1]; omega) (by rw [m_ln.2.2.2.2.2.2.2.1]; omega), hLi.1 i hlt, Option.bind_some, isMark_s hwi (by omega) (by omega), Option.bind_some]
        by_cases q : Kd w D[i] = 1
        · rw [ibT q, if_neg (by unfold bgf; rw [hgd]; simp [q0, q])]
        · rw [ibF q, if_pos (by unfold bgf; rw [hgd]; simp [q])]
    by_cases q : bgf w D i = true
    · refine ⟨(s', iZ ((i + 1 : Nat) : Int)), ⟨rfl, hlt, by rw [bgn_succ, if_pos q]; exact c2, by rw [bgn_succ, if_pos q, List.length_append]; exact c3, hFi.trans c4⟩, fun n' => ?_⟩
      rw [hhead, if_pos q, c1, e1]
    · refine ⟨(s, iZ ((i + 1 : Nat) : Int)), ⟨rfl, hlt, by rw [bgn_succ, if_neg q]; exact hA, by rw [bgn_succ, if_neg q]; exact hB, hFi⟩, fun n' => ?_⟩
      rw [hhead, if_neg q, e1]
  · rintro ⟨s, x⟩ ⟨hx, hi, hA, hB, hFi⟩
    dsimp only at hx hA hB hFi ⊢
    subst hx
    have hLi : LayS s D (sw w (pn w (ln w l)) : Int) := (a2.fr F2s (by intros; omega) (by omega) (by omega)).fr hFi (by unfold FCl; intros; omega) (by unfold FCl; omega) (by unfold FCl; omega)
    have hB' : ms_i s 493 17 = iZ ((bg w D).length : Int) := hB
    have F3 : Fr (fun a _ => a = 504) s (ms_si s 504 (bg w D).length (iZ (D.length : Int))) := Fr.si _ _ rfl
    refine ⟨ms_si s 504 (bg w D).length (iZ (D.length : Int)), ⟨hLi.fr F3 (by intros; omega) (by omega) (by omega), ⟨Aw.snoc (L := bg w D) hA D.length, ?_⟩, ((F1.trans F2).trans (hFi.mono fun a k q => by unfold FCl at q; unfold FLC; omega)).trans (F3.mono fun a k q => by unfold FLC; omega)⟩, fun n' => ?_⟩
    · rw [i_si_ne (Or.inl (by omega))]
      exact hB'
    · show (if iZ (D.length : Int) < ms_i s 493 11 then _ else _) = _
      rw [iltF rfl hLi.2.1 (by omega) (by omega) (by omega), m_rf16, hB', hLi.2.1, ast_iZ (by rw [m_ln.2.2.2.2.2.2.2.2.2.2.1]; omega) (by rw [m_ln.2.2.2.2.2.2.2.2.2.2.1]; omega)]
      rfl
/-- a number of a cluster's base; 0 without one -/
def obf (w : Nat → Nat) (D : List Nat) (c f : Nat) : Nat := if Kd w (D.getD (be w D c) 0) = 1 then 0 else sgF w (D.getD (be w D c) 0) f
def pen (w : Nat → Nat) (D : List Nat) : Nat → Nat
  | 0 => 0
  | c + 1 => pen w D c + obf w D c 3
/-- what the reference knows of a line -/
def LcS (σ : MsSt) (w : Nat → Nat) (n : Nat) (D : List Nat) : Prop := Mw σ 494 w ∧ w 0 = n ∧ SgsOK w n ∧ (∀ y ∈ D, y < n ∧ Kd w y ≤ 1 ∧ Cl w y ≤ 60) ∧ D.length ≤ 360 ∧ (bg w D).length ≤ 60 ∧ Aw σ 501 D ∧ ms_i σ 493 11 = iZ (D.length : Int) ∧ ClS σ w D
theorem LcS.fr {σ σ' : MsSt} {w : Nat → Nat} {n : Nat} {D : List Nat} {P : Nat → Nat → Prop} (h : LcS σ w n D) (hF : Fr P σ σ') (h1 : ∀ k, ¬ P 494 k) (h2 : ∀ k, ¬ P 501 k) (h3 : ∀ k, ¬ P 504 k) (h4 : ¬ P 493 11) (h5 : ¬ P 493 17) : LcS σ' w n D :=
  ⟨h.1.fr hF h1, h.2.1, h.2.2.1, h.2.2.2.1, h.2.2.2.2.1, h.2.2.2.2.2.1, h.2.2.2.2.2.2.1.fr hF h2, (hF.1 _ _ h4).trans h.2.2.2.2.2.2.2.1, h.2.2.2.2.2.2.2.2.1.fr hF h3, (hF.1 _ _ h5).trans h.2.2.2.2.2.2.2.2.2⟩
section Mc
variable {σ : MsSt} {w : Nat → Nat} {n c : Nat} {D : List Nat}
theorem m_begin (h : LcS σ w n D) (hc : c ≤ (bg w D).length) : ms_ald σ 504 (iZ (c : Int)) = some (iZ (be w D c : Int)) := by
  obtain ⟨h1, h2, h3, h4, h5, h6, h7, h8, h9⟩ := h
  have hl : c < (bg w D ++ [D.length]).length := by rw [List.length_append, List.length_singleton]; omega
  rw [ald_iZ (by rw [m_ln.2.2.2.2.2.2.2.2.2.2.1]; omega) (by rw [m_ln.2.2.2.2.2.2.2.2.2.2.1]; omega), h9.1 c hl]
  unfold be
  rw [getD_get hl]
theorem m_sgn (h : LcS σ w n D) {k : Nat} (hk : k < D.length) : ms_ald σ 501 (iZ (k : Int)) = some (iZ ((D.getD k 0 : Nat) : Int)) := by
  obtain ⟨h1, h2, h3, h4, h5, h6, h7, h8, h9⟩ := h
  rw [ald_iZ (by rw [m_ln.2.2.2.2.2.2.2.1]; omega) (by rw [m_ln.2.2.2.2.2.2.2.1]; omega), h7 k hk, getD_get hk]
theorem LcS.at (h : LcS σ w n D) {k : Nat} (hk : k < D.length) : D.getD k 0 < n ∧ Kd w (D.getD k 0) ≤ 1 ∧ Cl w (D.getD k 0) ≤ 60 ∧ n ≤ 40 := by
  rw [getD_get hk]
  obtain ⟨g1, g2, g3⟩ := h.2.2.2.1 _ (List.getElem_mem hk)
  exact ⟨g1, g2, g3, h.2.2.1.1⟩
theorem m_baseOf (h : LcS σ w n D) (hc : c < (bg w D).length) : f_X12_baseOf σ 493 (iZ (c : Int)) = some (iZ (bsv w D (be w D c))) := by
  have hk := (be_lt hc).2.2
  have ha := h.at hk
  unfold f_X12_baseOf
  rw [m_rf16, m_begin h (by omega), Option.bind_some, m_rf10, m_sgn h hk, Option.bind_some, isMark_s h.1 (by omega) (by omega), Option.bind_some]
  unfold bsv
  by_cases q : Kd w (D.getD (be w D c) 0) = 1
  · rw [ibT q, if_pos q, ← im1]
  · rw [ibF q, if_neg q]
theorem m_firstMark (h : LcS σ w n D) (hc : c < (bg w D).length) : f_X12_firstMark σ 493 (iZ (c : Int)) = some (iZ (fm w D c : Int)) := by
  have hk := (be_lt hc).2.2
  have ha := h.at hk
  unfold f_X12_firstMark
  rw [m_rf16, m_begin h (by omega), Option.bind_some, m_baseOf h hc, Option.bind_some]
  unfold bsv fm
  by_cases q : Kd w (D.getD (be w D c) 0) = 1
  · rw [if_pos q, if_pos q, ieqT rfl im1 rfl, i0, iZ_add, Int.add_zero]
  · rw [if_neg q, if_neg q, ieqF rfl im1 (by omega) (by omega) (by omega) (by omega) (by omega), i1, iZ_add]
    rfl
theorem m_marksOf (h : LcS σ w n D) (hc : c < (bg w D).length) : f_X12_marksOf σ 493 (iZ (c : Int)) = some (iZ ((be w D (c + 1) - fm w D c : Nat) : Int)) := by
  have := (fm_le hc).2
  unfold f_X12_marksOf
  rw [m_rf16, show iZ (c : Int) + 1 = iZ ((c + 1 : Nat) : Int) from by rw [i1, iZ_add]; rfl, m_begin h hc, Option.bind_some, m_firstMark h hc, Option.bind_some, iZ_sub, show ((be w D (c + 1) - fm w D c : Nat) : Int) = (be w D (c + 1) : Int) - (fm w D c : Int) from by omega]
theorem m_ofBase (h : LcS σ w n D) (hc : c < (bg w D).length) {f : Nat} (hf : f < 7) : f_X12_ofBase σ 493 (iZ (c : Int)) (iZ (f : Int)) = some (iZ (obf w D c f : Int)) := by
  have hk := (be_lt hc).2.2
  have ha := h.at hk
  unfold f_X12_ofBase
  rw [m_baseOf h hc, Option.bind_some]
  unfold bsv obf
  by_cases q : Kd w (D.getD (be w D c) 0) = 1
  · rw [if_pos q, if_pos q, ieqT rfl im1 rfl]
    rfl
  · rw [if_neg q, if_neg q, ieqF rfl im1 (by omega) (by omega) (by omega) (by omega) (by omega), of_s, Option.bind_some, m_rf0, mw_get h.1 (Or.inl rfl) (k := 247 + 7 * D.getD (be w D c) 0 + f) (by omega) (by omega)]
    rfl
theorem obf_le (h : LcS σ w n D) (hc : c < (bg w D).length) {f : Nat} (h3 : 3 ≤ f) (hf : f < 7) : obf w D c f ≤ 20 := by
  have hk := (be_lt hc).2.2
  have ha := h.at hk
  unfold obf
  by_cases q : Kd w (D.getD (be w D c) 0) = 1
  · rw [if_pos q]; omega
  · rw [if_neg q]
    have h0 := (h.2.2.1.2.1 _ ha.1).1.2.1 (by omega)
    have hf' : f = 3 ∨ f = 4 ∨ f = 5 ∨ f = 6 := by omega
    rcases hf' with rfl | rfl | rfl | rfl <;> omega
theorem pen_le (h : LcS σ w n D) : ∀ k, k ≤ (bg w D).length → pen w D k ≤ 20 * k := by
  intro k
  induction k with
  | zero => intro _; exact Nat.le_refl _
  | succ k ih =>
    intro hk
    have h1 := ih (by omega)
    have h2 := obf_le h (c := k) (by omega) (f := 3) (by omega) (by omega)
    unfold pen
    omega
theorem m_penOf (h : LcS σ w n D) {k : Nat} (hk : k ≤ (bg w D).length) : f_X12_penOf σ 493 (iZ (k : Int)) = some (iZ (pen w D k : Int)) := by
  have h60 := h.2.2.2.2.2.1
  have key := lp0 (S := Int32 × Int32) (f := fun n s => f_X12_penOf_4 σ n 493 (iZ (k : Int)) s.1 s.2) (Q := fun v => v = iZ (pen w D k : Int))
    (fun i s => s.2 = iZ (i : Int) ∧ i ≤ k ∧ s.1 = iZ (pen w D i : Int)) k (s := (0, 0)) ⟨rfl, Nat.zero_le _, rfl⟩ (by omega) ?_ ?_
  · obtain ⟨v, h1, rfl⟩ := key
    exact h1
  · rintro i ⟨a, x⟩ ⟨hx, hi, ha⟩ hlt
    dsimp only at hx ha ⊢
    subst hx; subst ha
    left
    refine ⟨(iZ (pen w D (i + 1) : Int), iZ ((i + 1 : Nat) : Int)), ⟨rfl, hlt, rfl⟩, fun n' => ?_⟩
    show (if iZ (i : Int) < iZ (k : Int) then _ else _) = _
    have hb := m_ofBase h (c := i) (by omega) (f := 3) (by omega)
    have hb' : f_X12_ofBase σ 493 (iZ (i : Int)) 3 = some (iZ (obf w D i 3 : Int)) := hb
    rw [iltT rfl rfl (by omega) (by omega) (by omega), hb', Option.bind_some, iZ_add, i1, iZ_add]
    rfl
  · rintro ⟨a, x⟩ ⟨hx, hi, ha⟩
    dsimp only at hx ha ⊢
    subst hx; subst ha
    refine ⟨iZ (pen w D k : Int), rfl, fun n' => ?_⟩
    show (if iZ (k : Int) < iZ (k : Int) then _ else _) = _
    rw [iltF rfl rfl (by omega) (by omega) (by omega)]
end Mc
