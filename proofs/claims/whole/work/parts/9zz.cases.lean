/-! the cases of the law's loop, one by one: printed by cases.py -/
section Cs
variable {L : Nat} {xs : Nat → Int32} {k : MsSt → Int32 → Option (Int32 × MsSt)} {σ : MsSt} {l5 a1 a2 a3 a4 a5 : Int32}
theorem pas_query (hI : IV σ) (x : Int32) : Pas (f_L_query σ x) (fun s => f_X12_query s 493 x) QI := by
  obtain ⟨r, σ1, e1, hf⟩ := k_query hI x
  cases r with
  | inl v =>
    obtain ⟨b, σ2, g1, g2, g3, g4⟩ := hf (ms_sj σ1 517 0 v.toInt64).2
    refine ⟨0, ms_sj σ1 517 0 v.toInt64, b, σ2, ?_, g1, g2.1, fun _ => ?_, g3⟩
    · unfold f_L_query ms_cx2
      rw [e1]
      show (ms_asj σ1 517 0 v.toInt64).bind (fun s3 => some ((0 : Int32), s3)) = _
      rw [asj_out]
      rfl
    · unfold QI
      rw [g4.1 517 0 (by decide), j_out, show v = b from g2.2]
  | inr e =>
    obtain ⟨b, σ2, g1, g2, g3, g4⟩ := hf σ1.2
    obtain ⟨g5, g6⟩ : e = 1 ∧ ms_i σ2 493 7 = 1 := g2
    subst g5
    refine ⟨1, σ1, b, σ2, ?_, g1, g6, fun h => absurd h (by decide), g3⟩
    unfold f_L_query ms_cx2
    rw [e1]
    rfl
theorem w_236 (h1 : ms_xld L xs (l5 + 1) = some a1) (h2 : ms_xld L xs (l5 + 2) = some a2) (h3 : ms_xld L xs (l5 + 3) = some a3) (h4 : ms_xld L xs (l5 + 4) = some a4) (h5 : ms_xld L xs (l5 + 5) = some a5) (hI : IV σ) : ∃ σ', IV σ' ∧ f_law_236 L xs k σ l5 = k σ' l5 := by
  unfold f_law_236
  simp only [h1, h2, h3, h4, h5, Option.bind_some]
  exact lawE (fc := fun s => f_X10_feed s 0 a1 a2 a3 a4 a5) (fm := fun s => f_X12_feed s 493 a1 a2 a3 a4 a5) (k_feed a1 a2 a3 a4 a5) hI
theorem w_309 (h1 : ms_xld L xs (l5 + 1) = some a1) (h2 : ms_xld L xs (l5 + 2) = some a2) (h3 : ms_xld L xs (l5 + 3) = some a3) (h4 : ms_xld L xs (l5 + 4) = some a4) (h5 : ms_xld L xs (l5 + 5) = some a5) (hI : IV σ) : ∃ σ', IV σ' ∧ f_law_309 L xs k σ l5 = k σ' l5 := by
  unfold f_law_309
  simp only [h1, Option.bind_some]
  exact lawI (w := f_L_load σ a1) (fm := fun s => f_X12_load s 493 a1) (pas_WL (fc := fun s => f_X10_load s 0 a1) (k_load a1) hI)
theorem w_365 (h1 : ms_xld L xs (l5 + 1) = some a1) (h2 : ms_xld L xs (l5 + 2) = some a2) (h3 : ms_xld L xs (l5 + 3) = some a3) (h4 : ms_xld L xs (l5 + 4) = some a4) (h5 : ms_xld L xs (l5 + 5) = some a5) (hI : IV σ) : ∃ σ', IV σ' ∧ f_law_365 L xs k σ l5 = k σ' l5 := by
  unfold f_law_365
  exact lawG (fc := fun s => f_X10_errorPosition s 0) (fm := fun s => f_X12_errorPosition s 493) (k_errorPosition) hI
theorem w_378 (h1 : ms_xld L xs (l5 + 1) = some a1) (h2 : ms_xld L xs (l5 + 2) = some a2) (h3 : ms_xld L xs (l5 + 3) = some a3) (h4 : ms_xld L xs (l5 + 4) = some a4) (h5 : ms_xld L xs (l5 + 5) = some a5) (hI : IV σ) : ∃ σ', IV σ' ∧ f_law_378 L xs k σ l5 = k σ' l5 := by
  unfold f_law_378
  simp only [h1, Option.bind_some]
  exact lawI (w := f_L_size σ a1) (fm := fun s => f_X12_size s 493 a1) (pas_RI (fc := fun s => f_X10_size s 0 a1) (k_size a1) (z_size σ 0 a1) hI)
theorem w_434 (h1 : ms_xld L xs (l5 + 1) = some a1) (h2 : ms_xld L xs (l5 + 2) = some a2) (h3 : ms_xld L xs (l5 + 3) = some a3) (h4 : ms_xld L xs (l5 + 4) = some a4) (h5 : ms_xld L xs (l5 + 5) = some a5) (hI : IV σ) : ∃ σ', IV σ' ∧ f_law_434 L xs k σ l5 = k σ' l5 := by
  unfold f_law_434
  simp only [h1, h2, Option.bind_some]
  exact lawI (w := f_L_sign σ a1 a2) (fm := fun s => f_X12_sign s 493 a1 a2) (pas_RI (fc := fun s => f_X10_sign s 0 a1 a2) (k_sign a1 a2) (z_sign σ 0 a1 a2) hI)
theorem w_502 (h1 : ms_xld L xs (l5 + 1) = some a1) (h2 : ms_xld L xs (l5 + 2) = some a2) (h3 : ms_xld L xs (l5 + 3) = some a3) (h4 : ms_xld L xs (l5 + 4) = some a4) (h5 : ms_xld L xs (l5 + 5) = some a5) (hI : IV σ) : ∃ σ', IV σ' ∧ f_law_502 L xs k σ l5 = k σ' l5 := by
  unfold f_law_502
  simp only [h1, h2, Option.bind_some]
  exact lawI (w := f_L_letter σ a1 a2) (fm := fun s => f_X12_letter s 493 a1 a2) (pas_RI (fc := fun s => f_X10_letter s 0 a1 a2) (k_letter a1 a2) (z_letter σ 0 a1 a2) hI)
theorem w_570 (h1 : ms_xld L xs (l5 + 1) = some a1) (h2 : ms_xld L xs (l5 + 2) = some a2) (h3 : ms_xld L xs (l5 + 3) = some a3) (h4 : ms_xld L xs (l5 + 4) = some a4) (h5 : ms_xld L xs (l5 + 5) = some a5) (hI : IV σ) : ∃ σ', IV σ' ∧ f_law_570 L xs k σ l5 = k σ' l5 := by
  unfold f_law_570
  simp only [h1, h2, Option.bind_some]
  exact lawI (w := f_L_expanded σ a1 a2) (fm := fun s => f_X12_expanded s 493 a1 a2) (pas_RI (fc := fun s => f_X10_expanded s 0 a1 a2) (k_expanded a1 a2) (z_expanded σ 0 a1 a2) hI)
theorem w_638 (h1 : ms_xld L xs (l5 + 1) = some a1) (h2 : ms_xld L xs (l5 + 2) = some a2) (h3 : ms_xld L xs (l5 + 3) = some a3) (h4 : ms_xld L xs (l5 + 4) = some a4) (h5 : ms_xld L xs (l5 + 5) = some a5) (hI : IV σ) : ∃ σ', IV σ' ∧ f_law_638 L xs k σ l5 = k σ' l5 := by
  unfold f_law_638
  simp only [h1, h2, Option.bind_some]
  exact lawI (w := f_L_pairOf σ a1 a2) (fm := fun s => f_X12_pairOf s 493 a1 a2) (pas_RI (fc := fun s => f_X10_pairOf s 0 a1 a2) (k_pairOf a1 a2) (z_pairOf σ 0 a1 a2) hI)
theorem w_706 (h1 : ms_xld L xs (l5 + 1) = some a1) (h2 : ms_xld L xs (l5 + 2) = some a2) (h3 : ms_xld L xs (l5 + 3) = some a3) (h4 : ms_xld L xs (l5 + 4) = some a4) (h5 : ms_xld L xs (l5 + 5) = some a5) (hI : IV σ) : ∃ σ', IV σ' ∧ f_law_706 L xs k σ l5 = k σ' l5 := by
  unfold f_law_706
  simp only [h1, Option.bind_some]
  exact lawI (w := f_L_used σ a1) (fm := fun s => f_X12_used s 493 a1) (pas_RI (fc := fun s => f_X10_used s 0 a1) (k_used a1) (z_used σ 0 a1) hI)
theorem w_762 (h1 : ms_xld L xs (l5 + 1) = some a1) (h2 : ms_xld L xs (l5 + 2) = some a2) (h3 : ms_xld L xs (l5 + 3) = some a3) (h4 : ms_xld L xs (l5 + 4) = some a4) (h5 : ms_xld L xs (l5 + 5) = some a5) (hI : IV σ) : ∃ σ', IV σ' ∧ f_law_762 L xs k σ l5 = k σ' l5 := by
  unfold f_law_762
  simp only [h1, Option.bind_some]
  exact lawI (w := f_L_recomposed σ a1) (fm := fun s => f_X12_recomposed s 493 a1) (pas_WI (fc := fun s => f_X10_recomposed s 0 a1) (k_recomposed a1) (z_recomposed σ 0 a1) hI)
theorem w_818 (h1 : ms_xld L xs (l5 + 1) = some a1) (h2 : ms_xld L xs (l5 + 2) = some a2) (h3 : ms_xld L xs (l5 + 3) = some a3) (h4 : ms_xld L xs (l5 + 4) = some a4) (h5 : ms_xld L xs (l5 + 5) = some a5) (hI : IV σ) : ∃ σ', IV σ' ∧ f_law_818 L xs k σ l5 = k σ' l5 := by
  unfold f_law_818
  simp only [h1, h2, Option.bind_some]
  exact lawI (w := f_L_line σ a1 a2) (fm := fun s => f_X12_line s 493 a1 a2) (pas_WI (fc := fun s => f_X10_line s 0 a1 a2) (k_line a1 a2) (z_line σ 0 a1 a2) hI)
theorem w_886 (h1 : ms_xld L xs (l5 + 1) = some a1) (h2 : ms_xld L xs (l5 + 2) = some a2) (h3 : ms_xld L xs (l5 + 3) = some a3) (h4 : ms_xld L xs (l5 + 4) = some a4) (h5 : ms_xld L xs (l5 + 5) = some a5) (hI : IV σ) : ∃ σ', IV σ' ∧ f_law_886 L xs k σ l5 = k σ' l5 := by
  unfold f_law_886
  simp only [h1, h2, h3, Option.bind_some]
  exact lawI (w := f_L_at σ a1 a2 a3) (fm := fun s => f_X12_at s 493 a1 a2 a3) (pas_WI (fc := fun s => f_X10_at s 0 a1 a2 a3) (k_at a1 a2 a3) (z_at σ 0 a1 a2 a3) hI)
theorem w_966 (h1 : ms_xld L xs (l5 + 1) = some a1) (h2 : ms_xld L xs (l5 + 2) = some a2) (h3 : ms_xld L xs (l5 + 3) = some a3) (h4 : ms_xld L xs (l5 + 4) = some a4) (h5 : ms_xld L xs (l5 + 5) = some a5) (hI : IV σ) : ∃ σ', IV σ' ∧ f_law_966 L xs k σ l5 = k σ' l5 := by
  unfold f_law_966
  simp only [h1, h2, Option.bind_some]
  exact lawI (w := f_L_unlike σ a1 a2) (fm := fun s => f_X12_unlike s 493 a1 a2) (pas_WI (fc := fun s => f_X10_unlike s 0 a1 a2) (k_unlike a1 a2) (z_unlike σ 0 a1 a2) hI)
theorem w_1034 (h1 : ms_xld L xs (l5 + 1) = some a1) (h2 : ms_xld L xs (l5 + 2) = some a2) (h3 : ms_xld L xs (l5 + 3) = some a3) (h4 : ms_xld L xs (l5 + 4) = some a4) (h5 : ms_xld L xs (l5 + 5) = some a5) (hI : IV σ) : ∃ σ', IV σ' ∧ f_law_1034 L xs k σ l5 = k σ' l5 := by
  unfold f_law_1034
  simp only [h1, h2, Option.bind_some]
  exact lawI (w := f_L_clusterOf σ a1 a2) (fm := fun s => f_X12_clusterOf s 493 a1 a2) (pas_RI (fc := fun s => f_X10_clusterOf s 0 a1 a2) (k_clusterOf a1 a2) (z_clusterOf σ 0 a1 a2) hI)
theorem w_1102 (h1 : ms_xld L xs (l5 + 1) = some a1) (h2 : ms_xld L xs (l5 + 2) = some a2) (h3 : ms_xld L xs (l5 + 3) = some a3) (h4 : ms_xld L xs (l5 + 4) = some a4) (h5 : ms_xld L xs (l5 + 5) = some a5) (hI : IV σ) : ∃ σ', IV σ' ∧ f_law_1102 L xs k σ l5 = k σ' l5 := by
  unfold f_law_1102
  simp only [h1, h2, h3, Option.bind_some]
  exact lawI (w := f_L_cluster σ a1 a2 a3) (fm := fun s => f_X12_cluster s 493 a1 a2 a3) (pas_WI (fc := fun s => f_X10_cluster s 0 a1 a2 a3) (k_cluster a1 a2 a3) (z_cluster σ 0 a1 a2 a3) hI)
theorem w_1182 (h1 : ms_xld L xs (l5 + 1) = some a1) (h2 : ms_xld L xs (l5 + 2) = some a2) (h3 : ms_xld L xs (l5 + 3) = some a3) (h4 : ms_xld L xs (l5 + 4) = some a4) (h5 : ms_xld L xs (l5 + 5) = some a5) (hI : IV σ) : ∃ σ', IV σ' ∧ f_law_1182 L xs k σ l5 = k σ' l5 := by
  unfold f_law_1182
  simp only [h1, h2, h3, h4, Option.bind_some]
  exact lawI (w := f_L_box σ a1 a2 a3 a4) (fm := fun s => f_X12_box s 493 a1 a2 a3 a4) (pas_WI (fc := fun s => f_X10_box s 0 a1 a2 a3 a4) (k_box a1 a2 a3 a4) (z_box σ 0 a1 a2 a3 a4) hI)
theorem w_1274 (h1 : ms_xld L xs (l5 + 1) = some a1) (h2 : ms_xld L xs (l5 + 2) = some a2) (h3 : ms_xld L xs (l5 + 3) = some a3) (h4 : ms_xld L xs (l5 + 4) = some a4) (h5 : ms_xld L xs (l5 + 5) = some a5) (hI : IV σ) : ∃ σ', IV σ' ∧ f_law_1274 L xs k σ l5 = k σ' l5 := by
  unfold f_law_1274
  simp only [h1, h2, Option.bind_some]
  exact lawJ (w := f_L_spellings σ a1 a2) (fm := fun s => f_X12_spellings s 493 a1 a2) (pas_WJ (fc := fun s => f_X10_spellings s 0 a1 a2) (k_spellings a1 a2) (z_spellings σ 0 a1 a2) hI)
theorem w_1341 (h1 : ms_xld L xs (l5 + 1) = some a1) (h2 : ms_xld L xs (l5 + 2) = some a2) (h3 : ms_xld L xs (l5 + 3) = some a3) (h4 : ms_xld L xs (l5 + 4) = some a4) (h5 : ms_xld L xs (l5 + 5) = some a5) (hI : IV σ) : ∃ σ', IV σ' ∧ f_law_1341 L xs k σ l5 = k σ' l5 := by
  unfold f_law_1341
  simp only [h1, h2, Option.bind_some]
  exact lawB (w := f_L_clashes σ a1 a2) (fm := fun s => f_X12_clashes s 493 a1 a2) (pas_WB (fc := fun s => f_X10_clashes s 0 a1 a2) (k_clashes a1 a2) (z_clashes σ 0 a1 a2) hI)
theorem w_1416 (h1 : ms_xld L xs (l5 + 1) = some a1) (h2 : ms_xld L xs (l5 + 2) = some a2) (h3 : ms_xld L xs (l5 + 3) = some a3) (h4 : ms_xld L xs (l5 + 4) = some a4) (h5 : ms_xld L xs (l5 + 5) = some a5) (hI : IV σ) : ∃ σ', IV σ' ∧ f_law_1416 L xs k σ l5 = k σ' l5 := by
  unfold f_law_1416
  simp only [h1, Option.bind_some]
  exact lawI (w := f_L_fullest σ a1) (fm := fun s => f_X12_fullest s 493 a1) (pas_WI (fc := fun s => f_X10_fullest s 0 a1) (k_fullest a1) (z_fullest σ 0 a1) hI)
theorem w_1472 (h1 : ms_xld L xs (l5 + 1) = some a1) (h2 : ms_xld L xs (l5 + 2) = some a2) (h3 : ms_xld L xs (l5 + 3) = some a3) (h4 : ms_xld L xs (l5 + 4) = some a4) (h5 : ms_xld L xs (l5 + 5) = some a5) (hI : IV σ) : ∃ σ', IV σ' ∧ f_law_1472 L xs k σ l5 = k σ' l5 := by
  unfold f_law_1472
  simp only [h1, h2, Option.bind_some]
  exact lawI (w := f_L_compare σ a1 a2) (fm := fun s => f_X12_compare s 493 a1 a2) (pas_WI (fc := fun s => f_X10_compare s 0 a1 a2) (k_compare a1 a2) (z_compare σ 0 a1 a2) hI)
theorem w_1540 (h1 : ms_xld L xs (l5 + 1) = some a1) (h2 : ms_xld L xs (l5 + 2) = some a2) (h3 : ms_xld L xs (l5 + 3) = some a3) (h4 : ms_xld L xs (l5 + 4) = some a4) (h5 : ms_xld L xs (l5 + 5) = some a5) (hI : IV σ) : ∃ σ', IV σ' ∧ f_law_1540 L xs k σ l5 = k σ' l5 := by
  unfold f_law_1540
  simp only [h1, h2, Option.bind_some]
  exact lawB (w := f_L_areBare σ a1 a2) (fm := fun s => f_X12_areBare s 493 a1 a2) (pas_WB (fc := fun s => f_X10_areBare s 0 a1 a2) (k_areBare a1 a2) (z_areBare σ 0 a1 a2) hI)
theorem w_1615 (h1 : ms_xld L xs (l5 + 1) = some a1) (h2 : ms_xld L xs (l5 + 2) = some a2) (h3 : ms_xld L xs (l5 + 3) = some a3) (h4 : ms_xld L xs (l5 + 4) = some a4) (h5 : ms_xld L xs (l5 + 5) = some a5) (hI : IV σ) : ∃ σ', IV σ' ∧ f_law_1615 L xs k σ l5 = k σ' l5 := by
  unfold f_law_1615
  simp only [h1, h2, h3, Option.bind_some]
  by_cases hb : a3 = 0
  · simp only [if_pos hb]
    exact lawI (w := f_L_matches σ a1 a2 0) (fm := fun s => f_X12_matches s 493 a1 a2 0) (pas_WI (fc := fun s => f_X10_matches s 0 a1 a2 0) (k_matches a1 a2 0) (z_matches σ 0 a1 a2 0) hI)
  · simp only [if_neg hb]
    exact lawI (w := f_L_matches σ a1 a2 1) (fm := fun s => f_X12_matches s 493 a1 a2 1) (pas_WI (fc := fun s => f_X10_matches s 0 a1 a2 1) (k_matches a1 a2 1) (z_matches σ 0 a1 a2 1) hI)
theorem w_1711 (h1 : ms_xld L xs (l5 + 1) = some a1) (h2 : ms_xld L xs (l5 + 2) = some a2) (h3 : ms_xld L xs (l5 + 3) = some a3) (h4 : ms_xld L xs (l5 + 4) = some a4) (h5 : ms_xld L xs (l5 + 5) = some a5) (hI : IV σ) : ∃ σ', IV σ' ∧ f_law_1711 L xs k σ l5 = k σ' l5 := by
  unfold f_law_1711
  simp only [h1, h2, h3, h4, Option.bind_some]
  by_cases hb : a3 = 0
  · simp only [if_pos hb]
    exact lawI (w := f_L_match σ a1 a2 0 a4) (fm := fun s => f_X12_match s 493 a1 a2 0 a4) (pas_WI (fc := fun s => f_X10_match s 0 a1 a2 0 a4) (k_match a1 a2 0 a4) (z_match σ 0 a1 a2 0 a4) hI)
  · simp only [if_neg hb]
    exact lawI (w := f_L_match σ a1 a2 1 a4) (fm := fun s => f_X12_match s 493 a1 a2 1 a4) (pas_WI (fc := fun s => f_X10_match s 0 a1 a2 1 a4) (k_match a1 a2 1 a4) (z_match σ 0 a1 a2 1 a4) hI)
theorem w_1819 (h1 : ms_xld L xs (l5 + 1) = some a1) (h2 : ms_xld L xs (l5 + 2) = some a2) (h3 : ms_xld L xs (l5 + 3) = some a3) (h4 : ms_xld L xs (l5 + 4) = some a4) (h5 : ms_xld L xs (l5 + 5) = some a5) (hI : IV σ) : ∃ σ', IV σ' ∧ f_law_1819 L xs k σ l5 = k σ' l5 := by
  unfold f_law_1819
  simp only [h1, h2, Option.bind_some]
  exact lawI (w := f_L_saved σ a1 a2) (fm := fun s => f_X12_saved s 493 a1 a2) (pas_WI (fc := fun s => f_X10_saved s 0 a1 a2) (k_saved a1 a2) (z_saved σ 0 a1 a2) hI)
theorem w_1887 (h1 : ms_xld L xs (l5 + 1) = some a1) (h2 : ms_xld L xs (l5 + 2) = some a2) (h3 : ms_xld L xs (l5 + 3) = some a3) (h4 : ms_xld L xs (l5 + 4) = some a4) (h5 : ms_xld L xs (l5 + 5) = some a5) (hI : IV σ) : ∃ σ', IV σ' ∧ f_law_1887 L xs k σ l5 = k σ' l5 := by
  unfold f_law_1887
  simp only [h1, h2, Option.bind_some]
  exact lawI (w := f_L_bestClass σ a1 a2) (fm := fun s => f_X12_bestClass s 493 a1 a2) (pas_WI (fc := fun s => f_X10_bestClass s 0 a1 a2) (k_bestClass a1 a2) (z_bestClass σ 0 a1 a2) hI)
theorem w_1955 (h1 : ms_xld L xs (l5 + 1) = some a1) (h2 : ms_xld L xs (l5 + 2) = some a2) (h3 : ms_xld L xs (l5 + 3) = some a3) (h4 : ms_xld L xs (l5 + 4) = some a4) (h5 : ms_xld L xs (l5 + 5) = some a5) (hI : IV σ) : ∃ σ', IV σ' ∧ f_law_1955 L xs k σ l5 = k σ' l5 := by
  unfold f_law_1955
  simp only [h1, Option.bind_some]
  exact lawD (w := f_L_meanMarks σ a1) (fm := fun s => f_X12_meanMarks s 493 a1) (pas_WD (fc := fun s => f_X10_meanMarks s 0 a1) (k_meanMarks a1) (z_meanMarks σ 0 a1) hI)
theorem w_2032 (h1 : ms_xld L xs (l5 + 1) = some a1) (h2 : ms_xld L xs (l5 + 2) = some a2) (h3 : ms_xld L xs (l5 + 3) = some a3) (h4 : ms_xld L xs (l5 + 4) = some a4) (h5 : ms_xld L xs (l5 + 5) = some a5) (hI : IV σ) : ∃ σ', IV σ' ∧ f_law_2032 L xs k σ l5 = k σ' l5 := by
  unfold f_law_2032
  simp only [h1, Option.bind_some]
  exact lawF (fun b h _ => f2d_cmp b h) (w := f_L_shortness σ a1) (fm := fun s => f_X12_shortness s 493 a1) (pas_WF (fc := fun s => f_X10_shortness s 0 a1) (k_shortness a1) (z_shortness σ 0 a1) (fun v s h => f2d_n (zf_shortness σ 0 a1 _ h v rfl)) hI)
theorem w_2110 (h1 : ms_xld L xs (l5 + 1) = some a1) (h2 : ms_xld L xs (l5 + 2) = some a2) (h3 : ms_xld L xs (l5 + 3) = some a3) (h4 : ms_xld L xs (l5 + 4) = some a4) (h5 : ms_xld L xs (l5 + 5) = some a5) (hI : IV σ) : ∃ σ', IV σ' ∧ f_law_2110 L xs k σ l5 = k σ' l5 := by
  unfold f_law_2110
  simp only [h1, Option.bind_some]
  exact lawI (w := f_L_hand σ a1) (fm := fun s => f_X12_hand s 493 a1) (pas_WI (fc := fun s => f_X10_hand s 0 a1) (k_hand a1) (z_hand σ 0 a1) hI)
theorem w_2166 (h1 : ms_xld L xs (l5 + 1) = some a1) (h2 : ms_xld L xs (l5 + 2) = some a2) (h3 : ms_xld L xs (l5 + 3) = some a3) (h4 : ms_xld L xs (l5 + 4) = some a4) (h5 : ms_xld L xs (l5 + 5) = some a5) (hI : IV σ) : ∃ σ', IV σ' ∧ f_law_2166 L xs k σ l5 = k σ' l5 := by
  unfold f_law_2166
  simp only [h1, h2, h3, Option.bind_some]
  exact lawI (w := f_L_type σ a1 a2 a3) (fm := fun s => f_X12_type s 493 a1 a2 a3) (pas_WT (fc := fun s => f_X10_type s 0 a1 a2 a3) (k_type a1 a2 a3) (z_type (Nat.le_refl 1) σ 0 a1 a2 a3) hI)
theorem w_2246 (h1 : ms_xld L xs (l5 + 1) = some a1) (h2 : ms_xld L xs (l5 + 2) = some a2) (h3 : ms_xld L xs (l5 + 3) = some a3) (h4 : ms_xld L xs (l5 + 4) = some a4) (h5 : ms_xld L xs (l5 + 5) = some a5) (hI : IV σ) : ∃ σ', IV σ' ∧ f_law_2246 L xs k σ l5 = k σ' l5 := by
  unfold f_law_2246
  simp only [h1, h2, h3, Option.bind_some]
  exact lawI (w := f_L_erase σ a1 a2 a3) (fm := fun s => f_X12_erase s 493 a1 a2 a3) (pas_WT (fc := fun s => f_X10_erase s 0 a1 a2 a3) (k_erase a1 a2 a3) (z_erase (Nat.le_refl 1) σ 0 a1 a2 a3) hI)
theorem w_2326 (h1 : ms_xld L xs (l5 + 1) = some a1) (h2 : ms_xld L xs (l5 + 2) = some a2) (h3 : ms_xld L xs (l5 + 3) = some a3) (h4 : ms_xld L xs (l5 + 4) = some a4) (h5 : ms_xld L xs (l5 + 5) = some a5) (hI : IV σ) : ∃ σ', IV σ' ∧ f_law_2326 L xs k σ l5 = k σ' l5 := by
  unfold f_law_2326
  simp only [h1, h2, h3, Option.bind_some]
  exact lawI (w := f_L_stack σ a1 a2 a3) (fm := fun s => f_X12_stack s 493 a1 a2 a3) (pas_WT (fc := fun s => f_X10_stack s 0 a1 a2 a3) (k_stack a1 a2 a3) (z_stack (Nat.le_refl 1) σ 0 a1 a2 a3) hI)
theorem w_2406 (h1 : ms_xld L xs (l5 + 1) = some a1) (h2 : ms_xld L xs (l5 + 2) = some a2) (h3 : ms_xld L xs (l5 + 3) = some a3) (h4 : ms_xld L xs (l5 + 4) = some a4) (h5 : ms_xld L xs (l5 + 5) = some a5) (hI : IV σ) : ∃ σ', IV σ' ∧ f_law_2406 L xs k σ l5 = k σ' l5 := by
  unfold f_law_2406
  simp only [h1, h2, h3, Option.bind_some]
  exact lawI (w := f_L_strip σ a1 a2 a3) (fm := fun s => f_X12_strip s 493 a1 a2 a3) (pas_WT (fc := fun s => f_X10_strip s 0 a1 a2 a3) (k_strip a1 a2 a3) (z_strip (Nat.le_refl 1) σ 0 a1 a2 a3) hI)
theorem w_2486 (h1 : ms_xld L xs (l5 + 1) = some a1) (h2 : ms_xld L xs (l5 + 2) = some a2) (h3 : ms_xld L xs (l5 + 3) = some a3) (h4 : ms_xld L xs (l5 + 4) = some a4) (h5 : ms_xld L xs (l5 + 5) = some a5) (hI : IV σ) : ∃ σ', IV σ' ∧ f_law_2486 L xs k σ l5 = k σ' l5 := by
  unfold f_law_2486
  simp only [h1, Option.bind_some]
  exact lawI (w := f_L_decompose σ a1) (fm := fun s => f_X12_decompose s 493 a1) (pas_WI (fc := fun s => f_X10_decompose s 0 a1) (k_decompose a1) (z_decompose σ 0 a1) hI)
theorem w_2542 (h1 : ms_xld L xs (l5 + 1) = some a1) (h2 : ms_xld L xs (l5 + 2) = some a2) (h3 : ms_xld L xs (l5 + 3) = some a3) (h4 : ms_xld L xs (l5 + 4) = some a4) (h5 : ms_xld L xs (l5 + 5) = some a5) (hI : IV σ) : ∃ σ', IV σ' ∧ f_law_2542 L xs k σ l5 = k σ' l5 := by
  unfold f_law_2542
  simp only [h1, Option.bind_some]
  exact lawI (w := f_L_compose σ a1) (fm := fun s => f_X12_compose s 493 a1) (pas_WI (fc := fun s => f_X10_compose s 0 a1) (k_compose a1) (z_compose σ 0 a1) hI)
theorem w_2598 (h1 : ms_xld L xs (l5 + 1) = some a1) (h2 : ms_xld L xs (l5 + 2) = some a2) (h3 : ms_xld L xs (l5 + 3) = some a3) (h4 : ms_xld L xs (l5 + 4) = some a4) (h5 : ms_xld L xs (l5 + 5) = some a5) (hI : IV σ) : ∃ σ', IV σ' ∧ f_law_2598 L xs k σ l5 = k σ' l5 := by
  unfold f_law_2598
  simp only [h1, h2, Option.bind_some]
  exact lawI (w := f_L_join σ a1 a2) (fm := fun s => f_X12_join s 493 a1 a2) (pas_WI (fc := fun s => f_X10_join s 0 a1 a2) (k_join a1 a2) (z_join σ 0 a1 a2) hI)
theorem w_2666 (h1 : ms_xld L xs (l5 + 1) = some a1) (h2 : ms_xld L xs (l5 + 2) = some a2) (h3 : ms_xld L xs (l5 + 3) = some a3) (h4 : ms_xld L xs (l5 + 4) = some a4) (h5 : ms_xld L xs (l5 + 5) = some a5) (hI : IV σ) : ∃ σ', IV σ' ∧ f_law_2666 L xs k σ l5 = k σ' l5 := by
  unfold f_law_2666
  simp only [h1, h2, Option.bind_some]
  exact lawI (w := f_L_setClass σ a1 a2) (fm := fun s => f_X12_setClass s 493 a1 a2) (pas_WT (fc := fun s => f_X10_setClass s 0 a1 a2) (k_setClass a1 a2) (z_setClass (Nat.le_refl 1) σ 0 a1 a2) hI)
theorem w_2734 (h1 : ms_xld L xs (l5 + 1) = some a1) (h2 : ms_xld L xs (l5 + 2) = some a2) (h3 : ms_xld L xs (l5 + 3) = some a3) (h4 : ms_xld L xs (l5 + 4) = some a4) (h5 : ms_xld L xs (l5 + 5) = some a5) (hI : IV σ) : ∃ σ', IV σ' ∧ f_law_2734 L xs k σ l5 = k σ' l5 := by
  unfold f_law_2734
  simp only [h1, h2, Option.bind_some]
  by_cases hb : a2 = 0
  · simp only [if_pos hb]
    exact lawI (w := f_L_setSpare σ a1 0) (fm := fun s => f_X12_setSpare s 493 a1 0) (pas_WT (fc := fun s => f_X10_setSpare s 0 a1 0) (k_setSpare a1 False) (z_setSpare (Nat.le_refl 1) σ 0 a1 0) hI)
  · simp only [if_neg hb]
    exact lawI (w := f_L_setSpare σ a1 1) (fm := fun s => f_X12_setSpare s 493 a1 1) (pas_WT (fc := fun s => f_X10_setSpare s 0 a1 1) (k_setSpare a1 True) (z_setSpare (Nat.le_refl 1) σ 0 a1 1) hI)
theorem w_2818 (h1 : ms_xld L xs (l5 + 1) = some a1) (h2 : ms_xld L xs (l5 + 2) = some a2) (h3 : ms_xld L xs (l5 + 3) = some a3) (h4 : ms_xld L xs (l5 + 4) = some a4) (h5 : ms_xld L xs (l5 + 5) = some a5) (hI : IV σ) : ∃ σ', IV σ' ∧ f_law_2818 L xs k σ l5 = k σ' l5 := by
  unfold f_law_2818
  simp only [h1, h2, Option.bind_some]
  exact lawI (w := f_L_format σ a1 a2) (fm := fun s => f_X12_format s 493 a1 a2) (pas_WI (fc := fun s => f_X10_format s 0 a1 a2) (k_format a1 a2) (z_format σ 0 a1 a2) hI)
theorem w_2886 (h1 : ms_xld L xs (l5 + 1) = some a1) (h2 : ms_xld L xs (l5 + 2) = some a2) (h3 : ms_xld L xs (l5 + 3) = some a3) (h4 : ms_xld L xs (l5 + 4) = some a4) (h5 : ms_xld L xs (l5 + 5) = some a5) (hI : IV σ) : ∃ σ', IV σ' ∧ f_law_2886 L xs k σ l5 = k σ' l5 := by
  unfold f_law_2886
  simp only [h1, Option.bind_some]
  exact lawG (fc := fun s => f_X10_formattedByte s 0 a1) (fm := fun s => f_X12_formattedByte s 493 a1) (k_formattedByte a1) hI
theorem w_2911 (h1 : ms_xld L xs (l5 + 1) = some a1) (h2 : ms_xld L xs (l5 + 2) = some a2) (h3 : ms_xld L xs (l5 + 3) = some a3) (h4 : ms_xld L xs (l5 + 4) = some a4) (h5 : ms_xld L xs (l5 + 5) = some a5) (hI : IV σ) : ∃ σ', IV σ' ∧ f_law_2911 L xs k σ l5 = k σ' l5 := by
  unfold f_law_2911
  exact lawG (fc := fun s => f_X10_undoCount s 0) (fm := fun s => f_X12_undoCount s 493) (k_undoCount) hI
theorem w_2924 (h1 : ms_xld L xs (l5 + 1) = some a1) (h2 : ms_xld L xs (l5 + 2) = some a2) (h3 : ms_xld L xs (l5 + 3) = some a3) (h4 : ms_xld L xs (l5 + 4) = some a4) (h5 : ms_xld L xs (l5 + 5) = some a5) (hI : IV σ) : ∃ σ', IV σ' ∧ f_law_2924 L xs k σ l5 = k σ' l5 := by
  unfold f_law_2924
  exact lawE (fc := fun s => f_X10_undo s 0) (fm := fun s => f_X12_undo s 493) (k_undo) hI
theorem w_2937 (h1 : ms_xld L xs (l5 + 1) = some a1) (h2 : ms_xld L xs (l5 + 2) = some a2) (h3 : ms_xld L xs (l5 + 3) = some a3) (h4 : ms_xld L xs (l5 + 4) = some a4) (h5 : ms_xld L xs (l5 + 5) = some a5) (hI : IV σ) : ∃ σ', IV σ' ∧ f_law_2937 L xs k σ l5 = k σ' l5 := by
  unfold f_law_2937
  obtain ⟨σ1, e1, hf⟩ := k_saveSnapshot hI
  obtain ⟨σ2, g1, g2⟩ := hf σ1.2
  exact ⟨ph σ1.2 σ2, g2.ph, by rw [e1, Option.bind_some, show f_X12_saveSnapshot σ1 493 = _ from g1, Option.bind_some]⟩
theorem w_2948 (h1 : ms_xld L xs (l5 + 1) = some a1) (h2 : ms_xld L xs (l5 + 2) = some a2) (h3 : ms_xld L xs (l5 + 3) = some a3) (h4 : ms_xld L xs (l5 + 4) = some a4) (h5 : ms_xld L xs (l5 + 5) = some a5) (hI : IV σ) : ∃ σ', IV σ' ∧ f_law_2948 L xs k σ l5 = k σ' l5 := by
  unfold f_law_2948
  exact lawE (fc := fun s => f_X10_restoreSnapshot s 0) (fm := fun s => f_X12_restoreSnapshot s 493) (k_restoreSnapshot) hI
theorem w_2961 (h1 : ms_xld L xs (l5 + 1) = some a1) (h2 : ms_xld L xs (l5 + 2) = some a2) (h3 : ms_xld L xs (l5 + 3) = some a3) (h4 : ms_xld L xs (l5 + 4) = some a4) (h5 : ms_xld L xs (l5 + 5) = some a5) (hI : IV σ) : ∃ σ', IV σ' ∧ f_law_2961 L xs k σ l5 = k σ' l5 := by
  unfold f_law_2961
  simp only [h1, Option.bind_some]
  exact lawI (w := f_L_query σ a1) (fm := fun s => f_X12_query s 493 a1) (pas_query hI a1)
def f_law_sw (L : Nat) (xs : Nat → Int32) (k : MsSt → Int32 → Option (Int32 × MsSt)) (σ : MsSt) (l5 v : Int32) : Option (Int32 × MsSt) := if (v &&& 63) = 0 then f_law_236 L xs k σ l5 else if (v &&& 63) = 1 then f_law_309 L xs k σ l5 else if (v &&& 63) = 2 then f_law_365 L xs k σ l5 else if (v &&& 63) = 3 then f_law_378 L xs k σ l5 else if (v &&& 63) = 4 then f_law_434 L xs k σ l5 else if (v &&& 63) = 5 then f_law_502 L xs k σ l5 else if (v &&& 63) = 6 then f_law_570 L xs k σ l5 else if (v &&& 63) = 7 then f_law_638 L xs k σ l5 else if (v &&& 63) = 8 then f_law_706 L xs k σ l5 else if (v &&& 63) = 9 then f_law_762 L xs k σ l5 else if (v &&& 63) = 10 then f_law_818 L xs k σ l5 else if (v &&& 63) = 11 then f_law_886 L xs k σ l5 else if (v &&& 63) = 12 then f_law_966 L xs k σ l5 else if (v &&& 63) = 13 then f_law_1034 L xs k σ l5 else if (v &&& 63) = 14 then f_law_1102 L xs k σ l5 else if (v &&& 63) = 15 then f_law_1182 L xs k σ l5 else if (v &&& 63) = 16 then f_law_1274 L xs k σ l5 else if (v &&& 63) = 17 then f_law_1341 L xs k σ l5 else if (v &&& 63) = 18 then f_law_1416 L xs k σ l5 else if (v &&& 63) = 19 then f_law_1472 L xs k σ l5 else if (v &&& 63) = 20 then f_law_1540 L xs k σ l5 else if (v &&& 63) = 21 then f_law_1615 L xs k σ l5 else if (v &&& 63) = 22 then f_law_1711 L xs k σ l5 else if (v &&& 63) = 23 then f_law_1819 L xs k σ l5 else if (v &&& 63) = 24 then f_law_1887 L xs k σ l5 else if (v &&& 63) = 25 then f_law_1955 L xs k σ l5 else if (v &&& 63) = 26 then f_law_2032 L xs k σ l5 else if (v &&& 63) = 27 then f_law_2110 L xs k σ l5 else if (v &&& 63) = 28 then f_law_2166 L xs k σ l5 else if (v &&& 63) = 29 then f_law_2246 L xs k σ l5 else if (v &&& 63) = 30 then f_law_2326 L xs k σ l5 else if (v &&& 63) = 31 then f_law_2406 L xs k σ l5 else if (v &&& 63) = 32 then f_law_2486 L xs k σ l5 else if (v &&& 63) = 33 then f_law_2542 L xs k σ l5 else if (v &&& 63) = 34 then f_law_2598 L xs k σ l5 else if (v &&& 63) = 35 then f_law_2666 L xs k σ l5 else if (v &&& 63) = 36 then f_law_2734 L xs k σ l5 else if (v &&& 63) = 37 then f_law_2818 L xs k σ l5 else if (v &&& 63) = 38 then f_law_2886 L xs k σ l5 else if (v &&& 63) = 39 then f_law_2911 L xs k σ l5 else if (v &&& 63) = 40 then f_law_2924 L xs k σ l5 else if (v &&& 63) = 41 then f_law_2937 L xs k σ l5 else if (v &&& 63) = 42 then f_law_2948 L xs k σ l5 else if (v &&& 63) = 43 then f_law_2961 L xs k σ l5 else k σ l5
theorem w_sw {v : Int32} (h1 : ms_xld L xs (l5 + 1) = some a1) (h2 : ms_xld L xs (l5 + 2) = some a2) (h3 : ms_xld L xs (l5 + 3) = some a3) (h4 : ms_xld L xs (l5 + 4) = some a4) (h5 : ms_xld L xs (l5 + 5) = some a5) (hI : IV σ) : ∃ σ', IV σ' ∧ f_law_sw L xs k σ l5 v = k σ' l5 := by
  unfold f_law_sw
  by_cases c0 : (v &&& 63) = 0
  · rw [if_pos c0]
    exact w_236 h1 h2 h3 h4 h5 hI
  rw [if_neg c0]
  by_cases c1 : (v &&& 63) = 1
  · rw [if_pos c1]
    exact w_309 h1 h2 h3 h4 h5 hI
  rw [if_neg c1]
  by_cases c2 : (v &&& 63) = 2
  · rw [if_pos c2]
    exact w_365 h1 h2 h3 h4 h5 hI
  rw [if_neg c2]
  by_cases c3 : (v &&& 63) = 3
  · rw [if_pos c3]
    exact w_378 h1 h2 h3 h4 h5 hI
  rw [if_neg c3]
  by_cases c4 : (v &&& 63) = 4
  · rw [if_pos c4]
    exact w_434 h1 h2 h3 h4 h5 hI
  rw [if_neg c4]
  by_cases c5 : (v &&& 63) = 5
  · rw [if_pos c5]
    exact w_502 h1 h2 h3 h4 h5 hI
  rw [if_neg c5]
  by_cases c6 : (v &&& 63) = 6
  · rw [if_pos c6]
    exact w_570 h1 h2 h3 h4 h5 hI
  rw [if_neg c6]
  by_cases c7 : (v &&& 63) = 7
  · rw [if_pos c7]
    exact w_638 h1 h2 h3 h4 h5 hI
  rw [if_neg c7]
  by_cases c8 : (v &&& 63) = 8
  · rw [if_pos c8]
    exact w_706 h1 h2 h3 h4 h5 hI
  rw [if_neg c8]
  by_cases c9 : (v &&& 63) = 9
  · rw [if_pos c9]
    exact w_762 h1 h2 h3 h4 h5 hI
  rw [if_neg c9]
  by_cases c10 : (v &&& 63) = 10
  · rw [if_pos c10]
    exact w_818 h1 h2 h3 h4 h5 hI
  rw [if_neg c10]
  by_cases c11 : (v &&& 63) = 11
  · rw [if_pos c11]
    exact w_886 h1 h2 h3 h4 h5 hI
  rw [if_neg c11]
  by_cases c12 : (v &&& 63) = 12
  · rw [if_pos c12]
    exact w_966 h1 h2 h3 h4 h5 hI
  rw [if_neg c12]
  by_cases c13 : (v &&& 63) = 13
  · rw [if_pos c13]
    exact w_1034 h1 h2 h3 h4 h5 hI
  rw [if_neg c13]
  by_cases c14 : (v &&& 63) = 14
  · rw [if_pos c14]
    exact w_1102 h1 h2 h3 h4 h5 hI
  rw [if_neg c14]
  by_cases c15 : (v &&& 63) = 15
  · rw [if_pos c15]
    exact w_1182 h1 h2 h3 h4 h5 hI
  rw [if_neg c15]
  by_cases c16 : (v &&& 63) = 16
  · rw [if_pos c16]
    exact w_1274 h1 h2 h3 h4 h5 hI
  rw [if_neg c16]
  by_cases c17 : (v &&& 63) = 17
  · rw [if_pos c17]
    exact w_1341 h1 h2 h3 h4 h5 hI
  rw [if_neg c17]
  by_cases c18 : (v &&& 63) = 18
  · rw [if_pos c18]
    exact w_1416 h1 h2 h3 h4 h5 hI
  rw [if_neg c18]
  by_cases c19 : (v &&& 63) = 19
  · rw [if_pos c19]
    exact w_1472 h1 h2 h3 h4 h5 hI
  rw [if_neg c19]
  by_cases c20 : (v &&& 63) = 20
  · rw [if_pos c20]
    exact w_1540 h1 h2 h3 h4 h5 hI
  rw [if_neg c20]
  by_cases c21 : (v &&& 63) = 21
  · rw [if_pos c21]
    exact w_1615 h1 h2 h3 h4 h5 hI
  rw [if_neg c21]
  by_cases c22 : (v &&& 63) = 22
  · rw [if_pos c22]
    exact w_1711 h1 h2 h3 h4 h5 hI
  rw [if_neg c22]
  by_cases c23 : (v &&& 63) = 23
  · rw [if_pos c23]
    exact w_1819 h1 h2 h3 h4 h5 hI
  rw [if_neg c23]
  by_cases c24 : (v &&& 63) = 24
  · rw [if_pos c24]
    exact w_1887 h1 h2 h3 h4 h5 hI
  rw [if_neg c24]
  by_cases c25 : (v &&& 63) = 25
  · rw [if_pos c25]
    exact w_1955 h1 h2 h3 h4 h5 hI
  rw [if_neg c25]
  by_cases c26 : (v &&& 63) = 26
  · rw [if_pos c26]
    exact w_2032 h1 h2 h3 h4 h5 hI
  rw [if_neg c26]
  by_cases c27 : (v &&& 63) = 27
  · rw [if_pos c27]
    exact w_2110 h1 h2 h3 h4 h5 hI
  rw [if_neg c27]
  by_cases c28 : (v &&& 63) = 28
  · rw [if_pos c28]
    exact w_2166 h1 h2 h3 h4 h5 hI
  rw [if_neg c28]
  by_cases c29 : (v &&& 63) = 29
  · rw [if_pos c29]
    exact w_2246 h1 h2 h3 h4 h5 hI
  rw [if_neg c29]
  by_cases c30 : (v &&& 63) = 30
  · rw [if_pos c30]
    exact w_2326 h1 h2 h3 h4 h5 hI
  rw [if_neg c30]
  by_cases c31 : (v &&& 63) = 31
  · rw [if_pos c31]
    exact w_2406 h1 h2 h3 h4 h5 hI
  rw [if_neg c31]
  by_cases c32 : (v &&& 63) = 32
  · rw [if_pos c32]
    exact w_2486 h1 h2 h3 h4 h5 hI
  rw [if_neg c32]
  by_cases c33 : (v &&& 63) = 33
  · rw [if_pos c33]
    exact w_2542 h1 h2 h3 h4 h5 hI
  rw [if_neg c33]
  by_cases c34 : (v &&& 63) = 34
  · rw [if_pos c34]
    exact w_2598 h1 h2 h3 h4 h5 hI
  rw [if_neg c34]
  by_cases c35 : (v &&& 63) = 35
  · rw [if_pos c35]
    exact w_2666 h1 h2 h3 h4 h5 hI
  rw [if_neg c35]
  by_cases c36 : (v &&& 63) = 36
  · rw [if_pos c36]
    exact w_2734 h1 h2 h3 h4 h5 hI
  rw [if_neg c36]
  by_cases c37 : (v &&& 63) = 37
  · rw [if_pos c37]
    exact w_2818 h1 h2 h3 h4 h5 hI
  rw [if_neg c37]
  by_cases c38 : (v &&& 63) = 38
  · rw [if_pos c38]
    exact w_2886 h1 h2 h3 h4 h5 hI
  rw [if_neg c38]
  by_cases c39 : (v &&& 63) = 39
  · rw [if_pos c39]
    exact w_2911 h1 h2 h3 h4 h5 hI
  rw [if_neg c39]
  by_cases c40 : (v &&& 63) = 40
  · rw [if_pos c40]
    exact w_2924 h1 h2 h3 h4 h5 hI
  rw [if_neg c40]
  by_cases c41 : (v &&& 63) = 41
  · rw [if_pos c41]
    exact w_2937 h1 h2 h3 h4 h5 hI
  rw [if_neg c41]
  by_cases c42 : (v &&& 63) = 42
  · rw [if_pos c42]
    exact w_2948 h1 h2 h3 h4 h5 hI
  rw [if_neg c42]
  by_cases c43 : (v &&& 63) = 43
  · rw [if_pos c43]
    exact w_2961 h1 h2 h3 h4 h5 hI
  rw [if_neg c43]
  exact ⟨σ, hI, rfl⟩
theorem xld_in {i j : Nat} (hL : L ≤ 3072) (h : i + 6 ≤ L) (hj : j < 6) : ms_xld L xs (iZ (i : Int) + iZ (j : Int)) = some (xs (i + j)) := by
  have h1 : iZ (i : Int) + iZ (j : Int) = iZ ((i + j : Nat) : Int) := by
    rw [iZ_add]
    congr 1
  rw [h1]
  unfold ms_xld
  have h2 : (iZ ((i + j : Nat) : Int)).toNatClampNeg = i + j := by
    rw [iZ_clamp (by omega) (by omega)]
    omega
  rw [h2, if_neg]
  rintro (q | q)
  · rw [Int32.lt_iff_toInt_lt, iZ_toInt (by omega) (by omega)] at q
    have : (0 : Int32).toInt = 0 := by decide +kernel
    omega
  · omega
theorem law_true (hL : L ≤ 3072) : ∀ (n i : Nat) (σ : MsSt), IV σ → i ≤ L → L < i + 6 * n → ∃ σ', f_law_28 L xs n σ (iZ (i : Int)) = some (1, σ') := by
  intro n
  induction n with
  | zero => intro i σ _ h1 h2; exact absurd h2 (by omega)
  | succ n ih =>
    intro i σ hI h1 h2
    show ∃ σ', (if ((Int32.ofNat L) - 6) < iZ (i : Int) then some (1, σ) else (ms_xld L xs (iZ (i : Int))).bind fun v => f_law_sw L xs (fun s x => f_law_28 L xs n s (x + 6)) σ (iZ (i : Int)) v) = some (1, σ')
    have e0 : (Int32.ofNat L) - 6 = iZ ((L : Int) - 6) := by
      rw [iZ_nat, ← iZ_sub]
      rfl
    by_cases hc : i + 6 ≤ L
    · rw [iltF (a := (L : Int) - 6) (b := (i : Int)) e0 rfl (by omega) (by omega) (by omega)]
      have x0 : ms_xld L xs (iZ (i : Int)) = some (xs i) := by
        have := xld_in (xs := xs) (j := 0) hL hc (by omega)
        rwa [iZ_add, show (i : Int) + ((0 : Nat) : Int) = (i : Int) by omega] at this
      rw [x0, Option.bind_some]
      have y1 : ms_xld L xs (iZ (i : Int) + 1) = some (xs (i + 1)) := xld_in (j := 1) hL hc (by omega)
      have y2 : ms_xld L xs (iZ (i : Int) + 2) = some (xs (i + 2)) := xld_in (j := 2) hL hc (by omega)
      have y3 : ms_xld L xs (iZ (i : Int) + 3) = some (xs (i + 3)) := xld_in (j := 3) hL hc (by omega)
      have y4 : ms_xld L xs (iZ (i : Int) + 4) = some (xs (i + 4)) := xld_in (j := 4) hL hc (by omega)
      have y5 : ms_xld L xs (iZ (i : Int) + 5) = some (xs (i + 5)) := xld_in (j := 5) hL hc (by omega)
      obtain ⟨σ1, hI1, e1⟩ := w_sw (k := fun s x => f_law_28 L xs n s (x + 6)) (v := xs i) y1 y2 y3 y4 y5 hI
      rw [e1]
      have e2 : iZ (i : Int) + 6 = iZ ((i + 6 : Nat) : Int) := by
        rw [show (6 : Int32) = iZ 6 from rfl, iZ_add]
        congr 1
      show ∃ σ', f_law_28 L xs n σ1 (iZ (i : Int) + 6) = some (1, σ')
      rw [e2]
      exact ih (i + 6) σ1 hI1 hc (by omega)
    · rw [iltT (a := (L : Int) - 6) (b := (i : Int)) e0 rfl (by omega) (by omega) (by omega)]
      exact ⟨σ, rfl⟩
end Cs
