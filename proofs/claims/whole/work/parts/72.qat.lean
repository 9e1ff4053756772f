/-! at, unlike, clusterOf -/
section At
variable {σ : MsSt} {w : Nat → Nat}
def rowL (w : Nat → Nat) (l : Nat) (t : Int) : List Nat := if t = 0 then ln w l else if t = 1 then dF w (ln w l) else (cmp w (spN w) (w 0) (dF w (ln w l))).1
theorem rowL_ok (h : WF w) {l : Nat} (hl : l < 4) (t : Int) : (rowL w l t).length ≤ 360 ∧ ∀ x ∈ rowL w l t, x < w 0 := by
  obtain ⟨n1, n2, n3, n4⟩ := lnok h hl
  obtain ⟨c1, c2, c3⟩ := cmp_len n1 (spN w)
  obtain ⟨d1, d2⟩ := h.line hl
  unfold rowL
  by_cases q : t = 0
  · rw [if_pos q]
    exact ⟨by omega, d1⟩
  · rw [if_neg q]
    by_cases q2 : t = 1
    · rw [if_pos q2]
      exact ⟨n2, fun x hx => (n1 x hx).1⟩
    · rw [if_neg q2]
      exact ⟨by omega, c3⟩
theorem c_rowOf (h : InvS σ w) {l : Nat} (hl : l < 4) {t : Int} (t1 : 0 ≤ t) (t2 : t ≤ 2) : ∃ r N s4, f_X10_rowOf σ 0 (iZ (l : Int)) (iZ t) = some (r, s4) ∧ Rw cN s4 r N (rowL w l t) ∧ Fr FScr σ s4 := by
  obtain ⟨s4, a1, ⟨a2, a3, a4, a5⟩, a6⟩ := c_deriveL h (F := 441) (Or.inl rfl) hl
  have hF4 := fm_scr (F := 441) (Or.inl rfl) a6
  obtain ⟨r0, r1, r2, r3, r4, r5, r6⟩ := fm_refs (F := 441) (Or.inl rfl)
  have ht : t = 0 ∨ t = 1 ∨ t = 2 := by omega
  unfold f_X10_rowOf
  rw [x_rf1, lineAt_s (a := 3) (Or.inl rfl) hl, Option.bind_some, x_rf6, a1]
  rcases ht with rfl | rfl | rfl
  · exact ⟨_, _, _, if_pos rfl, h.2.1.2.2.2 l hl, Fr.refl _ _⟩
  · refine ⟨441 + 3, _, s4, ?_, a3.1, hF4⟩
    rw [if_neg (by decide), Option.bind_some, if_pos (by decide), r2]
  · refine ⟨441 + 5, _, s4, ?_, a4, hF4⟩
    rw [if_neg (by decide), Option.bind_some, if_neg (by decide), r3]
/-- the reference's side: the forms -/
theorem m_formsP (h : InvS σ w) {l : Nat} (hl : l < 4) : ∃ s4, f_X12_layForms σ 493 (iZ (l : Int)) = some s4 ∧ Mw s4 494 w ∧ LayS s4 (dF w (ln w l)) (sw w (pn w (ln w l)) : Int) ∧ CmS s4 (cmp w (spN w) (w 0) (dF w (ln w l))) ∧ ms_i s4 493 7 = ms_i σ 493 7 ∧ Fr FScr σ s4 := by
  obtain ⟨n1, n2, n3, n4⟩ := lnok h.1 hl
  obtain ⟨s3, b1, b2, b3⟩ := m_layDecomposed h.1 hl h.2.2
  have h3 : Mw s3 494 w := h.2.2.fr b3 (by unfold FLay; intros; omega)
  obtain ⟨s4, c1, c2, c3⟩ := m_layComposed h.1.1 rfl h3 b2 (fun y hy => ⟨(n1 y hy).1, (n1 y hy).2.2⟩) n2
  refine ⟨s4, ?_, h3.fr c3 (by unfold FCmp; intros; omega), ⟨b2.1.fr c3 (by unfold FCmp; intros; omega), (c3.1 _ _ (by unfold FCmp; omega)).trans b2.2.1, (c3.1 _ _ (by unfold FCmp; omega)).trans b2.2.2⟩, c2, (c3.1 _ _ (by unfold FCmp; omega)).trans (b3.1 _ _ (by unfold FLay; omega)), ?_⟩
  · unfold f_X12_layForms
    rw [b1, Option.bind_some, c1]
    rfl
  · exact (b3.mono fun a k q => by unfold FLay at q; unfold FScr; omega).trans (cmp_scr c3)
section Mf
variable {l : Nat} {c : Int}
theorem m_manyIn (h : Mw σ 494 w) (hL : LayS σ (dF w (ln w l)) c) (hC : CmS σ (cmp w (spN w) (w 0) (dF w (ln w l)))) (hl : l < 4) {t : Int} (t1 : 0 ≤ t) (t2 : t ≤ 2) : f_X12_manyIn σ 493 (iZ (l : Int)) (iZ t) = some (iZ ((rowL w l t).length : Int)) := by
  have ht : t = 0 ∨ t = 1 ∨ t = 2 := by omega
  unfold f_X12_manyIn
  rcases ht with rfl | rfl | rfl
  · have e : (3 : Int32) + iZ (l : Int) = iZ (3 + (l : Int)) := by rw [i3, iZ_add]
    have er : (rowL w l 0).length = w (3 + l) := ln_length w l
    rw [if_pos (by decide), e, m_rf0, mw_get h (Or.inl rfl) (z := 3 + (l : Int)) (k := 3 + l) (by omega) (by omega), er]
    rfl
  · rw [if_neg (by decide), if_pos (by decide), hL.2.1]
    rfl
  · rw [if_neg (by decide), if_neg (by decide), hC.2.2]
    rfl
theorem m_signIn (h : Mw σ 494 w) (hL : LayS σ (dF w (ln w l)) c) (hC : CmS σ (cmp w (spN w) (w 0) (dF w (ln w l)))) (hW : WF w) (hl : l < 4) {t : Int} (t1 : 0 ≤ t) (t2 : t ≤ 2) {p : Nat} (hp : p < (rowL w l t).length) : f_X12_signIn σ 493 (iZ (l : Int)) (iZ t) (iZ (p : Int)) = some (iZ ((rowL w l t)[p] : Int)) := by
  have hr := (rowL_ok hW hl t).1
  have ht : t = 0 ∨ t = 1 ∨ t = 2 := by omega
  unfold f_X12_signIn
  rcases ht with rfl | rfl | rfl
  · have hp' : p < (ln w l).length := hp
    have hl60 := (hW.line hl).2
    have er : (rowL w l 0)[p] = w (7 + 60 * l + p) := ln_get w l p hp
    rw [if_pos (by decide), spot_s, Option.bind_some, m_rf0, mw_get h (Or.inl rfl) (z := 7 + 60 * (l : Int) + (p : Int)) (k := 7 + 60 * l + p) (by omega) (by omega)]
    exact congrArg (fun y : Nat => some (iZ (y : Int))) er.symm
  · have e := ald_iZ (σ := σ) (a := 501) (k := p) (by rw [m_ln.2.2.2.2.2.2.2.1]; omega) (by rw [m_ln.2.2.2.2.2.2.2.1]; omega)
    rw [hL.1 p hp] at e
    rw [if_neg (by decide), if_pos (by decide), m_rf10, e]
    rfl
  · have e := ald_iZ (σ := σ) (a := 502) (k := p) (by rw [m_ln.2.2.2.2.2.2.2.2.1]; omega) (by rw [m_ln.2.2.2.2.2.2.2.2.1]; omega)
    rw [hC.1 p hp] at e
    rw [if_neg (by decide), if_neg (by decide), m_rf13, e]
    rfl
end Mf
theorem nd2 {σ : MsSt} {k : Int} (k1 : -2147483648 ≤ k) (k2 : k < 2147483648) : f_X10_needIn σ (iZ k) 0 2 = some (if 0 ≤ k ∧ k ≤ 2 then none else some 0) := needIn0 (c := 2) k1 k2 (by omega) (by omega)
theorem nd12 {σ : MsSt} {k : Int} (k1 : -2147483648 ≤ k) (k2 : k < 2147483648) : f_X10_needIn σ (iZ k) 1 2 = some (if 1 ≤ k ∧ k ≤ 2 then none else some 0) := needIn_s (b := 1) (c := 2) k1 k2 (by omega) (by omega) (by omega) (by omega)
theorem rg2 {σ : MsSt} {k : Int} (k1 : -2147483648 ≤ k) (k2 : k < 2147483648) : f_X12_inRange σ (iZ k).toInt64 0 2 = some (b01 (0 ≤ k ∧ k ≤ 2)) := inRi (b := 0) (c := 2) k1 k2 (by omega) (by omega) (by omega) (by omega)
theorem rg12 {σ : MsSt} {k : Int} (k1 : -2147483648 ≤ k) (k2 : k < 2147483648) : f_X12_inRange σ (iZ k).toInt64 1 2 = some (b01 (1 ≤ k ∧ k ≤ 2)) := inRi (b := 1) (c := 2) k1 k2 (by omega) (by omega) (by omega) (by omega)
theorem m_okLine (h : InvS σ w) {l : Nat} (q : 0 ≤ (l : Int) ∧ (l : Int) ≤ (w 1 : Int) - 1) : f_X12_noLine σ 493 (iZ (l : Int)) = some (0, ms_si σ 493 7 0) := by
  have h4 := h.1.2.2.1
  have hn := m_noLine h.2.2 h4 (z := (l : Int)) (by omega) (by omega)
  rw [lnE0 q] at hn
  exact hn
theorem q_at (h : InvS σ w) (x y v : Int32) : ∃ r σ1 b σ2, f_X10_at σ 0 x y v = some (r, σ1) ∧ Fr FScr σ σ1 ∧ f_X12_at σ1 493 x y v = some (b, σ2) ∧ Ok r (ms_i σ2 493 7) b ∧ Fr FScr σ1 σ2 := by
  obtain ⟨z, z1, z2, rfl⟩ := iZ_of x
  obtain ⟨k, k1, k2, rfl⟩ := iZ_of y
  obtain ⟨p, p1, p2, rfl⟩ := iZ_of v
  have h4 := h.1.2.2.1
  by_cases q : 0 ≤ z ∧ z ≤ (w 1 : Int) - 1
  · obtain ⟨l, rfl⟩ : ∃ l : Nat, z = (l : Int) := ⟨z.toNat, by omega⟩
    have hl : l < 4 := by omega
    by_cases qk : 0 ≤ k ∧ k ≤ 2
    · obtain ⟨r, N, s4, a1, a2, a3⟩ := c_rowOf h hl qk.1 qk.2
      have h5 := h.fr a3
      have hlen := rowL_ok h.1 hl k
      have e1 : ms_i s4 r 1 - 1 = iZ (((rowL w l k).length : Int) - 1) := by rw [a2.cnt, i1, iZ_sub]
      obtain ⟨t4, b1, b2, b3, b4, b5, b6⟩ := m_formsP (h5.fr (fr7 s4 0)) hl
      rw [i_si_same] at b5
      have e2 : iZ ((rowL w l k).length : Int) - 1 = iZ (((rowL w l k).length : Int) - 1) := by rw [i1, iZ_sub]
      have F6 := (fr7 s4 0).trans b6
      by_cases qp : 0 ≤ p ∧ p ≤ ((rowL w l k).length : Int) - 1
      · obtain ⟨j, rfl⟩ : ∃ j : Nat, p = (j : Int) := ⟨p.toNat, by omega⟩
        have hj : j < (rowL w l k).length := by omega
        refine ⟨.inl (iZ ((rowL w l k)[j] : Int)), s4, iZ ((rowL w l k)[j] : Int), t4, ?_, a3, ?_, ⟨b5, rfl⟩, F6⟩
        · unfold f_X10_at
          rw [needLine_s h z1 z2, btT q, nd2 k1 k2, btT qk, a1, b2_s, e1, needIn0 p1 p2 (by omega) (by omega), btT qp, get_in a2 hj, Option.bind_some]
          rfl
        · unfold f_X12_at
          rw [m_okLine h5 q, b2_s, if_pos rfl, b1, Option.bind_some, rg2 k1 k2, Option.bind_some, ibT qk, m_manyIn b2 b3 b4 hl qk.1 qk.2, Option.bind_some, e2, inRz p1 p2 (by omega) (by omega), Option.bind_some, ibT qp, m_signIn b2 b3 b4 h.1 hl qk.1 qk.2 hj, Option.bind_some]
      · refine ⟨.inr 0, s4, 0, ms_si t4 493 7 1, ?_, a3, ?_, i_si_same _ _ _ _, F6.trans (fr7 t4 1)⟩
        · unfold f_X10_at
          rw [needLine_s h z1 z2, btT q, nd2 k1 k2, btT qk, a1, b2_s, e1, needIn0 p1 p2 (by omega) (by omega), btF qp]
        · unfold f_X12_at
          rw [m_okLine h5 q, b2_s, if_pos rfl, b1, Option.bind_some, rg2 k1 k2, Option.bind_some, ibT qk, m_manyIn b2 b3 b4 hl qk.1 qk.2, Option.bind_some, e2, inRz p1 p2 (by omega) (by omega), Option.bind_some, ibF qp, raise_s, b2_s]
    · obtain ⟨t4, b1, b2, b3, b4, b5, b6⟩ := m_formsP (h.fr (fr7 σ 0)) hl
      refine ⟨.inr 0, σ, 0, ms_si t4 493 7 1, ?_, Fr.refl _ _, ?_, i_si_same _ _ _ _, ((fr7 σ 0).trans b6).trans (fr7 t4 1)⟩
      · unfold f_X10_at
        rw [needLine_s h z1 z2, btT q, nd2 k1 k2, btF qk]
      · unfold f_X12_at
        rw [m_okLine h q, b2_s, if_pos rfl, b1, Option.bind_some, rg2 k1 k2, Option.bind_some, ibF qk, raise_s, b2_s]
  · refine ⟨.inr 0, σ, 0, ms_si σ 493 7 1, ?_, Fr.refl _ _, ?_, i_si_same _ _ _ _, fr7 σ 1⟩
    · unfold f_X10_at
      rw [needLine_s h z1 z2, btF q]
    · unfold f_X12_at
      rw [m_noLineF h z1 z2 q, b2_s, if_neg (by decide)]
/-- the first place where it is so -/
def fsU (P : Nat → Bool) : Nat → Nat → Int
  | _, 0 => -1
  | i, n + 1 => if P i = true then (i : Int) else fsU P (i + 1) n
theorem fsU_split (P : Nat → Bool) : ∀ (a b i : Nat), fsU P i (a + b) = if fsU P i a = -1 then fsU P (i + a) b else fsU P i a := by
  intro a
  induction a with
  | zero => intro b i; rw [Nat.zero_add]; exact (if_pos rfl).symm
  | succ a ih =>
    intro b i
    have e : a + 1 + b = (a + b) + 1 := by omega
    rw [e]
    show (if P i = true then (i : Int) else fsU P (i + 1) (a + b)) = if (if P i = true then (i : Int) else fsU P (i + 1) a) = -1 then _ else (if P i = true then (i : Int) else fsU P (i + 1) a)
    by_cases q : P i = true
    · rw [if_pos q, if_pos q, if_neg (by omega)]
    · rw [if_neg q, if_neg q, ih b (i + 1)]
      have e2 : i + 1 + a = i + (a + 1) := by omega
      rw [e2]
theorem fsU_lt (P : Nat → Bool) : ∀ (n i : Nat), fsU P i n = -1 ∨ ((i : Int) ≤ fsU P i n ∧ fsU P i n < (i : Int) + n) := by
  intro n
  induction n with
  | zero => intro i; exact Or.inl rfl
  | succ n ih =>
    intro i
    show (if P i = true then (i : Int) else fsU P (i + 1) n) = -1 ∨ ((i : Int) ≤ (if P i = true then (i : Int) else fsU P (i + 1) n) ∧ (if P i = true then (i : Int) else fsU P (i + 1) n) < (i : Int) + ((n + 1 : Nat) : Int))
    by_cases q : P i = true
    · rw [if_pos q]; right; omega
    · rw [if_neg q]
      rcases ih (i + 1) with g | g
      · exact Or.inl g
      · right; omega
theorem fs_loop {β : Type} {f : Nat → Int32 → β} {o : Int → β} {e : β} (P : Nat → Bool) (N : Nat) (hs : ∀ n (i : Nat), i < N → f (n + 1) (iZ (i : Int)) = if P i = true then o (i : Int) else f n (iZ ((i : Int) + 1))) (he : ∀ n, f (n + 1) (iZ (N : Int)) = e) : ∀ (d i n : Nat), i + d = N → d < n → f n (iZ (i : Int)) = if fsU P i d = -1 then e else o (fsU P i d) := by
  intro d
  induction d with
  | zero =>
    intro i n hi hn
    obtain ⟨m, rfl⟩ : ∃ m, n = m + 1 := ⟨n - 1, by omega⟩
    have hi' : i = N := by omega
    rw [hi', he]
    exact (if_pos rfl).symm
  | succ d ih =>
    intro i n hi hn
    obtain ⟨m, rfl⟩ : ∃ m, n = m + 1 := ⟨n - 1, by omega⟩
    rw [hs m i (by omega)]
    show _ = if (if P i = true then (i : Int) else fsU P (i + 1) d) = -1 then e else o (if P i = true then (i : Int) else fsU P (i + 1) d)
    by_cases q : P i = true
    · rw [if_pos q, if_pos q, if_neg (by omega)]
    · rw [if_neg q, if_neg q]
      exact ih (i + 1) m (by omega) (by omega)
def gI (L : List Nat) (i : Nat) : Int := if h : i < L.length then (L[i] : Int) else -1
theorem gI_in {L : List Nat} {i : Nat} (h : i < L.length) : gI L i = (L[i] : Int) := dif_pos h
theorem gI_out {L : List Nat} {i : Nat} (h : ¬ i < L.length) : gI L i = -1 := dif_neg h
theorem gI_bd {L : List Nat} (hL : ∀ x ∈ L, x < 1000) (i : Nat) : -1 ≤ gI L i ∧ gI L i < 1000 ∧ (gI L i = -1 ↔ ¬ i < L.length) := by
  by_cases h : i < L.length
  · have := hL _ (List.getElem_mem h)
    rw [gI_in h]
    omega
  · rw [gI_out h]
    omega
theorem get_gI {r N : Nat} {L : List Nat} (h : Rw cN σ r N L) {i : Nat} (hi : i < 100000) : f_X5_get σ r (iZ (i : Int)) = some (iZ (gI L i)) := by
  by_cases q : i < L.length
  · rw [get_in h q, gI_in q]
    rfl
  · rw [get_out h (by omega) (by omega) (Or.inr (by omega)), gI_out q]
def unB (L M : List Nat) (i : Nat) : Bool := decide (gI L i ≠ gI M i)
theorem c_firstUnlike {r1 r2 N1 N2 : Nat} {L M : List Nat} (h1 : Rw cN σ r1 N1 L) (h2 : Rw cN σ r2 N2 M) (hL : ∀ x ∈ L, x < 1000) (hM : ∀ x ∈ M, x < 1000) : f_X5_firstUnlike σ r1 r2 = some (iZ (fsU (unB L M) 0 (max L.length M.length))) := by
  have b1 := h1.len
  have b2 := h2.len
  have em : (if ms_i σ r1 1 < ms_i σ r2 1 then ms_i σ r2 1 else ms_i σ r1 1) = iZ ((max L.length M.length : Nat) : Int) := by
    rw [ilt h1.cnt h2.cnt (by omega) (by omega) (by omega) (by omega), h1.cnt, h2.cnt]
    by_cases q : (L.length : Int) < (M.length : Int)
    · rw [if_pos q, Nat.max_eq_right (by omega)]
    · rw [if_neg q, Nat.max_eq_left (by omega)]
  unfold f_X5_firstUnlike
  rw [em]
  have key := fs_loop (f := fun n i => f_X5_firstUnlike_14 σ n r1 r2 (iZ ((max L.length M.length : Nat) : Int)) i) (o := fun z => some (iZ z)) (e := some (-1)) (unB L M) (max L.length M.length) ?_ ?_ (max L.length M.length) 0 ms_fuel (by omega) (by show _ < 100000; omega)
  · refine key.trans ?_
    by_cases q : fsU (unB L M) 0 (max L.length M.length) = -1
    · rw [if_pos q, q]
      rfl
    · rw [if_neg q]
  · intro n i hi
    have g1 := gI_bd hL i
    have g2 := gI_bd hM i
    show (if iZ (i : Int) < iZ ((max L.length M.length : Nat) : Int) then _ else _) = _
    rw [iltT rfl rfl (by omega) (by omega) (by omega), get_gI h1 (by omega), Option.bind_some, get_gI h2 (by omega), Option.bind_some, ieq rfl rfl (by omega) (by omega) (by omega) (by omega), i1, iZ_add]
    unfold unB
    by_cases q : gI L i = gI M i
    · rw [if_pos q, if_neg (by simp [q])]
    · rw [if_neg q, if_pos (by simp [q])]
  · intro n
    show (if iZ ((max L.length M.length : Nat) : Int) < iZ ((max L.length M.length : Nat) : Int) then _ else _) = _
    rw [iltF rfl rfl (by omega) (by omega) (by omega)]
theorem fsU_max {L M : List Nat} (hL : ∀ x ∈ L, x < 1000) (hM : ∀ x ∈ M, x < 1000) : fsU (unB L M) 0 (max L.length M.length) = if fsU (unB L M) 0 (min L.length M.length) = -1 then (if (L.length : Int) = (M.length : Int) then -1 else ((min L.length M.length : Nat) : Int)) else fsU (unB L M) 0 (min L.length M.length) := by
  obtain ⟨d, hd⟩ : ∃ d, max L.length M.length = min L.length M.length + d := ⟨max L.length M.length - min L.length M.length, by omega⟩
  rw [hd, fsU_split, Nat.zero_add]
  have : fsU (unB L M) (min L.length M.length) d = if (L.length : Int) = (M.length : Int) then -1 else ((min L.length M.length : Nat) : Int) := by
    cases d with
    | zero => rw [if_pos (by omega)]; rfl
    | succ d =>
      rw [if_neg (by omega)]
      have g1 := (gI_bd hL (min L.length M.length)).2.2
      have g2 := (gI_bd hM (min L.length M.length)).2.2
      have : unB L M (min L.length M.length) = true := by
        unfold unB
        rw [decide_eq_true_iff]
        intro g
        by_cases q : L.length ≤ M.length
        · have := g1.mpr (by omega)
          have := g2.mp (by omega)
          omega
        · have := g2.mpr (by omega)
          have := g1.mp (by omega)
          omega
      show (if unB L M (min L.length M.length) = true then _ else _) = _
      rw [if_pos this]
  rw [this]
theorem q_unlike (h : InvS σ w) (x y : Int32) : ∃ r σ1 b σ2, f_X10_unlike σ 0 x y = some (r, σ1) ∧ Fr FScr σ σ1 ∧ f_X12_unlike σ1 493 x y = some (b, σ2) ∧ Ok r (ms_i σ2 493 7) b ∧ Fr FScr σ1 σ2 := by
  obtain ⟨z, z1, z2, rfl⟩ := iZ_of x
  obtain ⟨k, k1, k2, rfl⟩ := iZ_of y
  have h4 := h.1.2.2.1
  have h40 := h.1.1.1
  by_cases q : 0 ≤ z ∧ z ≤ (w 1 : Int) - 1
  · obtain ⟨l, rfl⟩ : ∃ l : Nat, z = (l : Int) := ⟨z.toNat, by omega⟩
    have hl : l < 4 := by omega
    by_cases qk : 1 ≤ k ∧ k ≤ 2
    · obtain ⟨r, N, s4, a1, a2, a3⟩ := c_rowOf h hl (t := k) (by omega) qk.2
      have h5 := h.fr a3
      obtain ⟨t4, b1, b2, b3, b4, b5, b6⟩ := m_formsP (h5.fr (fr7 s4 0)) hl
      rw [i_si_same] at b5
      have F6 := (fr7 s4 0).trans b6
      have hL := rowL_ok h.1 hl 0
      have hM := rowL_ok h.1 hl k
      have hL' : ∀ x ∈ rowL w l 0, x < 1000 := fun x hx => by have := hL.2 x hx; omega
      have hM' : ∀ x ∈ rowL w l k, x < 1000 := fun x hx => by have := hM.2 x hx; omega
      have hu := c_firstUnlike (h5.2.1.2.2.2 l hl : Rw cN s4 (3 + 123 + 2 * l) 60 (rowL w l 0)) a2 hL' hM'
      have hb := fsU_lt (unB (rowL w l 0) (rowL w l k)) (max (rowL w l 0).length (rowL w l k).length) 0
      refine ⟨.inl (iZ (fsU (unB (rowL w l 0) (rowL w l k)) 0 (max (rowL w l 0).length (rowL w l k).length))), s4, iZ (fsU (unB (rowL w l 0) (rowL w l k)) 0 (max (rowL w l 0).length (rowL w l k).length)), t4, ?_, a3, ?_, ⟨b5, rfl⟩, F6⟩
      · unfold f_X10_unlike
        rw [needLine_s h z1 z2, btT q, nd12 k1 k2, btT qk, x_rf1, lineAt_s (a := 3) (Or.inl rfl) hl, Option.bind_some, a1, b2_s, hu, Option.bind_some]
        rfl
      · unfold f_X12_unlike
        have hq0 : f_X12_manyIn t4 493 (iZ (l : Int)) 0 = some (iZ ((rowL w l 0).length : Int)) := m_manyIn (t := 0) b2 b3 b4 hl (by omega) (by omega)
        rw [m_okLine h5 q, b2_s, if_pos rfl, rg12 k1 k2, Option.bind_some, ibT qk, b1, Option.bind_some, hq0, Option.bind_some, m_manyIn b2 b3 b4 hl (by omega) qk.2, Option.bind_some]
        have em : (if iZ ((rowL w l k).length : Int) < iZ ((rowL w l 0).length : Int) then iZ ((rowL w l k).length : Int) else iZ ((rowL w l 0).length : Int)) = iZ ((min (rowL w l 0).length (rowL w l k).length : Nat) : Int) := by
          rw [ilt rfl rfl (by omega) (by omega) (by omega) (by omega)]
          by_cases g : ((rowL w l k).length : Int) < ((rowL w l 0).length : Int)
          · rw [if_pos g, Nat.min_eq_right (by omega)]
          · rw [if_neg g, Nat.min_eq_left (by omega)]
        have key := fs_loop (f := fun n i => f_X12_unlike_51 n t4 493 (iZ (l : Int)) (iZ k) (iZ ((rowL w l 0).length : Int)) (iZ ((rowL w l k).length : Int)) i) (o := fun z => some (iZ z, t4)) (e := some (iZ (if ((rowL w l 0).length : Int) = ((rowL w l k).length : Int) then -1 else ((min (rowL w l 0).length (rowL w l k).length : Nat) : Int)), t4)) (unB (rowL w l 0) (rowL w l k)) (min (rowL w l 0).length (rowL w l k).length) ?_ ?_ (min (rowL w l 0).length (rowL w l k).length) 0 ms_fuel (by omega) (by show _ < 100000; omega)
        · refine key.trans ?_
          rw [fsU_max hL' hM']
          by_cases g : fsU (unB (rowL w l 0) (rowL w l k)) 0 (min (rowL w l 0).length (rowL w l k).length) = -1
          · rw [if_pos g, if_pos g]
          · rw [if_neg g, if_neg g]
        · intro n i hi
          have hi0 : i < (rowL w l 0).length := by omega
          have hik : i < (rowL w l k).length := by omega
          have s0 : f_X12_signIn t4 493 (iZ (l : Int)) 0 (iZ (i : Int)) = some (iZ ((rowL w l 0)[i] : Int)) := m_signIn (t := 0) b2 b3 b4 h.1 hl (by omega) (by omega) hi0
          have g1 := hL' _ (List.getElem_mem hi0)
          have g2 := hM' _ (List.getElem_mem hik)
          show (if iZ (i : Int) < _ then _ else _) = _
          rw [em, iltT rfl rfl (by omega) (by omega) (by omega), s0, Option.bind_some, m_signIn b2 b3 b4 h.1 hl (by omega) qk.2 hik, Option.bind_some, ieq rfl rfl (by omega) (by omega) (by omega) (by omega), i1, iZ_add]
          unfold unB
          rw [gI_in hi0, gI_in hik]
          by_cases g : ((rowL w l 0)[i] : Int) = ((rowL w l k)[i] : Int)
          · rw [if_pos g, if_neg (by simp [g])]
          · rw [if_neg g, if_pos (by simpa using g)]
        · intro n
          show (if iZ ((min (rowL w l 0).length (rowL w l k).length : Nat) : Int) < _ then _ else _) = _
          rw [em, iltF rfl rfl (by omega) (by omega) (by omega), ieq rfl rfl (by omega) (by omega) (by omega) (by omega)]
          by_cases g : ((rowL w l 0).length : Int) = ((rowL w l k).length : Int)
          · rw [if_pos g, if_pos g]
            rfl
          · rw [if_neg g, if_neg g]
    · refine ⟨.inr 0, σ, 0, ms_si (ms_si σ 493 7 0) 493 7 1, ?_, Fr.refl _ _, ?_, i_si_same _ _ _ _, (fr7 σ 0).trans (fr7 _ 1)⟩
      · unfold f_X10_unlike
        rw [needLine_s h z1 z2, btT q, nd12 k1 k2, btF qk]
      · unfold f_X12_unlike
        rw [m_okLine h q, b2_s, if_pos rfl, rg12 k1 k2, Option.bind_some, ibF qk, raise_s, b2_s]
  · refine ⟨.inr 0, σ, 0, ms_si σ 493 7 1, ?_, Fr.refl _ _, ?_, i_si_same _ _ _ _, fr7 σ 1⟩
    · unfold f_X10_unlike
      rw [needLine_s h z1 z2, btF q]
    · unfold f_X12_unlike
      rw [m_noLineF h z1 z2 q, b2_s, if_neg (by decide)]
/-! clusterOf -/
def cAt (w : Nat → Nat) (L : List Nat) : Nat → Nat
  | 0 => 0
  | i + 1 => cAt w L i + if i = 0 ∨ Kd w (L.getD i 0) ≠ 1 then 1 else 0
theorem cAt_bd (w : Nat → Nat) (L : List Nat) : ∀ i, cAt w L i ≤ i ∧ (0 < i → 0 < cAt w L i) := by
  intro i
  induction i with
  | zero => exact ⟨Nat.le_refl _, fun g => absurd g (by omega)⟩
  | succ i ih =>
    unfold cAt
    by_cases q : i = 0 ∨ Kd w (L.getD i 0) ≠ 1
    · rw [if_pos q]; omega
    · rw [if_neg q]
      have : i ≠ 0 := fun g => q (Or.inl g)
      omega
theorem c_clusterAt (h : InvS σ w) {l p : Nat} (hl : l < 4) (hp : p < (ln w l).length) : f_X6_clusterAt σ 3 (3 + 123 + 2 * l) (iZ (p : Int)) = some (iZ ((cAt w (ln w l) (p + 1) : Int) - 1)) := by
  have h40 := h.1.1.1
  have hR := h.2.1.2.2.2 l hl
  have hl60 := h.1.line hl
  unfold f_X6_clusterAt
  refine lpx (S := Int32 × Int32) (f := fun n s => f_X6_clusterAt_5 σ n 3 (3 + 123 + 2 * l) (iZ (p : Int)) s.1 s.2) (fun i s => s.2 = iZ (i : Int) ∧ i ≤ p + 1 ∧ s.1 = iZ (cAt w (ln w l) i : Int)) (p + 1) ?_ ?_ (p + 1) 0 (0, 0) ms_fuel ⟨rfl, Nat.zero_le _, rfl⟩ (by omega) (by show _ < 100000; omega)
  · rintro i ⟨a, x⟩ ⟨hx, hi, ha⟩ hlt
    dsimp only at hx ha ⊢
    subst hx; subst ha
    refine ⟨(iZ (cAt w (ln w l) (i + 1) : Int), iZ ((i + 1 : Nat) : Int)), ⟨rfl, hlt, rfl⟩, fun n' => ?_⟩
    have hil : i < (ln w l).length := by omega
    have hc := cAt_bd w (ln w l) i
    have e1 : iZ (i : Int) + 1 = iZ ((i + 1 : Nat) : Int) := by rw [i1, iZ_add]; rfl
    have e2 : iZ (cAt w (ln w l) i : Int) + 1 = iZ ((cAt w (ln w l) i + 1 : Nat) : Int) := by rw [i1, iZ_add]; rfl
    have ec : cAt w (ln w l) (i + 1) = cAt w (ln w l) i + if i = 0 ∨ Kd w ((ln w l).getD i 0) ≠ 1 then 1 else 0 := rfl
    have eg : (ln w l).getD i 0 = (ln w l)[i] := by simp [List.getD, hil]
    have hx0 := hl60.1 _ (List.getElem_mem hil)
    have hk9 := (h.1.1.2.1 _ hx0).1.1
    show (if iZ (p : Int) < iZ (i : Int) then _ else _) = _
    rw [iltF rfl rfl (by omega) (by omega) (by omega), iltT rfl hR.cnt (by omega) (by omega) (by omega), e1, e2, ec]
    by_cases q0 : i = 0
    · rw [ieqT rfl i0 (by omega), if_pos (Or.inl q0)]
    · rw [ieqF rfl i0 (by omega) (by omega) (by omega) (by omega) (by omega), get_in hR hil, Option.bind_some]
      show (f_X6_kindOf σ 3 (iZ ((ln w l)[i] : Int))).bind _ = _
      rw [kindOf_s h.2.1.1 (Or.inl rfl) hx0 h40, Option.bind_some, eg]
      by_cases qk : Kd w (ln w l)[i] = 1
      · rw [ieqT rfl i1 (by omega), if_neg (by rintro (g | g) <;> omega)]
        rfl
      · rw [ieqF rfl i1 (by omega) (by omega) (by omega) (by omega) (by omega), if_pos (Or.inr qk)]
  · rintro ⟨a, x⟩ ⟨hx, hi, ha⟩ n'
    dsimp only at hx ha ⊢
    subst hx; subst ha
    have hc := cAt_bd w (ln w l) (p + 1)
    show (if iZ (p : Int) < iZ ((p + 1 : Nat) : Int) then _ else _) = _
    rw [iltT rfl rfl (by omega) (by omega) (by omega), i1, iZ_sub]
theorem m_clusterAt (h : InvS σ w) {l p : Nat} (hl : l < 4) (hp : p < (ln w l).length) : f_X12_clusterAt σ 493 (iZ (l : Int)) (iZ (p : Int)) = some (iZ ((cAt w (ln w l) (p + 1) : Int) - 1)) := by
  have h40 := h.1.1.1
  have hl60 := h.1.line hl
  have hlen := ln_length w l
  unfold f_X12_clusterAt
  refine lpx (S := Int32 × Int32) (f := fun n s => f_X12_clusterAt_5 σ n 493 (iZ (l : Int)) (iZ (p : Int)) s.1 s.2) (fun i s => s.2 = iZ (i : Int) ∧ i ≤ p + 1 ∧ s.1 = iZ ((cAt w (ln w l) i : Int) - 1)) (p + 1) ?_ ?_ (p + 1) 0 (-1, 0) ms_fuel ⟨rfl, Nat.zero_le _, rfl⟩ (by omega) (by show _ < 100000; omega)
  · rintro i ⟨a, x⟩ ⟨hx, hi, ha⟩ hlt
    dsimp only at hx ha ⊢
    subst hx; subst ha
    refine ⟨(iZ ((cAt w (ln w l) (i + 1) : Int) - 1), iZ ((i + 1 : Nat) : Int)), ⟨rfl, hlt, rfl⟩, fun n' => ?_⟩
    have hil : i < (ln w l).length := by omega
    have hc := cAt_bd w (ln w l) i
    have e1 : iZ (i : Int) + 1 = iZ ((i + 1 : Nat) : Int) := by rw [i1, iZ_add]; rfl
    have e2 : iZ ((cAt w (ln w l) i : Int) - 1) + 1 = iZ (cAt w (ln w l) i : Int) := by
      rw [i1, iZ_add]
      have : (cAt w (ln w l) i : Int) - 1 + 1 = (cAt w (ln w l) i : Int) := by omega
      rw [this]
    have eg : (ln w l).getD i 0 = w (7 + 60 * l + i) := by
      have : (ln w l).getD i 0 = (ln w l)[i] := by simp [List.getD, hil]
      rw [this, ln_get w l i hil]
    have hx0 : w (7 + 60 * l + i) < w 0 := by
      have := hl60.1 _ (List.getElem_mem hil)
      rw [ln_get w l i hil] at this
      exact this
    have hk9 := (h.1.1.2.1 _ hx0).1.1
    show (if iZ (p : Int) < iZ (i : Int) then _ else _) = _
    rw [iltF rfl rfl (by omega) (by omega) (by omega), spot_s, Option.bind_some, m_rf0, mw_get h.2.2 (Or.inl rfl) (z := 7 + 60 * (l : Int) + (i : Int)) (k := 7 + 60 * l + i) (by omega) (by omega), Option.bind_some, isMark_s h.2.2 (by omega) (by omega), Option.bind_some]
    by_cases qk : Kd w (w (7 + 60 * l + i)) = 1
    · rw [ibT qk]
      unfold f_X12_clusterAt_34
      rw [if_pos rfl, e1, e2]
      by_cases q0 : i = 0
      · have ec : ((cAt w (ln w l) (i + 1) : Nat) : Int) - 1 = (cAt w (ln w l) i : Int) := by
          show ((cAt w (ln w l) i + (if i = 0 ∨ Kd w ((ln w l).getD i 0) ≠ 1 then 1 else 0) : Nat) : Int) - 1 = _
          rw [if_pos (Or.inl q0)]
          omega
        have c0 : cAt w (ln w l) i = 0 := by omega
        rw [ieqT rfl im1 (by omega), ec]
      · have ec : ((cAt w (ln w l) (i + 1) : Nat) : Int) - 1 = (cAt w (ln w l) i : Int) - 1 := by
          show ((cAt w (ln w l) i + (if i = 0 ∨ Kd w ((ln w l).getD i 0) ≠ 1 then 1 else 0) : Nat) : Int) - 1 = _
          rw [eg, if_neg (by rintro (g | g) <;> omega)]
          omega
        rw [ieqF rfl im1 (by omega) (by omega) (by omega) (by omega) (by omega), ec]
    · have ec : ((cAt w (ln w l) (i + 1) : Nat) : Int) - 1 = (cAt w (ln w l) i : Int) := by
        show ((cAt w (ln w l) i + (if i = 0 ∨ Kd w ((ln w l).getD i 0) ≠ 1 then 1 else 0) : Nat) : Int) - 1 = _
        rw [eg, if_pos (Or.inr qk)]
        omega
      rw [ibF qk]
      unfold f_X12_clusterAt_34
      rw [if_neg (by decide), e1, e2, ec]
  · rintro ⟨a, x⟩ ⟨hx, hi, ha⟩ n'
    dsimp only at hx ha ⊢
    subst hx; subst ha
    show (if iZ (p : Int) < iZ ((p + 1 : Nat) : Int) then _ else _) = _
    rw [iltT rfl rfl (by omega) (by omega) (by omega)]
theorem q_clusterOf (h : InvS σ w) (x y : Int32) : ∃ r b σ2, f_X10_clusterOf σ 0 x y = some r ∧ f_X12_clusterOf σ 493 x y = some (b, σ2) ∧ Ok r (ms_i σ2 493 7) b ∧ Fr FScr σ σ2 := by
  obtain ⟨z, z1, z2, rfl⟩ := iZ_of x
  obtain ⟨p, p1, p2, rfl⟩ := iZ_of y
  have h4 := h.1.2.2.1
  unfold f_X10_clusterOf f_X12_clusterOf f_X12_isPlace
  rw [needLine_s h z1 z2, m_isLine h.2.2 h4 z1 z2, Option.bind_some]
  by_cases q : 0 ≤ z ∧ z ≤ (w 1 : Int) - 1
  · obtain ⟨l, rfl⟩ : ∃ l : Nat, z = (l : Int) := ⟨z.toNat, by omega⟩
    have hl : l < 4 := by omega
    have hlen := ln_length w l
    have h60 := (h.1.line hl).2
    have e : (3 : Int32) + iZ (l : Int) = iZ (3 + (l : Int)) := by rw [i3, iZ_add]
    have e2 : iZ (w (3 + l) : Int) - 1 = iZ ((w (3 + l) : Int) - 1) := by rw [i1, iZ_sub]
    have e3 : ms_i σ (3 + 123 + 2 * l) 1 - 1 = iZ ((w (3 + l) : Int) - 1) := by rw [(h.2.1.2.2.2 l hl).cnt, hlen, e2]
    rw [btT q, ibT q, x_rf1, lineAt_s (a := 3) (Or.inl rfl) hl, Option.bind_some, e3, needIn0 p1 p2 (by omega) (by omega), e, m_rf0, mw_get h.2.2 (Or.inl rfl) (z := 3 + (l : Int)) (k := 3 + l) (by omega) (by omega), Option.bind_some, e2, inRz p1 p2 (by omega) (by omega), Option.bind_some]
    by_cases qp : 0 ≤ p ∧ p ≤ (w (3 + l) : Int) - 1
    · obtain ⟨j, rfl⟩ : ∃ j : Nat, p = (j : Int) := ⟨p.toNat, by omega⟩
      have hj : j < (ln w l).length := by omega
      refine ⟨.inl (iZ ((cAt w (ln w l) (j + 1) : Int) - 1)), iZ ((cAt w (ln w l) (j + 1) : Int) - 1), ms_si σ 493 7 0, ?_, ?_, ⟨i_si_same _ _ _ _, rfl⟩, fr7 σ 0⟩
      · rw [btT qp, c_clusterAt h hl hj, Option.bind_some]
      · rw [ibT qp, Option.bind_some, if_neg (by decide)]
        unfold f_X12_clusterOf_15
        rw [nm_s, i_si_same, if_pos rfl, m_clusterAt (h.fr (fr7 σ 0)) hl hj, Option.bind_some]
    · refine ⟨.inr 0, 0, ms_si σ 493 7 1, ?_, ?_, i_si_same _ _ _ _, fr7 σ 1⟩
      · rw [btF qp]
      · rw [ibF qp, Option.bind_some, if_pos rfl]
        unfold f_X12_clusterOf_15
        rw [nm_s, i_si_same, if_neg (by decide)]
  · refine ⟨.inr 0, 0, ms_si σ 493 7 1, ?_, ?_, i_si_same _ _ _ _, fr7 σ 1⟩
    · rw [btF q]
    · rw [ibF q, Option.bind_some, if_pos rfl]
      unfold f_X12_clusterOf_15
      rw [nm_s, i_si_same, if_neg (by decide)]
end At
