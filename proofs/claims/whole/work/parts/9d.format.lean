/-! format -/
section Fo
variable {σ : MsSt} {w N : Nat → Nat}
def FFmt : Nat → Nat → Prop := fun a k => a = 511 ∨ (a = 493 ∧ k = 25)
def FTxt : Nat → Nat → Prop := fun a _ => 491 ≤ a ∧ a < 493
theorem m_put {L : List Nat} {c : Nat} (h : FmS σ L) (hl : L.length < 2166) : ∃ σ', f_X12_put σ 493 (iZ (c : Int)) = some σ' ∧ FmS σ' (L ++ [c]) ∧ Fr FFmt σ σ' := by
  have l1 : ms_ln 511 = 2166 := m_ln.2.2.2.2.2.2.2.2.2.2.2.2.2.2.2.1
  refine ⟨ms_si (ms_si σ 511 L.length (iZ (c : Int))) 493 25 (iZ ((L.length + 1 : Nat) : Int)), ?_, ⟨?_, ?_⟩, (Fr.si _ _ (Or.inl rfl)).trans (Fr.si _ _ (Or.inr ⟨rfl, rfl⟩))⟩
  · unfold f_X12_put
    rw [m_rf24, h.1, ast_iZ (by omega) (by omega), Option.bind_some, nm_s, i_si_ne (Or.inl (by omega)), h.1, i1, iZ_add]
    rfl
  · rw [i_si_same, List.length_append]
    rfl
  · exact (h.2.snoc c).fr (Fr.si (P := fun a _ => a = 493) _ _ rfl) (by intros; omega)
/-- the letters of a name -/
def nmT (N : Nat → Nat) (s : Nat) : Nat → List Nat
  | 0 => []
  | k + 1 => if N (4 * s + k) = 0 then nmT N s k else nmT N s k ++ [N (4 * s + k)]
theorem nmT_t {s k : Nat} (h : N (4 * s + k) = 0) : nmT N s (k + 1) = nmT N s k := if_pos h
theorem nmT_f {s k : Nat} (h : ¬ N (4 * s + k) = 0) : nmT N s (k + 1) = nmT N s k ++ [N (4 * s + k)] := if_neg h
theorem nmT_le (s : Nat) : ∀ k, (nmT N s k).length ≤ k := by
  intro k
  induction k with
  | zero => exact Nat.le_refl _
  | succ k ih =>
    by_cases g : N (4 * s + k) = 0
    · rw [nmT_t g]; omega
    · rw [nmT_f g, List.length_append, List.length_singleton]; omega
theorem nmT_end {n s : Nat} (hN : NmOK N n) (hs : s < n) {k : Nat} (hk : k < 4) (h : N (4 * s + k) = 0) : nmT N s 4 = nmT N s k := by
  have h2 := (hN s hs).2
  have z : ∀ d, k + d < 4 → N (4 * s + (k + d)) = 0 := by
    intro d
    induction d with
    | zero => intro _; exact h
    | succ d ih => intro hd; exact h2 (k + d) (by omega) (ih (by omega))
  have e : ∀ d, k + d ≤ 4 → nmT N s (k + d) = nmT N s k := by
    intro d
    induction d with
    | zero => intro _; rfl
    | succ d ih => intro hd; rw [← ih (by omega)]; exact nmT_t (z d (by omega))
  have := e (4 - k) (by omega)
  rw [show k + (4 - k) = 4 from by omega] at this
  exact this
theorem c_name39 {n s : Nat} {L : List Nat} (hC : NmC σ 3 N n) (hN : NmOK N n) (hs : s < n) (h40 : n ≤ 40) (h : Rw cN σ 491 2160 L) (hl : L.length + 4 ≤ 2160) : ∃ σ', f_X10_writeName_39 ms_fuel σ 0 (3 + 2 + 3 * s) 0 = some σ' ∧ Rw cN σ' 491 2160 (L ++ nmT N s 4) ∧ Fr FTxt σ σ' := by
  refine lp0 (S := MsSt × Int32) (f := fun n t => f_X10_writeName_39 n t.1 0 (3 + 2 + 3 * s) t.2) (Q := fun σ' => Rw cN σ' 491 2160 (L ++ nmT N s 4) ∧ Fr FTxt σ σ')
    (fun i t => t.2 = iZ (i : Int) ∧ i ≤ 4 ∧ Rw cN t.1 491 2160 (L ++ nmT N s i) ∧ Fr FTxt σ t.1) 4 (s := (σ, 0)) ⟨rfl, by omega, by show Rw cN σ 491 2160 (L ++ []); rw [List.append_nil]; exact h, Fr.refl _ _⟩ (by omega) ?_ ?_
  · rintro i ⟨t, x⟩ ⟨hx, hi, hR, hF⟩ hlt
    dsimp only at hx hR hF ⊢
    subst hx
    left
    have hCt : NmC t 3 N n := fun q hq => (hF.1 _ _ (by unfold FTxt; omega)).trans (hC q hq)
    have e1 : iZ (i : Int) + 1 = iZ ((i + 1 : Nat) : Int) := by rw [i1, iZ_add]; rfl
    have hla : f_X7_letterAt t (3 + 2 + 3 * s) (iZ (i : Int)) = some (if N (4 * s + i) = 0 then iZ (-1) else iZ (N (4 * s + i) : Int)) := by
      rw [c_letterAt hCt hN hs (k := (i : Int)) (by omega) (by omega), if_pos (by omega)]
      rfl
    have hlt2 := hN.lt hs hlt
    have hle := nmT_le (N := N) s i
    by_cases g : N (4 * s + i) = 0
    · refine ⟨(t, iZ ((i + 1 : Nat) : Int)), ⟨rfl, hlt, by rw [nmT_t g]; exact hR, hF⟩, fun n' => ?_⟩
      show (if iZ (i : Int) < (4 : Int32) then _ else _) = _
      rw [iltT rfl i4 (by omega) (by omega) (by omega), hla, Option.bind_some, if_pos g, ieqT rfl im1 rfl, e1]
    · obtain ⟨s1, b1, b2, b3⟩ := add_s hR (by rw [List.length_append]; omega) (N (4 * s + i))
      have b1' : f_X5_add t 491 (iZ (N (4 * s + i) : Int)) = some s1 := b1
      refine ⟨(s1, iZ ((i + 1 : Nat) : Int)), ⟨rfl, hlt, by rw [nmT_f g, ← List.append_assoc]; exact b2, hF.trans (b3.mono fun a k q => q)⟩, fun n' => ?_⟩
      show (if iZ (i : Int) < (4 : Int32) then _ else _) = _
      rw [iltT rfl i4 (by omega) (by omega) (by omega), hla, Option.bind_some, if_neg g, ieqF rfl im1 (by omega) (by omega) (by omega) (by omega) (by omega), x_rf11, b1', Option.bind_some, e1]
  · rintro ⟨t, x⟩ ⟨hx, hi, hR, hF⟩
    dsimp only at hx hR hF ⊢
    subst hx
    refine ⟨t, ⟨hR, hF⟩, fun n' => ?_⟩
    show (if iZ ((4 : Nat) : Int) < (4 : Int32) then _ else _) = _
    rw [iltF rfl i4 (by omega) (by omega) (by omega)]
theorem m_name30 {n s : Nat} {L : List Nat} (hM : NmM σ 498 N n) (hN : NmOK N n) (hs : s < n) (h40 : n ≤ 40) (h : FmS σ L) (hl : L.length + 4 ≤ 2166) : ∃ σ', f_X12_putSign_30 ms_fuel σ 493 (iZ (s : Int)) 0 = some σ' ∧ FmS σ' (L ++ nmT N s 4) ∧ Fr FFmt σ σ' := by
  have l8 : ms_ln 498 = 160 := m_ln.2.2.2.2.1
  refine lp0 (S := MsSt × Int32) (f := fun n t => f_X12_putSign_30 n t.1 493 (iZ (s : Int)) t.2) (Q := fun σ' => FmS σ' (L ++ nmT N s 4) ∧ Fr FFmt σ σ')
    (fun i t => t.2 = iZ (i : Int) ∧ i ≤ 4 ∧ FmS t.1 (L ++ nmT N s i) ∧ Fr FFmt σ t.1) 4 (s := (σ, 0)) ⟨rfl, by omega, by show FmS σ (L ++ []); rw [List.append_nil]; exact h, Fr.refl _ _⟩ (by omega) ?_ ?_
  · rintro i ⟨t, x⟩ ⟨hx, hi, hR, hF⟩ hlt
    dsimp only at hx hR hF ⊢
    subst hx
    have e1 : iZ (i : Int) + 1 = iZ ((i + 1 : Nat) : Int) := by rw [i1, iZ_add]; rfl
    have e : (4 : Int32) * iZ (s : Int) + iZ (i : Int) = iZ ((4 * s + i : Nat) : Int) := by rw [i4, iZ_mul, iZ_add]; rfl
    have hr : ms_ald t 498 (iZ ((4 * s + i : Nat) : Int)) = some (iZ (N (4 * s + i) : Int)) := by
      rw [ald_iZ (by omega) (by omega), hF.1 _ _ (by unfold FFmt; omega), hM s i hs hlt]
    have hlt2 := hN.lt hs hlt
    have hle := nmT_le (N := N) s i
    by_cases g : N (4 * s + i) = 0
    · right
      refine ⟨t, ⟨by rw [nmT_end hN hs hlt g]; exact hR, hF⟩, fun n' => ?_⟩
      show (if iZ (i : Int) < (4 : Int32) then _ else _) = _
      rw [iltT rfl i4 (by omega) (by omega) (by omega), e, m_rf4, hr, Option.bind_some, ieqT rfl i0 (by omega)]
    · left
      obtain ⟨s1, b1, b2, b3⟩ := m_put hR (by rw [List.length_append]; omega) (c := N (4 * s + i))
      refine ⟨(s1, iZ ((i + 1 : Nat) : Int)), ⟨rfl, hlt, by rw [nmT_f g, ← List.append_assoc]; exact b2, hF.trans b3⟩, fun n' => ?_⟩
      show (if iZ (i : Int) < (4 : Int32) then _ else _) = _
      rw [iltT rfl i4 (by omega) (by omega) (by omega), e, m_rf4, hr, Option.bind_some, ieqF rfl i0 (by omega) (by omega) (by omega) (by omega) (by omega), Option.bind_some, b1, Option.bind_some, e1]
  · rintro ⟨t, x⟩ ⟨hx, hi, hR, hF⟩
    dsimp only at hx hR hF ⊢
    subst hx
    refine ⟨t, ⟨hR, hF⟩, fun n' => ?_⟩
    show (if iZ ((4 : Nat) : Int) < (4 : Int32) then _ else _) = _
    rw [iltF rfl i4 (by omega) (by omega) (by omega)]
/-- a sign as text -/
def sgT (w N : Nat → Nat) (s : Nat) : List Nat := (if Kd w s = 1 then [43] else if Kd w s = 2 then [42] else []) ++ nmT N s 4
theorem sgT_le (s : Nat) : (sgT w N s).length ≤ 5 := by
  have := nmT_le (N := N) s 4
  unfold sgT
  rw [List.length_append]
  split
  · rw [List.length_singleton]; omega
  · split
    · rw [List.length_singleton]; omega
    · rw [List.length_nil]; omega
theorem i42 : (42 : Int32) = iZ ((42 : Nat) : Int) := rfl
theorem i43 : (43 : Int32) = iZ ((43 : Nat) : Int) := rfl
theorem i32 : (32 : Int32) = iZ ((32 : Nat) : Int) := rfl
theorem c_writeName {n s : Nat} {L : List Nat} (hs' : SgsOK w n) (hc : ScRep σ 3 w n) (hC : NmC σ 3 N n) (hN : NmOK N n) (hs : s < n) (h : Rw cN σ 491 2160 L) (hl : L.length + 5 ≤ 2160) : ∃ σ', f_X10_writeName σ 0 (3 + 2 + 3 * s) = some σ' ∧ Rw cN σ' 491 2160 (L ++ sgT w N s) ∧ Fr FTxt σ σ' := by
  have h40 := hs'.1
  have hk := (hc.2 s hs).1
  have hkb := (hs'.2.1 s hs).1.1
  have add : ∀ c : Nat, ∃ σ', (f_X5_add σ 491 (iZ (c : Int))).bind (fun s4 => f_X10_writeName_39 ms_fuel s4 0 (3 + 2 + 3 * s) 0) = some σ' ∧ Rw cN σ' 491 2160 (L ++ ([c] ++ nmT N s 4)) ∧ Fr FTxt σ σ' := by
    intro c
    obtain ⟨s1, a1, a2, a3⟩ := add_s h (by omega) c
    have a1' : f_X5_add σ 491 (iZ (c : Int)) = some s1 := a1
    have hF1 : Fr FTxt σ s1 := a3.mono fun a k q => q
    obtain ⟨s2, b1, b2, b3⟩ := c_name39 (fun q hq => (hF1.1 _ _ (by unfold FTxt; omega)).trans (hC q hq)) hN hs h40 a2 (by rw [List.length_append, List.length_singleton]; omega)
    exact ⟨s2, by rw [a1', Option.bind_some, b1], by rw [← List.append_assoc]; exact b2, hF1.trans b3⟩
  unfold f_X10_writeName sgT
  by_cases g1 : Kd w s = 1
  · obtain ⟨s2, b1, b2⟩ := add 43
    refine ⟨s2, ?_, by rw [if_pos g1]; exact b2⟩
    rw [ieqT hk i1 (by omega), x_rf11, i43, b1]
  · by_cases g2 : Kd w s = 2
    · obtain ⟨s2, b1, b2⟩ := add 42
      refine ⟨s2, ?_, by rw [if_neg g1, if_pos g2]; exact b2⟩
      rw [ieqF hk i1 (by omega) (by omega) (by omega) (by omega) (by omega), ieqT hk i2 (by omega), x_rf11, i42, b1]
    · obtain ⟨s2, b1, b2⟩ := c_name39 hC hN hs h40 h (by omega)
      refine ⟨s2, ?_, by rw [if_neg g1, if_neg g2]; exact b2⟩
      rw [ieqF hk i1 (by omega) (by omega) (by omega) (by omega) (by omega), ieqF hk i2 (by omega) (by omega) (by omega) (by omega) (by omega), b1]
theorem m_putSign {n s : Nat} {L : List Nat} (hs' : SgsOK w n) (hw : Mw σ 494 w) (hM : NmM σ 498 N n) (hN : NmOK N n) (hs : s < n) (h : FmS σ L) (hl : L.length + 5 ≤ 2166) : ∃ σ', f_X12_putSign σ 493 (iZ (s : Int)) = some σ' ∧ FmS σ' (L ++ sgT w N s) ∧ Fr FFmt σ σ' := by
  have h40 := hs'.1
  have hkb := (hs'.2.1 s hs).1.1
  have add : ∀ c : Nat, ∃ σ', (f_X12_put σ 493 (iZ (c : Int))).bind (fun s4 => f_X12_putSign_30 ms_fuel s4 493 (iZ (s : Int)) 0) = some σ' ∧ FmS σ' (L ++ ([c] ++ nmT N s 4)) ∧ Fr FFmt σ σ' := by
    intro c
    obtain ⟨s1, a1, a2, a3⟩ := m_put h (by omega) (c := c)
    obtain ⟨s2, b1, b2, b3⟩ := m_name30 (fun q k hq hk => (a3.1 _ _ (by unfold FFmt; omega)).trans (hM q k hq hk)) hN hs h40 a2 (by rw [List.length_append, List.length_singleton]; omega)
    exact ⟨s2, by rw [a1, Option.bind_some, b1], by rw [← List.append_assoc]; exact b2, a3.trans b3⟩
  have k0 : f_X12_isOfKind σ 493 (iZ (s : Int)) 0 = some (b01 (Kd w s = 0)) := isOfKind_s hw (by omega) (k := 0) (by omega) (by omega)
  have k1 : f_X12_isMark σ 493 (iZ (s : Int)) = some (b01 (Kd w s = 1)) := isMark_s hw (by omega) (by omega)
  unfold f_X12_putSign sgT
  rw [k0, Option.bind_some]
  by_cases g0 : Kd w s = 0
  · obtain ⟨s2, b1, b2⟩ := m_name30 hM hN hs h40 h (by omega)
    refine ⟨s2, ?_, by rw [if_neg (by omega), if_neg (by omega)]; exact b2⟩
    rw [ibT g0, b1]
  · by_cases g1 : Kd w s = 1
    · obtain ⟨s2, b1, b2⟩ := add 43
      refine ⟨s2, ?_, by rw [if_pos g1]; exact b2⟩
      rw [ibF g0, k1, Option.bind_some, ibT g1, i43, b1]
    · obtain ⟨s2, b1, b2⟩ := add 42
      refine ⟨s2, ?_, by rw [if_neg g1, if_pos (by omega)]; exact b2⟩
      rw [ibF g0, k1, Option.bind_some, ibF g1, i42, b1]
/-- a row as text -/
def fmT (w N : Nat → Nat) (L : List Nat) : Nat → List Nat
  | 0 => []
  | i + 1 => (fmT w N L i ++ if 0 < i then [32] else []) ++ sgT w N (L.getD i 0)
theorem fmT_le (L : List Nat) : ∀ i, (fmT w N L i).length ≤ 6 * i := by
  intro i
  induction i with
  | zero => exact Nat.le_refl _
  | succ i ih =>
    have := sgT_le (w := w) (N := N) (L.getD i 0)
    unfold fmT
    rw [List.length_append, List.length_append]
    split
    · rw [List.length_singleton]; omega
    · rw [List.length_nil]; omega
theorem fmT_succ (L : List Nat) (i : Nat) : fmT w N L (i + 1) = (fmT w N L i ++ if 0 < i then [32] else []) ++ sgT w N (L.getD i 0) := rfl
theorem c_format28 {n r M : Nat} {L : List Nat} (hs' : SgsOK w n) (hc : ScRep σ 3 w n) (hC : NmC σ 3 N n) (hN : NmOK N n) (hr : Rw cN σ r M L) (hr2 : r + 2 ≤ 491) (hL : ∀ x ∈ L, x < n) (h360 : L.length ≤ 360) (h : Rw cN σ 491 2160 ([] : List Nat)) : ∃ σ', f_X10_format_28 ms_fuel σ 0 r 0 = some (.inl (iZ ((fmT w N L L.length).length : Int)), σ') ∧ Rw cN σ' 491 2160 (fmT w N L L.length) ∧ Fr FTxt σ σ' := by
  have h40 := hs'.1
  have key := lp0 (S := MsSt × Int32) (f := fun n t => f_X10_format_28 n t.1 0 r t.2) (Q := fun q => q.1 = .inl (iZ ((fmT w N L L.length).length : Int)) ∧ Rw cN q.2 491 2160 (fmT w N L L.length) ∧ Fr FTxt σ q.2)
    (fun i t => t.2 = iZ (i : Int) ∧ i ≤ L.length ∧ Rw cN t.1 491 2160 (fmT w N L i) ∧ Fr FTxt σ t.1) L.length (s := (σ, 0)) ⟨rfl, Nat.zero_le _, h, Fr.refl _ _⟩ (by omega) ?_ ?_
  · obtain ⟨⟨q1, q2⟩, g1, g2, g3⟩ := key
    dsimp only at g2
    subst g2
    exact ⟨q2, g1, g3⟩
  · rintro i ⟨t, x⟩ ⟨hx, hi, hR, hF⟩ hlt
    dsimp only at hx hR hF ⊢
    subst hx
    left
    have hlen := fmT_le (w := w) (N := N) L i
    have e1 : iZ (i : Int) + 1 = iZ ((i + 1 : Nat) : Int) := by rw [i1, iZ_add]; rfl
    have hx := hL _ (List.getElem_mem hlt)
    rw [← getD_get hlt] at hx
    have hFi : ∀ {t' : MsSt}, Fr FTxt σ t' → Fr (In 491 493) σ t' := fun g => g
    have go : ∀ t' : MsSt, Fr FTxt σ t' → Rw cN t' 491 2160 (fmT w N L i ++ if 0 < i then [32] else []) → ∃ s', (∀ k, f_X10_format_51 k t' 0 r (iZ (i : Int)) = k s' 0 r (iZ ((i + 1 : Nat) : Int))) ∧ Rw cN s' 491 2160 (fmT w N L (i + 1)) ∧ Fr FTxt σ s' := by
      intro t' hFt hRt
      have hlen2 : (fmT w N L i ++ if 0 < i then [32] else []).length ≤ 6 * i + 1 := by
        rw [List.length_append]
        split
        · rw [List.length_singleton]; omega
        · rw [List.length_nil]; omega
      have hct := hc.away (hFi hFt) h40 (by omega)
      obtain ⟨s', b1, b2, b3⟩ := c_writeName hs' hct (fun q hq => (hFt.1 _ _ (by unfold FTxt; omega)).trans (hC q hq)) hN hx hRt (by omega)
      refine ⟨s', fun k => ?_, b2, hFt.trans b3⟩
      have hg : f_X5_get t' r (iZ (i : Int)) = some (iZ ((L.getD i 0 : Nat) : Int)) := by
        rw [get_in (hr.away (hFi hFt) (by omega)) hlt, getD_get hlt]
        rfl
      unfold f_X10_format_51
      rw [hg, Option.bind_some, x_rf1, told_s (a := 3) (Or.inl rfl) (by omega), Option.bind_some, b1, Option.bind_some, e1]
    have hcnt : ms_i t r 1 = iZ (L.length : Int) := (hr.away (hFi hF) (by omega)).cnt
    by_cases g : 0 < i
    · obtain ⟨s1, b1, b2, b3⟩ := add_s hR (by omega) 32
      have b1' : f_X5_add t 491 32 = some s1 := b1
      obtain ⟨s', c1, c2, c3⟩ := go s1 (hF.trans b3) (by rw [if_pos g]; exact b2)
      refine ⟨(s', iZ ((i + 1 : Nat) : Int)), ⟨rfl, hlt, c2, c3⟩, fun n' => ?_⟩
      show (if iZ (i : Int) < ms_i t r 1 then _ else _) = _
      rw [iltT rfl hcnt (by omega) (by omega) (by omega), iltT i0 rfl (by omega) (by omega) (by omega), x_rf11, b1', Option.bind_some, c1]
    · obtain ⟨s', c1, c2, c3⟩ := go t hF (by rw [if_neg g, List.append_nil]; exact hR)
      refine ⟨(s', iZ ((i + 1 : Nat) : Int)), ⟨rfl, hlt, c2, c3⟩, fun n' => ?_⟩
      show (if iZ (i : Int) < ms_i t r 1 then _ else _) = _
      rw [iltT rfl hcnt (by omega) (by omega) (by omega), iltF i0 rfl (by omega) (by omega) (by omega), c1]
  · rintro ⟨t, x⟩ ⟨hx, hi, hR, hF⟩
    dsimp only at hx hR hF ⊢
    subst hx
    have hcnt : ms_i t r 1 = iZ (L.length : Int) := (hr.away (lo := 491) (hi := 493) hF (by omega)).cnt
    refine ⟨(.inl (iZ ((fmT w N L L.length).length : Int)), t), ⟨rfl, hR, hF⟩, fun n' => ?_⟩
    show (if iZ (L.length : Int) < ms_i t r 1 then _ else _) = _
    rw [iltF rfl hcnt (by omega) (by omega) (by omega), x_rf11, hR.cnt]
theorem m_format50 {l : Nat} {c t : Int} (hW : WF w) (hw : Mw σ 494 w) (hM : NmM σ 498 N (w 0)) (hN : NmOK N (w 0)) (hL : LayS σ (dF w (ln w l)) c) (hC : CmS σ (cmp w (spN w) (w 0) (dF w (ln w l)))) (hl : l < 4) (t1 : 0 ≤ t) (t2 : t ≤ 2) (h : FmS σ []) : ∃ σ', f_X12_format_50 ms_fuel σ 493 (iZ (l : Int)) (iZ t) 0 = some (iZ ((fmT w N (rowL w l t) (rowL w l t).length).length : Int), σ') ∧ FmS σ' (fmT w N (rowL w l t) (rowL w l t).length) ∧ Fr FFmt σ σ' := by
  have h40 := hW.1.1
  obtain ⟨h360, hLx⟩ := rowL_ok hW hl t
  have pass : ∀ {t' : MsSt}, Fr FFmt σ t' → Mw t' 494 w ∧ NmM t' 498 N (w 0) ∧ LayS t' (dF w (ln w l)) c ∧ CmS t' (cmp w (spN w) (w 0) (dF w (ln w l))) := fun hF => ⟨hw.fr hF (by unfold FFmt; intros; omega), fun q k hq hk => (hF.1 _ _ (by unfold FFmt; omega)).trans (hM q k hq hk), hL.fr hF (by unfold FFmt; intros; omega) (by unfold FFmt; omega) (by unfold FFmt; omega), ⟨hC.1.fr hF (by unfold FFmt; intros; omega), hC.2.1.fr hF (by unfold FFmt; intros; omega), (hF.1 _ _ (by unfold FFmt; omega)).trans hC.2.2⟩⟩
  have key := lp0 (S := MsSt × Int32) (f := fun n p => f_X12_format_50 n p.1 493 (iZ (l : Int)) (iZ t) p.2) (Q := fun q => q.1 = iZ ((fmT w N (rowL w l t) (rowL w l t).length).length : Int) ∧ FmS q.2 (fmT w N (rowL w l t) (rowL w l t).length) ∧ Fr FFmt σ q.2)
    (fun i p => p.2 = iZ (i : Int) ∧ i ≤ (rowL w l t).length ∧ FmS p.1 (fmT w N (rowL w l t) i) ∧ Fr FFmt σ p.1) (rowL w l t).length (s := (σ, 0)) ⟨rfl, Nat.zero_le _, h, Fr.refl _ _⟩ (by omega) ?_ ?_
  · obtain ⟨⟨q1, q2⟩, g1, g2, g3⟩ := key
    dsimp only at g2
    subst g2
    exact ⟨q2, g1, g3⟩
  · rintro i ⟨p, x⟩ ⟨hx, hi, hR, hF⟩ hlt
    dsimp only at hx hR hF ⊢
    subst hx
    left
    have hlen := fmT_le (w := w) (N := N) (rowL w l t) i
    have e1 : iZ (i : Int) + 1 = iZ ((i + 1 : Nat) : Int) := by rw [i1, iZ_add]; rfl
    have hx := hLx _ (List.getElem_mem hlt)
    rw [← getD_get hlt] at hx
    have go : ∀ t' : MsSt, Fr FFmt σ t' → FmS t' (fmT w N (rowL w l t) i ++ if 0 < i then [32] else []) → ∃ s', (∀ k, f_X12_format_70 k t' 493 (iZ (l : Int)) (iZ t) (iZ (i : Int)) = k s' 493 (iZ (l : Int)) (iZ t) (iZ ((i + 1 : Nat) : Int))) ∧ FmS s' (fmT w N (rowL w l t) (i + 1)) ∧ Fr FFmt σ s' := by
      intro t' hFt hRt
      have hlen2 : (fmT w N (rowL w l t) i ++ if 0 < i then [32] else []).length ≤ 6 * i + 1 := by
        rw [List.length_append]
        split
        · rw [List.length_singleton]; omega
        · rw [List.length_nil]; omega
      obtain ⟨p1, p2, p3, p4⟩ := pass hFt
      obtain ⟨s', b1, b2, b3⟩ := m_putSign hW.1 p1 p2 hN hx hRt (by omega)
      refine ⟨s', fun k => ?_, b2, hFt.trans b3⟩
      have hg : f_X12_signIn t' 493 (iZ (l : Int)) (iZ t) (iZ (i : Int)) = some (iZ (((rowL w l t).getD i 0 : Nat) : Int)) := by
        rw [m_signIn p1 p3 p4 hW hl t1 t2 hlt, getD_get hlt]
      unfold f_X12_format_70
      rw [hg, Option.bind_some, b1, Option.bind_some, e1]
    obtain ⟨p1, p2, p3, p4⟩ := pass hF
    by_cases g : 0 < i
    · obtain ⟨s1, b1, b2, b3⟩ := m_put hR (by omega) (c := 32)
      have b1' : f_X12_put p 493 32 = some s1 := b1
      obtain ⟨s', c1, c2, c3⟩ := go s1 (hF.trans b3) (by rw [if_pos g]; exact b2)
      refine ⟨(s', iZ ((i + 1 : Nat) : Int)), ⟨rfl, hlt, c2, c3⟩, fun n' => ?_⟩
      show (f_X12_manyIn p 493 (iZ (l : Int)) (iZ t)).bind _ = _
      rw [m_manyIn p1 p3 p4 hl t1 t2, Option.bind_some, iltT rfl rfl (by omega) (by omega) (by omega), iltT i0 rfl (by omega) (by omega) (by omega), b1', Option.bind_some, c1]
    · obtain ⟨s', c1, c2, c3⟩ := go p hF (by rw [if_neg g, List.append_nil]; exact hR)
      refine ⟨(s', iZ ((i + 1 : Nat) : Int)), ⟨rfl, hlt, c2, c3⟩, fun n' => ?_⟩
      show (f_X12_manyIn p 493 (iZ (l : Int)) (iZ t)).bind _ = _
      rw [m_manyIn p1 p3 p4 hl t1 t2, Option.bind_some, iltT rfl rfl (by omega) (by omega) (by omega), iltF i0 rfl (by omega) (by omega) (by omega), c1]
  · rintro ⟨p, x⟩ ⟨hx, hi, hR, hF⟩
    dsimp only at hx hR hF ⊢
    subst hx
    obtain ⟨p1, p2, p3, p4⟩ := pass hF
    refine ⟨(iZ ((fmT w N (rowL w l t) (rowL w l t).length).length : Int), p), ⟨rfl, hR, hF⟩, fun n' => ?_⟩
    show (f_X12_manyIn p 493 (iZ (l : Int)) (iZ t)).bind _ = _
    rw [m_manyIn p1 p3 p4 hl t1 t2, Option.bind_some, iltF rfl rfl (by omega) (by omega) (by omega), hR.1]
theorem fo_bad (x y : Int32) : f_X12_format_25 σ 493 x y 493 = some (0, ms_si σ 493 7 1) := by
  unfold f_X12_format_25 f_X12_format_26
  rw [nm_s, i_si_same, if_neg (by decide)]
theorem c_rowOf3 (h : InvS σ w) {l : Nat} (hl : l < 4) {t : Int} (t1 : 0 ≤ t) (t2 : t ≤ 2) : ∃ r N s4, f_X10_rowOf σ 0 (iZ (l : Int)) (iZ t) = some (r, s4) ∧ r + 2 ≤ 491 ∧ Rw cN s4 r N (rowL w l t) ∧ Fr FScr σ s4 := by
  by_cases q : t = 0
  · subst q
    refine ⟨3 + 123 + 2 * l, 60, σ, ?_, by omega, h.2.1.2.2.2 l hl, Fr.refl _ _⟩
    unfold f_X10_rowOf
    rw [x_rf1, lineAt_s (a := 3) (Or.inl rfl) hl, Option.bind_some]
    exact if_pos rfl
  · obtain ⟨r, s4, a1, a2, a3, a4⟩ := c_rowOf2 h hl (t := t) (by omega)
    exact ⟨r, 360, s4, a1, by omega, a3, a4⟩
theorem q_format (h : InvF σ w) (x y : Int32) : ∃ r σ1 b σ2, f_X10_format σ 0 x y = some (r, σ1) ∧ f_X12_format σ1 493 x y = some (b, σ2) ∧ Ok r (ms_i σ2 493 7) b ∧ InvF σ2 w := by
  obtain ⟨z, z1, z2, rfl⟩ := iZ_of x
  obtain ⟨t, t1, t2, rfl⟩ := iZ_of y
  have h0 := h
  obtain ⟨⟨p, n, H, b, S, hM⟩, ⟨N, n1, n2, n3⟩, h3, ⟨L, f1, f2⟩, h5⟩ := h
  have hI := hM.1
  have h40 := hI.1.1.1
  have h4 := hI.1.2.2.1
  by_cases q : 0 ≤ z ∧ z ≤ (w 1 : Int) - 1
  · obtain ⟨l, rfl⟩ : ∃ l : Nat, z = (l : Int) := ⟨z.toNat, by omega⟩
    have hl : l < 4 := by omega
    by_cases g : 0 ≤ t ∧ t ≤ 2
    · obtain ⟨k1, k2⟩ := rowL_ok hI.1 hl t
      obtain ⟨r, M, s4, a1, a2, a3, a4⟩ := c_rowOf3 hI hl g.1 g.2
      have hI4 := hI.fr a4
      obtain ⟨s5, b1, b2, b3⟩ := clear_s (e := cN) (σ := s4) f1.1
      have hI5 : ScRep s5 3 w (w 0) := hI4.2.1.1.away b3 h40 (by omega)
      have hF5 : Fr FTxt s4 s5 := b3.mono fun a k q => q
      have hC5 : NmC s5 3 N (w 0) := fun s hs => ((hF5.1 _ _ (by unfold FTxt; omega)).trans (a4.1 _ _ (by unfold FScr; omega))).trans (n2 s hs)
      obtain ⟨σ1, c1, c2, c3⟩ := c_format28 hI.1.1 hI5 hC5 n1 (a3.away b3 (by omega)) a2 k2 k1 b2
      have G1 : Fr (fun a k => FScr a k ∨ FTxt a k) σ σ1 := (a4.mono fun a k q => Or.inl q).trans ((hF5.trans c3).mono fun a k q => Or.inr q)
      have hMw := hI.2.2.fr G1 (by unfold FScr FTxt; intros; omega)
      have G7 : Fr (fun a k => a = 493 ∧ (k = 7 ∨ k = 25)) σ1 (ms_si (ms_si σ1 493 7 0) 493 25 0) := (Fr.si _ _ ⟨rfl, Or.inl rfl⟩).trans (Fr.si _ _ ⟨rfl, Or.inr rfl⟩)
      have hM7 := hMw.fr G7 (by intros; omega)
      obtain ⟨n5, n6, n7, n8⟩ := lnok hI.1 hl
      obtain ⟨s6, d1, d2, d3⟩ := m_layDecomposed hI.1 hl hM7
      have hM8 : Mw s6 494 w := hM7.fr d3 (by unfold FLay; intros; omega)
      obtain ⟨s7, e1, e2, e3⟩ := m_layComposed hI.1.1 rfl hM8 d2 (fun y hy => ⟨(n5 y hy).1, (n5 y hy).2.2⟩) n6
      have d2' : LayS s7 (dF w (ln w l)) (sw w (pn w (ln w l)) : Int) := d2.fr e3 (by unfold FCmp; intros; omega) (by unfold FCmp; omega) (by unfold FCmp; omega)
      have hM9 : Mw s7 494 w := hM8.fr e3 (by unfold FCmp; intros; omega)
      have G8 : Fr (fun a k => (a = 493 ∧ (k = 7 ∨ k = 25)) ∨ FLay a k ∨ FCmp a k) σ1 s7 := ((G7.mono fun a k q => Or.inl q).trans (d3.mono fun a k q => Or.inr (Or.inl q))).trans (e3.mono fun a k q => Or.inr (Or.inr q))
      have n3' : NmM s7 498 N (w 0) := fun s k hs hk => ((G8.1 _ _ (by unfold FLay FCmp; omega)).trans (G1.1 _ _ (by unfold FScr FTxt; omega))).trans (n3 s k hs hk)
      have h25 : FmS s7 [] := ⟨by rw [e3.1 _ _ (by unfold FCmp; omega), d3.1 _ _ (by unfold FLay; omega), i_si_same]; rfl, Aw.nil _ _⟩
      obtain ⟨σ2, j1, j2, j3⟩ := m_format50 hI.1 hM9 n3' n1 d2' e2 hl g.1 g.2 h25
      have hlay : f_X12_layForms (ms_si (ms_si σ1 493 7 0) 493 25 0) 493 (iZ (l : Int)) = some s7 := by
        unfold f_X12_layForms
        rw [d1, Option.bind_some, e1]
        rfl
      have hth : ms_i σ2 493 7 = 0 := by rw [j3.1 _ _ (by unfold FFmt; omega), e3.1 _ _ (by unfold FCmp; omega), d3.1 _ _ (by unfold FLay; omega), i_si_ne (Or.inr (by omega)), i_si_same]
      have G9 : Fr (fun a k => FScr a k ∨ FTxt a k ∨ FFmt a k) σ σ2 := ((G1.mono fun a k q => by rcases q with q | q; exact Or.inl q; exact Or.inr (Or.inl q)).trans (G8.mono fun a k q => by unfold FLay FCmp at q; unfold FScr FTxt FFmt; omega)).trans (j3.mono fun a k q => Or.inr (Or.inr q))
      refine ⟨.inl (iZ ((fmT w N (rowL w l t) (rowL w l t).length).length : Int)), σ1, iZ ((fmT w N (rowL w l t) (rowL w l t).length).length : Int), σ2, ?_, ?_, ⟨hth, rfl⟩, ⟨⟨p, n, H, b, S, hM.frY G9 (by unfold FTxt FFmt; intros; omega) (by unfold FTxt FFmt; intros; omega)⟩, ?_, ?_, ⟨fmT w N (rowL w l t) (rowL w l t).length, ?_, j2⟩, ?_⟩⟩
      · unfold f_X10_format
        rw [needLine_s hI z1 z2, btT q, nd2 t1 t2, btT g, a1, b2_s, x_rf11, b1, Option.bind_some, c1]
      · unfold f_X12_format
        rw [m_isLine hMw h4 z1 z2, Option.bind_some, ibT q, rg2 t1 t2, Option.bind_some, ibT g]
        unfold f_X12_format_26
        rw [nm_s, i_si_same, if_pos rfl, nm_s, hlay, Option.bind_some, j1]
      · exact NmR.fr ⟨N, n1, n2, n3⟩ h40 G9 (by unfold FScr FTxt FFmt; intros; omega) (by unfold FScr FTxt FFmt; intros; omega)
      · exact h3.fr G9 (by unfold FScr FTxt FFmt; omega) (by unfold FScr FTxt FFmt; omega) (by unfold FScr FTxt FFmt; intros; omega) (by unfold FScr FTxt FFmt; intros; omega)
      · have G10 : Fr (fun a k => (a = 493 ∧ (k = 7 ∨ k = 25)) ∨ FLay a k ∨ FCmp a k ∨ FFmt a k) σ1 σ2 := (G8.mono fun a k q => by rcases q with q | q | q; exact Or.inl q; exact Or.inr (Or.inl q); exact Or.inr (Or.inr (Or.inl q))).trans (j3.mono fun a k q => Or.inr (Or.inr (Or.inr q)))
        exact c2.fr G10 (by unfold FLay FCmp FFmt; omega) (by unfold FLay FCmp FFmt; intros; omega)
      · exact h5.fr G9 (by unfold FScr FTxt FFmt; omega) (by unfold FScr FTxt FFmt; omega) (by unfold FScr FTxt FFmt; intros; omega)
    · refine ⟨.inr 0, σ, 0, ms_si σ 493 7 1, ?_, ?_, i_si_same _ _ _ _, h0.scr (fr7 σ 1)⟩
      · unfold f_X10_format
        rw [needLine_s hI z1 z2, btT q, nd2 t1 t2, btF g]
      · unfold f_X12_format
        rw [m_isLine hI.2.2 h4 z1 z2, Option.bind_some, ibT q, rg2 t1 t2, Option.bind_some, ibF g, fo_bad]
  · refine ⟨.inr 0, σ, 0, ms_si σ 493 7 1, ?_, ?_, i_si_same _ _ _ _, h0.scr (fr7 σ 1)⟩
    · unfold f_X10_format
      rw [needLine_s hI z1 z2, btF q]
    · unfold f_X12_format
      rw [m_isLine hI.2.2 h4 z1 z2, Option.bind_some, ibF q, fo_bad]
end Fo
