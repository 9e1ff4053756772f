/-! words, symbols, numbers on both sides -/
section Wd
variable {σ τ : MsSt} {B : Nat → Nat} {E : Nat}
def eqT (B : Nat → Nat) (st : Nat) (cs : List Nat) : Nat → Bool
  | 0 => true
  | k + 1 => eqT B st cs k && decide (B (st + k) = cs.getD k 0)
theorem eqT_down {st : Nat} {cs : List Nat} {k : Nat} : ∀ d, eqT B st cs (k + d) = true → eqT B st cs k = true := by
  intro d
  induction d with
  | zero => intro h; exact h
  | succ d ih =>
    intro h
    have h' : (eqT B st cs (k + d) && decide (B (st + (k + d)) = cs.getD (k + d) 0)) = true := h
    rw [Bool.and_eq_true] at h'
    exact ih h'.1
/-- the token is a given word -/
def wdB (B : Nat → Nat) (st nx kd : Nat) (cs : List Nat) : Bool := decide (kd = 1 ∧ nx = st + cs.length) && eqT B st cs cs.length
theorem bz_b (b : Bool) : ms_bz (b01 (b = true)) = some (b01 (b = true)) := bz_b01
theorem c_word {st nx kd id : Nat} {cs : List Nat} (h : GdC σ B E st nx kd) (hO : TkOK B E st nx kd) (hs : StrIs id cs) : f_X9_isWord σ 1 id = some (b01 (wdB B st nx kd cs = true)) := by
  obtain ⟨h1, h2, h3, h4, h5, h6, h7, h8⟩ := h
  have hE := h1.2.1
  have o1 := hO.1
  have o2 := hO.2.1
  have o3 := hO.2.2.1
  unfold f_X9_isWord
  by_cases k1 : kd = 1
  · have ed : ms_i σ 1 4 - ms_i σ 1 3 = iZ ((nx : Int) - (st : Int)) := by rw [h2, h3, iZ_sub]
    have hl := hs.2.1
    rw [ieqT h4 i1 (by omega), len_s hs, Option.bind_some]
    by_cases k2 : nx = st + cs.length
    · rw [ieqT ed rfl (by omega)]
      have key := lp0 (S := Int32) (f := fun n t => f_X9_isWord_28 σ n 1 id t) (Q := fun r => r = b01 (wdB B st nx kd cs = true))
        (fun i t => t = iZ (i : Int) ∧ i ≤ cs.length ∧ eqT B st cs i = true) cs.length (s := 0) ⟨rfl, Nat.zero_le _, rfl⟩ (by omega) ?_ ?_
      · obtain ⟨r, q1, rfl⟩ := key
        exact q1
      · rintro i t ⟨rfl, hi, ht⟩ hlt
        have hb := (h1.2.2 (st + i) (by omega)).1
        have hc := hs.2.2 _ (List.getElem_mem hlt)
        have e1 : ms_i σ 1 3 + iZ (i : Int) = iZ ((st + i : Nat) : Int) := by rw [h2, iZ_add]; rfl
        have e2 : iZ (i : Int) + 1 = iZ ((i + 1 : Nat) : Int) := by rw [i1, iZ_add]; rfl
        have hsb := sB_lo (B (st + i)) hb
        have hg : cs.getD i 0 = cs[i] := getD_get hlt
        by_cases g : B (st + i) = cs[i]
        · left
          have es : sB (B (st + i)) = (B (st + i) : Int) := if_pos (by omega)
          refine ⟨iZ ((i + 1 : Nat) : Int), ⟨rfl, hlt, ?_⟩, fun n' => ?_⟩
          · show (eqT B st cs i && decide (B (st + i) = cs.getD i 0)) = true
            rw [ht, hg, decide_eq_true g]
            rfl
          · show (f_J0_length_8abf5 σ id).bind _ = _
            rw [len_s hs, Option.bind_some, iltT rfl rfl (by omega) (by omega) (by omega), chr_s hs hlt, Option.bind_some, e1, c_byteAt h1 (by omega), Option.bind_some, ieqT rfl rfl (by omega), e2]
        · right
          refine ⟨0, ?_, fun n' => ?_⟩
          · have hf : ¬ wdB B st nx kd cs = true := fun q => by
              unfold wdB at q
              rw [Bool.and_eq_true] at q
              have q2 := eqT_down (k := i + 1) (cs.length - (i + 1)) (by rw [show i + 1 + (cs.length - (i + 1)) = cs.length from by omega]; exact q.2)
              have q3 : (eqT B st cs i && decide (B (st + i) = cs.getD i 0)) = true := q2
              rw [Bool.and_eq_true, decide_eq_true_iff, hg] at q3
              exact g q3.2
            rw [b01F hf]
          · show (f_J0_length_8abf5 σ id).bind _ = _
            rw [len_s hs, Option.bind_some, iltT rfl rfl (by omega) (by omega) (by omega), chr_s hs hlt, Option.bind_some, e1, c_byteAt h1 (by omega), Option.bind_some, ieqF rfl rfl (by unfold sB; split <;> omega) (by omega) (by omega) (by omega) (by omega)]
      · rintro t ⟨rfl, hi, ht⟩
        refine ⟨1, ?_, fun n' => ?_⟩
        · rw [b01T (by unfold wdB; rw [decide_eq_true ⟨k1, k2⟩, ht]; rfl)]
        · show (f_J0_length_8abf5 σ id).bind _ = _
          rw [len_s hs, Option.bind_some, iltF rfl rfl (by omega) (by omega) (by omega)]
    · rw [ieqF ed rfl (by omega) (by omega) (by omega) (by omega) (by omega), b01F (by unfold wdB; rw [decide_eq_false (fun q => k2 q.2), Bool.false_and]; decide)]
  · rw [ieqF h4 i1 (by omega) (by omega) (by omega) (by omega) (by omega), b01F (by unfold wdB; rw [decide_eq_false (fun q => k1 q.1), Bool.false_and]; decide)]
theorem m_word39 {st nx kd id : Nat} {cs : List Nat} (h1 : TxM τ B E) (h2 : ms_i τ 493 30 = iZ (st : Int)) (hs : StrIs id cs) (b : Bool) (hb : b = true → st + cs.length ≤ E) : f_X12_isWord_39 τ ms_fuel 493 id (b01 (b = true)) 0 = some (b01 ((b && eqT B st cs cs.length) = true)) := by
  have hl := hs.2.1
  have l2 : ms_ln 512 = 900 := m_ln.2.2.2.2.2.2.2.2.2.2.2.2.2.2.2.2.1
  have hE := h1.2.1
  have key := lp0 (S := Int32 × Int32) (f := fun n t => f_X12_isWord_39 τ n 493 id t.1 t.2) (Q := fun r => r = b01 ((b && eqT B st cs cs.length) = true))
    (fun i t => t.1 = b01 ((b && eqT B st cs i) = true) ∧ t.2 = iZ (i : Int) ∧ i ≤ cs.length) cs.length (s := (b01 (b = true), 0)) ⟨by show b01 (b = true) = b01 ((b && true) = true); cases b <;> rfl, rfl, Nat.zero_le _⟩ (by omega) ?_ ?_
  · obtain ⟨r, q1, rfl⟩ := key
    exact q1
  · rintro i ⟨f, t⟩ ⟨hf, ht, hi⟩ hlt
    dsimp only at hf ht ⊢
    subst ht; subst hf
    have hc := hs.2.2 _ (List.getElem_mem hlt)
    have e1 : ms_i τ 493 30 + iZ (i : Int) = iZ ((st + i : Nat) : Int) := by rw [h2, iZ_add]; rfl
    have e2 : iZ (i : Int) + 1 = iZ ((i + 1 : Nat) : Int) := by rw [i1, iZ_add]; rfl
    have hg : cs.getD i 0 = cs[i] := getD_get hlt
    by_cases g : (b && eqT B st cs i) = true
    · left
      have g2 := (Bool.and_eq_true _ _).mp g
      have hE2 := hb g2.1
      have hbb := (h1.2.2 (st + i) (by omega)).1
      refine ⟨(b01 ((b && eqT B st cs (i + 1)) = true), iZ ((i + 1 : Nat) : Int)), ⟨rfl, rfl, hlt⟩, fun n' => ?_⟩
      show (if b01 ((b && eqT B st cs i) = true) = 0 then _ else _) = _
      have ee : eqT B st cs (i + 1) = (eqT B st cs i && decide (B (st + i) = cs.getD i 0)) := rfl
      rw [ibT g, len_s hs, Option.bind_some, iltT rfl rfl (by omega) (by omega) (by omega), chr_s hs hlt, Option.bind_some, e1, m_rf26, ald_iZ (by omega) (by omega), Option.bind_some, (h1.2.2 (st + i) (by omega)).2, e2]
      by_cases g3 : B (st + i) = cs[i]
      · rw [ieqT rfl rfl (by omega), b01T (by rw [ee, g2.1, g2.2, hg, decide_eq_true g3]; rfl)]
      · rw [ieqF rfl rfl (by omega) (by omega) (by omega) (by omega) (by omega), b01F (by rw [ee, g2.1, g2.2, hg, decide_eq_false g3]; decide)]
    · right
      refine ⟨0, ?_, fun n' => ?_⟩
      · rw [b01F (fun q => ?_)]
        rw [Bool.and_eq_true] at q
        exact g ((Bool.and_eq_true _ _).mpr ⟨q.1, eqT_down (cs.length - i) (by rw [show i + (cs.length - i) = cs.length from by omega]; exact q.2)⟩)
      · show (if b01 ((b && eqT B st cs i) = true) = 0 then _ else _) = _
        rw [ibF g, bz_b, Option.bind_some, b01F g]
  · rintro ⟨f, t⟩ ⟨hf, ht, hi⟩
    dsimp only at hf ht ⊢
    subst ht; subst hf
    refine ⟨b01 ((b && eqT B st cs cs.length) = true), rfl, fun n' => ?_⟩
    show (if b01 ((b && eqT B st cs cs.length) = true) = 0 then _ else _) = _
    by_cases g : (b && eqT B st cs cs.length) = true
    · rw [ibT g, len_s hs, Option.bind_some, iltF rfl rfl (by omega) (by omega) (by omega), bz_b, Option.bind_some]
    · rw [ibF g, bz_b, Option.bind_some]
theorem m_word {st nx kd id : Nat} {cs : List Nat} (h : GdM τ B E st nx kd) (hO : TkOK B E st nx kd) (hs : StrIs id cs) : f_X12_isWord τ 493 id = some (b01 (wdB B st nx kd cs = true)) := by
  obtain ⟨h1, h2, h3, h4, h5⟩ := h
  have hE := h1.2.1
  have o1 := hO.1
  have o2 := hO.2.1
  have o3 := hO.2.2.1
  have hl := hs.2.1
  have ed : ms_i τ 493 29 - ms_i τ 493 30 = iZ ((nx : Int) - (st : Int)) := by rw [h2, h3, iZ_sub]
  have hw : ∀ b : Bool, b = decide (kd = 1 ∧ nx = st + cs.length) → f_X12_isWord_39 τ ms_fuel 493 id (b01 (b = true)) 0 = some (b01 (wdB B st nx kd cs = true)) := fun b hb => by
    have := m_word39 (nx := nx) (kd := kd) h1 h2 hs b (fun q => by rw [hb, decide_eq_true_iff] at q; omega)
    rw [this]
    unfold wdB
    rw [hb]
  unfold f_X12_isWord
  rw [if_pos h5]
  by_cases k1 : kd = 1
  · rw [ieqT h4 i1 (by omega), len_s hs, Option.bind_some]
    by_cases k2 : nx = st + cs.length
    · rw [ieqT rfl ed (by omega)]
      exact hw true (decide_eq_true ⟨k1, k2⟩).symm
    · rw [ieqF rfl ed (by omega) (by omega) (by omega) (by omega) (by omega)]
      exact hw false (decide_eq_false (fun q => k2 q.2)).symm
  · rw [ieqF h4 i1 (by omega) (by omega) (by omega) (by omega) (by omega)]
    exact hw false (decide_eq_false (fun q => k1 q.1)).symm
theorem m_wordB {id : Nat} {cs : List Nat} (h1 : TxM τ B E) {st : Nat} (h2 : ms_i τ 493 30 = iZ (st : Int)) (h5 : ¬ ms_i τ 493 32 = 0) (hs : StrIs id cs) : f_X12_isWord τ 493 id = some 0 := by
  unfold f_X12_isWord
  rw [if_neg h5]
  exact m_word39 (nx := 0) (kd := 0) h1 h2 hs false (fun q => by cases q)
/-- both look for a word -/
theorem s_word (h : Sim σ τ B E) {id id' : Nat} {cs : List Nat} (hs : StrIs id cs) (hs' : StrIs id' cs) : ∃ b : Bool, f_X9_isWord σ 1 id = some (b01 (b = true)) ∧ f_X12_isWord τ 493 id' = some (b01 (b = true)) ∧ (b = true → okT σ) ∧ ∀ st nx kd, TkOK B E st nx kd → GdC σ B E st nx kd → GdM τ B E st nx kd → b = wdB B st nx kd cs := by
  rcases h with ⟨st, nx, kd, k1, k2, k3⟩ | ⟨c, p, k1, k2, k3, k4, k5, k6, k7, st, nx, kd, k8⟩
  · refine ⟨wdB B st nx kd cs, c_word k2 k1 hs, m_word k3 k1 hs', fun _ => k2.2.2.2.2.1, fun st' nx' kd' _ g2 _ => ?_⟩
    obtain ⟨h1, h2, h3, h4, h5⟩ := k2
    obtain ⟨g1, g2, g3, g4, g5⟩ := g2
    have hE := h1.2.1
    have o := k1
    have e1 := h2.symm.trans g2
    have e2 := h3.symm.trans g3
    have e3 := h4.symm.trans g4
    have b1 : ∀ x : Nat, ms_i σ 1 3 = iZ (x : Int) → True := fun _ _ => trivial
    have := c_word (σ := σ) (st := st) (nx := nx) (kd := kd) ⟨h1, h2, h3, h4, h5⟩ k1 hs
    have t2 := c_word (σ := σ) (st := st') (nx := nx') (kd := kd') ⟨g1, g2, g3, g4, g5⟩ ‹_› hs
    rw [this] at t2
    have t3 := Option.some.inj t2
    cases q1 : wdB B st nx kd cs <;> cases q2 : wdB B st' nx' kd' cs
    · rfl
    · rw [q1, q2] at t3; exact absurd t3 (by decide)
    · rw [q1, q2] at t3; exact absurd t3 (by decide)
    · rfl
  · refine ⟨false, ?_, ?_, fun q => absurd q (by decide), fun st' nx' kd' _ g2 _ => ?_⟩
    · unfold f_X9_isWord
      rw [ieqF (a := 0) (b := 1) k5.1 i1 (by omega) (by omega) (by omega) (by omega) (by omega)]
      rfl
    · exact m_wordB k8.2.1 k8.2.2.1 (by rw [k6]; exact iZ_ne0 k1 k2) hs'
    · exact absurd (k5.2.1.symm.trans g2.2.2.2.2.1) (iZ_ne0 k1 k2)
/-- both look for a symbol -/
theorem s_symbol (h : Sim σ τ B E) {c : Nat} (hc : c < 128) : ∃ b : Bool, f_X9_isSymbol σ 1 (iZ (c : Int)) = some (b01 (b = true)) ∧ f_X12_isSymbol τ 493 (iZ (c : Int)) = some (b01 (b = true)) ∧ (b = true → okT σ) := by
  have l2 : ms_ln 512 = 900 := m_ln.2.2.2.2.2.2.2.2.2.2.2.2.2.2.2.2.1
  rcases h with ⟨st, nx, kd, k1, k2, k3⟩ | ⟨e, p, k1, k2, k3, k4, k5, k6, k7, k8⟩
  · obtain ⟨h1, h2, h3, h4, h5, h6, h7, h8⟩ := k2
    obtain ⟨g1, g2, g3, g4, g5⟩ := k3
    have hE := h1.2.1
    have o1 := k1.1
    have o2 := k1.2.1
    have o3 := k1.2.2.1
    by_cases q : kd = 3
    · have hlt := k1.2.2.2.2.2.2 (by omega)
      have hb := (h1.2.2 st (by omega)).1
      have hsb := sB_lo (B st) hb
      refine ⟨decide (B st = c), ?_, ?_, fun _ => h5⟩
      · unfold f_X9_isSymbol
        rw [ieqT h4 i3 (by omega)]
        by_cases q2 : B st = c
        · rw [ieqT (h8 q) rfl (by unfold sB; split <;> omega), b01T (decide_eq_true q2)]
        · rw [ieqF (h8 q) rfl (by unfold sB; split <;> omega) (by omega) (by omega) (by omega) (by omega), b01F (by rw [decide_eq_false q2]; decide)]
      · unfold f_X12_isSymbol
        rw [if_pos g5, ieqT g4 i3 (by omega), m_rf26, g2, ald_iZ (by omega) (by omega), Option.bind_some]
        by_cases q2 : B st = c
        · rw [ieqT (g1.2.2 st (by omega)).2 rfl (by omega), b01T (decide_eq_true q2)]
        · rw [ieqF (g1.2.2 st (by omega)).2 rfl (by omega) (by omega) (by omega) (by omega) (by omega), b01F (by rw [decide_eq_false q2]; decide)]
    · refine ⟨false, ?_, ?_, fun g => absurd g (by decide)⟩
      · unfold f_X9_isSymbol
        rw [ieqF h4 i3 (by omega) (by omega) (by omega) (by omega) (by omega)]
        rfl
      · unfold f_X12_isSymbol
        rw [if_pos g5, ieqF g4 i3 (by omega) (by omega) (by omega) (by omega) (by omega)]
        rfl
  · refine ⟨false, ?_, ?_, fun g => absurd g (by decide)⟩
    · unfold f_X9_isSymbol
      rw [ieqF (a := 0) (b := 3) k5.1 i3 (by omega) (by omega) (by omega) (by omega) (by omega)]
      rfl
    · unfold f_X12_isSymbol
      rw [if_neg (by rw [k6]; exact iZ_ne0 k1 k2)]
      rfl
end Wd
