/-! names found; what ends whatever lies there -/
section Fi
variable {σ τ : MsSt} {B N : Nat → Nat} {E : Nat}
def ltr (B : Nat → Nat) (st nx k : Nat) : Nat := if st + k < nx then B (st + k) else 0
theorem ltr_lt {st nx : Nat} (hO : TkOK B E st nx 1) (k : Nat) : ltr B st nx k = 0 ∨ (97 ≤ ltr B st nx k ∧ ltr B st nx k ≤ 122) := by
  unfold ltr
  by_cases q : st + k < nx
  · rw [if_pos q]
    exact Or.inr (letB_iff.mp (hO.2.2.2.2.1 rfl (st + k) (by omega) q))
  · rw [if_neg q]
    exact Or.inl rfl
theorem ltr_128 {st nx : Nat} (hO : TkOK B E st nx 1) (k : Nat) : ltr B st nx k < 128 := by
  rcases ltr_lt hO k with g | g <;> omega
def pkT (B : Nat → Nat) (st nx : Nat) : Nat → Nat
  | 0 => 0
  | k + 1 => pkT B st nx k + ltr B st nx k * 2 ^ (8 * k)
theorem pkT_lt {st nx : Nat} (hO : TkOK B E st nx 1) : ∀ k, k ≤ 4 → pkT B st nx k < 2 ^ (8 * k) := by
  intro k
  induction k with
  | zero => intro _; show 0 < 2 ^ (8 * 0); decide
  | succ k ih =>
    intro hk
    have h1 := ih (by omega)
    have h2 := ltr_128 hO k
    show pkT B st nx k + ltr B st nx k * 2 ^ (8 * k) < 2 ^ (8 * (k + 1))
    have e : 2 ^ (8 * (k + 1)) = 256 * 2 ^ (8 * k) := by rw [show 8 * (k + 1) = 8 + 8 * k from by omega, Nat.pow_add]
    have h3 : ltr B st nx k * 2 ^ (8 * k) ≤ 127 * 2 ^ (8 * k) := Nat.mul_le_mul_right _ (by omega)
    rw [e]
    omega
theorem pkT_4 {st nx : Nat} : pkT B st nx 4 = pkN (ltr B st nx 0) (ltr B st nx 1) (ltr B st nx 2) (ltr B st nx 3) := by
  show 0 + ltr B st nx 0 * 1 + ltr B st nx 1 * 256 + ltr B st nx 2 * 65536 + ltr B st nx 3 * 16777216 = _
  unfold pkN
  omega
theorem pkT_end {st nx k : Nat} (h : ¬ st + k < nx) : ∀ d, pkT B st nx (k + d) = pkT B st nx k := by
  intro d
  induction d with
  | zero => rfl
  | succ d ih =>
    show pkT B st nx (k + d) + ltr B st nx (k + d) * 2 ^ (8 * (k + d)) = _
    have : ltr B st nx (k + d) = 0 := if_neg (by omega)
    rw [this, Nat.zero_mul, Nat.add_zero, ih]
def nmH (B : Nat → Nat) (st nx : Nat) : Nat := pkN (ltr B st nx 0) (ltr B st nx 1) (ltr B st nx 2) (ltr B st nx 3)
theorem c_packed {st nx : Nat} (h : GdC σ B E st nx 1) (hO : TkOK B E st nx 1) : f_X9_packedName σ 1 = some (iZ (nmH B st nx : Int)) := by
  obtain ⟨h1, h2, h3, h4⟩ := h
  have hE := h1.2.1
  have o1 := hO.1
  have o2 := hO.2.1
  unfold nmH
  rw [← pkT_4]
  have key := lp0 (S := Int32 × Int32) (f := fun n t => f_X9_packedName_4 σ n 1 t.1 t.2) (Q := fun r => r = iZ (pkT B st nx 4 : Int))
    (fun i t => t.1 = iZ (pkT B st nx i : Int) ∧ t.2 = iZ (i : Int) ∧ i ≤ 4) 4 (s := (0, 0)) ⟨rfl, rfl, by omega⟩ (by omega) ?_ ?_
  · obtain ⟨r, q1, rfl⟩ := key
    exact q1
  · rintro i ⟨a, x⟩ ⟨ha, hx, hi⟩ hlt
    dsimp only at ha hx ⊢
    subst ha; subst hx
    have e1 : ms_i σ 1 3 + iZ (i : Int) = iZ ((st + i : Nat) : Int) := by rw [h2, iZ_add]; rfl
    have e2 : iZ (i : Int) + 1 = iZ ((i + 1 : Nat) : Int) := by rw [i1, iZ_add]; rfl
    by_cases g : st + i < nx
    · left
      have hl := ltr_128 hO i
      have el : ltr B st nx i = B (st + i) := if_pos g
      have es : sB (B (st + i)) = (ltr B st nx i : Int) := by rw [el]; exact if_pos (by omega)
      refine ⟨(iZ (pkT B st nx (i + 1) : Int), iZ ((i + 1 : Nat) : Int)), ⟨rfl, rfl, hlt⟩, fun n' => ?_⟩
      show (if iZ (i : Int) < 4 then _ else _) = _
      rw [iltT rfl i4 (by omega) (by omega) (by omega), e1, iltT rfl h3 (by omega) (by omega) (by omega), c_byteAt h1 (by omega), Option.bind_some, es, or8 hlt (pkT_lt hO i (by omega)) hl, e2]
      rfl
    · right
      refine ⟨iZ (pkT B st nx i : Int), ?_, fun n' => ?_⟩
      · rw [show (4 : Nat) = i + (4 - i) from by omega, pkT_end g]
      · show (if iZ (i : Int) < 4 then _ else _) = _
        rw [iltT rfl i4 (by omega) (by omega) (by omega), e1, iltF rfl h3 (by omega) (by omega) (by omega)]
  · rintro ⟨a, x⟩ ⟨ha, hx, hi⟩
    dsimp only at ha hx ⊢
    subst ha; subst hx
    refine ⟨iZ (pkT B st nx 4 : Int), rfl, fun n' => ?_⟩
    show (if iZ ((4 : Nat) : Int) < 4 then _ else _) = _
    rw [iltF rfl i4 (by omega) (by omega) (by omega)]
theorem c_byteT (x : Int32) : ∃ v, f_X9_byteAt σ 1 x = some v := by
  obtain ⟨z, z1, z2, rfl⟩ := iZ_of x
  obtain ⟨r0, l2⟩ := t_ln
  unfold f_X9_byteAt
  by_cases g : z < 0
  · exact ⟨0, by rw [iltT rfl i0 (by omega) g (by omega)]⟩
  · rw [iltF rfl i0 (by omega) (by omega) (by omega), r0, l2]
    by_cases g2 : z < 900
    · obtain ⟨k, rfl⟩ : ∃ k : Nat, z = (k : Int) := ⟨z.toNat, by omega⟩
      exact ⟨_, by rw [iltT rfl (iZ_nat 900) (by omega) (by omega) (by omega), ald_iZ (by omega) (by omega), Option.bind_some]⟩
    · exact ⟨0, by rw [iltF rfl (iZ_nat 900) (by omega) (by omega) (by omega)]⟩
theorem c_packT : ∃ v, f_X9_packedName σ 1 = some v := by
  have key := lp0 (S := Int32 × Int32) (f := fun n t => f_X9_packedName_4 σ n 1 t.1 t.2) (Q := fun _ => True)
    (fun i t => t.2 = iZ (i : Int) ∧ i ≤ 4) 4 (s := (0, 0)) ⟨rfl, by omega⟩ (by omega) ?_ ?_
  · obtain ⟨r, q1, -⟩ := key
    exact ⟨r, q1⟩
  · rintro i ⟨a, x⟩ ⟨hx, hi⟩ hlt
    dsimp only at hx ⊢
    subst hx
    have e2 : iZ (i : Int) + 1 = iZ ((i + 1 : Nat) : Int) := by rw [i1, iZ_add]; rfl
    by_cases g : ms_i σ 1 3 + iZ (i : Int) < ms_i σ 1 4
    · left
      obtain ⟨v, hv⟩ := c_byteT (σ := σ) (ms_i σ 1 3 + iZ (i : Int))
      refine ⟨(a ||| (v <<< ((8 * iZ (i : Int)) &&& 31)), iZ ((i + 1 : Nat) : Int)), ⟨rfl, hlt⟩, fun n' => ?_⟩
      show (if iZ (i : Int) < 4 then _ else _) = _
      rw [iltT rfl i4 (by omega) (by omega) (by omega), if_pos g, hv, Option.bind_some, e2]
    · right
      refine ⟨a, trivial, fun n' => ?_⟩
      show (if iZ (i : Int) < 4 then _ else _) = _
      rw [iltT rfl i4 (by omega) (by omega) (by omega), if_neg g]
  · rintro ⟨a, x⟩ ⟨hx, hi⟩
    dsimp only at hx ⊢
    subst hx
    refine ⟨a, trivial, fun n' => ?_⟩
    show (if iZ ((4 : Nat) : Int) < 4 then _ else _) = _
    rw [iltF rfl i4 (by omega) (by omega) (by omega)]
/-! the signs told, whatever they hold -/
def SgA (q : Nat) : Prop := (∃ s, s < 40 ∧ q = 140 + 2 + 3 * s) ∨ q = 271
theorem told_t (x : Int32) : ∃ q, f_X6_told σ 140 x = some q ∧ SgA q := by
  obtain ⟨z, z1, z2, rfl⟩ := iZ_of x
  by_cases g : 0 ≤ z ∧ z < 40
  · obtain ⟨k, rfl⟩ : ∃ k : Nat, z = (k : Int) := ⟨z.toNat, by omega⟩
    exact ⟨_, told_s (a := 140) (Or.inr rfl) (by omega), Or.inl ⟨k, by omega, rfl⟩⟩
  · obtain ⟨r0, r1, r2, r3, r4, r5⟩ := sc_refs (a := 140) (Or.inr rfl)
    refine ⟨271, ?_, Or.inr rfl⟩
    unfold f_X6_told
    by_cases g2 : z < 0
    · rw [iltT rfl i0 (by omega) g2 (by omega), r2]
    · rw [iltF rfl i0 (by omega) (by omega) (by omega), r0, r4, iltF rfl (iZ_nat 40) (by omega) (by omega) (by omega), r2]
theorem kind_t (x : Int32) : ∃ v, f_X6_kindOf σ 140 x = some v := by
  obtain ⟨q, h1, -⟩ := told_t (σ := σ) x
  exact ⟨ms_i σ q 1, by unfold f_X6_kindOf; rw [h1, Option.bind_some]⟩
theorem class_t (x : Int32) : ∃ v, f_X6_classOf σ 140 x = some v := by
  obtain ⟨q, h1, -⟩ := told_t (σ := σ) x
  exact ⟨ms_i σ q 4, by unfold f_X6_classOf; rw [h1, Option.bind_some]⟩
theorem name_t {n : Nat} (h : ms_i σ 140 4 = iZ (n : Int)) (hn : n ≤ 40) (x : Int32) : ∃ v, f_X6_findName σ 140 x = some v := by
  have key := lp0 (S := Int32) (f := fun n t => f_X6_findName_2 σ n 140 x t) (Q := fun _ => True) (fun i t => t = iZ (i : Int) ∧ i ≤ n) n (s := 0) ⟨rfl, Nat.zero_le _⟩ (by omega) ?_ ?_
  · obtain ⟨r, q1, -⟩ := key
    exact ⟨r, q1⟩
  · rintro i t ⟨rfl, hi⟩ hlt
    have e2 : iZ (i : Int) + 1 = iZ ((i + 1 : Nat) : Int) := by rw [i1, iZ_add]; rfl
    obtain ⟨q, h1, -⟩ := told_t (σ := σ) (iZ (i : Int))
    by_cases g : ms_i σ q 2 = x
    · right
      refine ⟨iZ (i : Int), trivial, fun n' => ?_⟩
      show (if iZ (i : Int) < ms_i σ 140 4 then _ else _) = _
      rw [iltT rfl h (by omega) (by omega) (by omega), h1, Option.bind_some, if_pos g]
    · left
      refine ⟨iZ ((i + 1 : Nat) : Int), ⟨rfl, hlt⟩, fun n' => ?_⟩
      show (if iZ (i : Int) < ms_i σ 140 4 then _ else _) = _
      rw [iltT rfl h (by omega) (by omega) (by omega), h1, Option.bind_some, if_neg g, e2]
  · rintro t ⟨rfl, hi⟩
    refine ⟨-1, trivial, fun n' => ?_⟩
    show (if iZ (n : Int) < ms_i σ 140 4 then _ else _) = _
    rw [iltF rfl h (by omega) (by omega) (by omega)]
theorem side_t {n : Nat} (h : ms_i σ 140 4 = iZ (n : Int)) (hn : n ≤ 40) (x y : Int32) : ∃ v, f_X6_sideOfClass σ 140 x y = some v := by
  have key := lp0 (S := Int32) (f := fun n t => f_X6_sideOfClass_2 σ n 140 x y t) (Q := fun _ => True) (fun i t => t = iZ (i : Int) ∧ i ≤ n) n (s := 0) ⟨rfl, Nat.zero_le _⟩ (by omega) ?_ ?_
  · obtain ⟨r, q1, -⟩ := key
    exact ⟨r, q1⟩
  · rintro i t ⟨rfl, hi⟩ hlt
    have e2 : iZ (i : Int) + 1 = iZ ((i + 1 : Nat) : Int) := by rw [i1, iZ_add]; rfl
    obtain ⟨q, h1, -⟩ := told_t (σ := σ) (iZ (i : Int))
    obtain ⟨v1, hv1⟩ := kind_t (σ := σ) (iZ (i : Int))
    obtain ⟨v2, hv2⟩ := class_t (σ := σ) (iZ (i : Int))
    by_cases g0 : iZ (i : Int) = y
    · left
      refine ⟨iZ ((i + 1 : Nat) : Int), ⟨rfl, hlt⟩, fun n' => ?_⟩
      show (if iZ (i : Int) < ms_i σ 140 4 then _ else _) = _
      rw [iltT rfl h (by omega) (by omega) (by omega), if_pos g0, e2]
    · by_cases g1 : v1 = 1
      · by_cases g2 : v2 = x
        · right
          refine ⟨ms_i σ q 5, trivial, fun n' => ?_⟩
          show (if iZ (i : Int) < ms_i σ 140 4 then _ else _) = _
          rw [iltT rfl h (by omega) (by omega) (by omega), if_neg g0, hv1, Option.bind_some, if_pos g1, hv2, Option.bind_some, if_pos g2, h1, Option.bind_some]
        · left
          refine ⟨iZ ((i + 1 : Nat) : Int), ⟨rfl, hlt⟩, fun n' => ?_⟩
          show (if iZ (i : Int) < ms_i σ 140 4 then _ else _) = _
          rw [iltT rfl h (by omega) (by omega) (by omega), if_neg g0, hv1, Option.bind_some, if_pos g1, hv2, Option.bind_some, if_neg g2, e2]
      · left
        refine ⟨iZ ((i + 1 : Nat) : Int), ⟨rfl, hlt⟩, fun n' => ?_⟩
        show (if iZ (i : Int) < ms_i σ 140 4 then _ else _) = _
        rw [iltT rfl h (by omega) (by omega) (by omega), if_neg g0, hv1, Option.bind_some, if_neg g1, e2]
  · rintro t ⟨rfl, hi⟩
    refine ⟨-1, trivial, fun n' => ?_⟩
    show (if iZ (n : Int) < ms_i σ 140 4 then _ else _) = _
    rw [iltF rfl h (by omega) (by omega) (by omega)]
theorem pair_t {n : Nat} (h : ms_i σ 140 4 = iZ (n : Int)) (hn : n ≤ 40) (x y : Int32) : ∃ v, f_X6_findPair σ 140 x y = some v := by
  have key := lp0 (S := Int32) (f := fun n t => f_X6_findPair_2 σ n 140 x y t) (Q := fun _ => True) (fun i t => t = iZ (i : Int) ∧ i ≤ n) n (s := 0) ⟨rfl, Nat.zero_le _⟩ (by omega) ?_ ?_
  · obtain ⟨r, q1, -⟩ := key
    exact ⟨r, q1⟩
  · rintro i t ⟨rfl, hi⟩ hlt
    have e2 : iZ (i : Int) + 1 = iZ ((i + 1 : Nat) : Int) := by rw [i1, iZ_add]; rfl
    obtain ⟨q, h1, -⟩ := told_t (σ := σ) (iZ (i : Int))
    have hh : ∀ n', f_X6_findPair_2 σ (n' + 1) 140 x y (iZ (i : Int)) = (if ms_i σ q 1 = 2 then (if ms_i σ q 11 = x then (if ms_i σ q 12 = y then some (iZ (i : Int)) else f_X6_findPair_2 σ n' 140 x y (iZ (i : Int) + 1)) else f_X6_findPair_2 σ n' 140 x y (iZ (i : Int) + 1)) else f_X6_findPair_2 σ n' 140 x y (iZ (i : Int) + 1)) := by
      intro n'
      show (if iZ (i : Int) < ms_i σ 140 4 then _ else _) = _
      rw [iltT rfl h (by omega) (by omega) (by omega), h1, Option.bind_some]
    by_cases g : ms_i σ q 1 = 2 ∧ ms_i σ q 11 = x ∧ ms_i σ q 12 = y
    · right
      refine ⟨iZ (i : Int), trivial, fun n' => ?_⟩
      rw [hh, if_pos g.1, if_pos g.2.1, if_pos g.2.2]
    · left
      refine ⟨iZ ((i + 1 : Nat) : Int), ⟨rfl, hlt⟩, fun n' => ?_⟩
      rw [hh, e2]
      by_cases g1 : ms_i σ q 1 = 2
      · rw [if_pos g1]
        by_cases g2 : ms_i σ q 11 = x
        · rw [if_pos g2, if_neg (fun g3 => g ⟨g1, g2, g3⟩)]
        · rw [if_neg g2]
      · rw [if_neg g1]
  · rintro t ⟨rfl, hi⟩
    refine ⟨-1, trivial, fun n' => ?_⟩
    show (if iZ (n : Int) < ms_i σ 140 4 then _ else _) = _
    rw [iltF rfl h (by omega) (by omega) (by omega)]
/-! a name among those told -/
def nmP (N : Nat → Nat) (l0 l1 l2 l3 s : Nat) : Bool := decide (N (4 * s) = l0 ∧ N (4 * s + 1) = l1 ∧ N (4 * s + 2) = l2 ∧ N (4 * s + 3) = l3)
theorem pk_inj {a b c d a' b' c' d' : Nat} (ha : a < 128) (hb : b < 128) (hc : c < 128) (hd : d < 128) (ha' : a' < 128) (hb' : b' < 128) (hc' : c' < 128) (hd' : d' < 128) : pkN a b c d = pkN a' b' c' d' ↔ a = a' ∧ b = b' ∧ c = c' ∧ d = d' := by
  unfold pkN
  omega
theorem c_findName {n l0 l1 l2 l3 : Nat} (h : ms_i σ 140 4 = iZ (n : Int)) (hn : n ≤ 40) (hC : NmC σ 140 N n) (hN : NmOK N n) (h0 : l0 < 128) (h1 : l1 < 128) (h2 : l2 < 128) (h3 : l3 < 128) : f_X6_findName σ 140 (iZ (pkN l0 l1 l2 l3 : Int)) = some (iZ (fsU (nmP N l0 l1 l2 l3) 0 n)) := by
  have hp := (pk_get h0 h1 h2 h3).1
  have key := fs_loop (f := fun n' i => f_X6_findName_2 σ n' 140 (iZ (pkN l0 l1 l2 l3 : Int)) i) (o := fun z => some (iZ z)) (e := some (-1)) (nmP N l0 l1 l2 l3) n ?_ ?_ n 0 ms_fuel (by omega) (by show _ < 100000; omega)
  · unfold f_X6_findName
    refine key.trans ?_
    by_cases q : fsU (nmP N l0 l1 l2 l3) 0 n = -1
    · rw [if_pos q, q]
      rfl
    · rw [if_neg q]
  · intro n' t ht
    have hb := (hN.get ht (k := 0) (by omega)).1
    show (if iZ (t : Int) < ms_i σ 140 4 then _ else _) = _
    have e1 : iZ (t : Int) + 1 = iZ ((t : Int) + 1) := by rw [i1, iZ_add]
    rw [iltT rfl h (by omega) (by omega) (by omega), told_s (a := 140) (Or.inr rfl) (by omega), Option.bind_some, ieq (hC t ht) rfl (by omega) (by omega) (by omega) (by omega), e1]
    have hi := pk_inj (hN.lt ht (k := 0) (by omega)) (hN.lt ht (k := 1) (by omega)) (hN.lt ht (k := 2) (by omega)) (hN.lt ht (k := 3) (by omega)) h0 h1 h2 h3
    unfold nmP
    by_cases g : N (4 * t) = l0 ∧ N (4 * t + 1) = l1 ∧ N (4 * t + 2) = l2 ∧ N (4 * t + 3) = l3
    · have g2 : nmW N t = pkN l0 l1 l2 l3 := hi.mpr g
      rw [if_pos (by omega), if_pos (decide_eq_true g)]
    · have g2 : nmW N t ≠ pkN l0 l1 l2 l3 := fun e => g (hi.mp e)
      rw [if_neg (by omega), if_neg (fun e => g (of_decide_eq_true e))]
  · intro n'
    show (if iZ (n : Int) < ms_i σ 140 4 then _ else _) = _
    rw [iltF rfl h (by omega) (by omega) (by omega)]
theorem m_letter {st nx k : Nat} (h : GdM τ B E st nx 1) (hO : TkOK B E st nx 1) (hk : k < 4) : f_X12_letterHere τ 493 (iZ (k : Int)) = some (iZ (ltr B st nx k : Int)) := by
  obtain ⟨h1, h2, h3, h4, h5⟩ := h
  have l2 : ms_ln 512 = 900 := m_ln.2.2.2.2.2.2.2.2.2.2.2.2.2.2.2.2.1
  have hE := h1.2.1
  have o2 := hO.2.1
  have e1 : ms_i τ 493 30 + iZ (k : Int) = iZ ((st + k : Nat) : Int) := by rw [h2, iZ_add]; rfl
  have o1 := hO.1
  unfold f_X12_letterHere ltr
  rw [e1]
  by_cases g : st + k < nx
  · rw [iltT rfl h3 (by omega) (by omega) (by omega), if_pos g, m_rf26, ald_iZ (by omega) (by omega), Option.bind_some, (h1.2.2 (st + k) (by omega)).2]
  · rw [iltF rfl h3 (by omega) (by omega) (by omega), if_neg g]
    rfl
theorem m_named16 {l : Nat → Nat} {n s : Nat} (hl : ∀ k : Nat, k < 4 → f_X12_letterHere τ 493 (iZ (k : Int)) = some (iZ (l k : Int)) ∧ l k < 128) (hM : NmM τ 499 N n) (hN : NmOK N n) (hs : s < n) (hn : n ≤ 40) (k2 : Nat → Int32 → Option Int32) : f_X12_named_16 τ k2 ms_fuel 493 (iZ (s : Int)) 1 0 = if nmP N (l 0) (l 1) (l 2) (l 3) s = true then some (iZ (s : Int)) else k2 493 (iZ (s : Int) + 1) := by
  have l9 : ms_ln 499 = 160 := m_ln.2.2.2.2.2.1
  refine lpx (S := Int32 × Int32) (f := fun n t => f_X12_named_16 τ k2 n 493 (iZ (s : Int)) t.1 t.2) (o := if nmP N (l 0) (l 1) (l 2) (l 3) s = true then some (iZ (s : Int)) else k2 493 (iZ (s : Int) + 1))
    (fun i t => t.1 = b01 (∀ k, k < i → N (4 * s + k) = l k) ∧ t.2 = iZ (i : Int)) 4 ?_ ?_ 4 0 (1, 0) ms_fuel ⟨by rw [b01T (by intro k hk; omega)], rfl⟩ rfl (show 4 < 100000 by omega)
  · rintro i ⟨a, x⟩ ⟨ha, hx⟩ hlt
    dsimp only at ha hx ⊢
    subst ha; subst hx
    have e1 : iZ (i : Int) + 1 = iZ ((i + 1 : Nat) : Int) := by rw [i1, iZ_add]; rfl
    have e : (4 : Int32) * iZ (s : Int) + iZ (i : Int) = iZ ((4 * s + i : Nat) : Int) := by rw [i4, iZ_mul, iZ_add]; rfl
    have hr : ms_ald τ 499 (iZ ((4 * s + i : Nat) : Int)) = some (iZ (N (4 * s + i) : Int)) := by
      rw [ald_iZ (by omega) (by omega), hM s i hs hlt]
    have hlt2 := hN.lt hs hlt
    obtain ⟨hl1, hl2⟩ := hl i hlt
    refine ⟨(b01 (∀ k, k < i + 1 → N (4 * s + k) = l k), iZ ((i + 1 : Nat) : Int)), ⟨rfl, rfl⟩, fun n' => ?_⟩
    show (if iZ (i : Int) < 4 then _ else _) = _
    rw [iltT rfl i4 (by omega) (by omega) (by omega)]
    by_cases g : ∀ k, k < i → N (4 * s + k) = l k
    · rw [ibT g, e, m_rf5, hr, Option.bind_some, hl1, Option.bind_some, e1]
      by_cases g2 : N (4 * s + i) = l i
      · rw [ieqT rfl rfl (by omega), b01T (fun k hk => by
          by_cases q : k = i
          · rw [q]; exact g2
          · exact g k (by omega))]
      · rw [ieqF rfl rfl (by omega) (by omega) (by omega) (by omega) (by omega), b01F (fun q => g2 (q i (by omega)))]
    · rw [ibF g, e1, b01F (fun q => g fun k hk => q k (by omega))]
  · rintro ⟨a, x⟩ ⟨ha, hx⟩ n'
    dsimp only at ha hx ⊢
    subst ha; subst hx
    show (if iZ ((4 : Nat) : Int) < 4 then _ else _) = _
    rw [iltF rfl i4 (by omega) (by omega) (by omega)]
    unfold nmP
    by_cases g : ∀ k, k < 4 → N (4 * s + k) = l k
    · rw [ibT g, if_pos (decide_eq_true ⟨g 0 (by omega), g 1 (by omega), g 2 (by omega), g 3 (by omega)⟩)]
    · rw [ibF g, if_neg (fun q => g fun k hk => by
        obtain ⟨q0, q1, q2, q3⟩ := of_decide_eq_true q
        have : k = 0 ∨ k = 1 ∨ k = 2 ∨ k = 3 := by omega
        rcases this with rfl | rfl | rfl | rfl
        · exact q0
        · exact q1
        · exact q2
        · exact q3)]
theorem m_named {l : Nat → Nat} {n : Nat} (h0 : ms_i τ 495 0 = iZ (n : Int)) (hl : ∀ k : Nat, k < 4 → f_X12_letterHere τ 493 (iZ (k : Int)) = some (iZ (l k : Int)) ∧ l k < 128) (hM : NmM τ 499 N n) (hN : NmOK N n) (hn : n ≤ 40) : f_X12_named τ 493 = some (iZ (fsU (nmP N (l 0) (l 1) (l 2) (l 3)) 0 n)) := by
  have l5 : ms_ln 495 = 527 := m_ln.2.1
  have hr : ms_ald τ 495 0 = some (iZ (n : Int)) := by
    have := ald_iZ (σ := τ) (a := 495) (k := 0) (by omega) (by omega)
    rw [h0] at this
    exact this
  have key := fs_loop (f := fun n' i => f_X12_named_2 τ n' 493 i) (o := fun z => some (iZ z)) (e := some (-1)) (nmP N (l 0) (l 1) (l 2) (l 3)) n ?_ ?_ n 0 ms_fuel (by omega) (by show _ < 100000; omega)
  · unfold f_X12_named
    refine key.trans ?_
    by_cases q : fsU (nmP N (l 0) (l 1) (l 2) (l 3)) 0 n = -1
    · rw [if_pos q, q]
      rfl
    · rw [if_neg q]
  · intro n' t ht
    show (ms_ald τ (ms_rf 493 1) 0).bind _ = _
    have e1 : iZ (t : Int) + 1 = iZ ((t : Int) + 1) := by rw [i1, iZ_add]
    rw [m_rf1, hr, Option.bind_some, iltT rfl rfl (by omega) (by omega) (by omega), m_named16 hl hM hN ht hn, e1]
  · intro n'
    show (ms_ald τ (ms_rf 493 1) 0).bind _ = _
    rw [m_rf1, hr, Option.bind_some, iltF rfl rfl (by omega) (by omega) (by omega)]
end Fi
