/-! whole numbers as Int32, arrays, rows, frames -/
def iZ (z : Int) : Int32 := Int32.ofInt z
theorem iZ_add (a b : Int) : iZ a + iZ b = iZ (a + b) := (Int32.ofInt_add a b).symm
theorem iZ_sub (a b : Int) : iZ a - iZ b = iZ (a - b) := (Int32.ofInt_sub a b).symm
theorem iZ_mul (a b : Int) : iZ a * iZ b = iZ (a * b) := (Int32.ofInt_mul a b).symm
def Sm (z : Int) : Prop := -2147483648 ≤ z ∧ z < 2147483648
theorem iZ_toInt {a : Int} (h1 : -2147483648 ≤ a) (h2 : a < 2147483648) : (iZ a).toInt = a := Int32.toInt_ofInt_of_le (by omega) (by omega)
theorem iZ_lt {a b : Int} (h1 : -2147483648 ≤ a) (h2 : a < 2147483648) (h3 : -2147483648 ≤ b) (h4 : b < 2147483648) : (iZ a < iZ b) = (a < b) := propext (by rw [Int32.lt_iff_toInt_lt, iZ_toInt h1 h2, iZ_toInt h3 h4])
theorem iZ_eq {a b : Int} (h1 : -2147483648 ≤ a) (h2 : a < 2147483648) (h3 : -2147483648 ≤ b) (h4 : b < 2147483648) : (iZ a = iZ b) = (a = b) := propext (by rw [← Int32.toInt_inj, iZ_toInt h1 h2, iZ_toInt h3 h4])
theorem iZ_of (x : Int32) : ∃ z : Int, -2147483648 ≤ z ∧ z < 2147483648 ∧ x = iZ z := ⟨x.toInt, by have := x.le_toInt; omega, by have := x.toInt_lt; omega, (Int32.ofInt_toInt x).symm⟩
theorem iZ_nat (k : Nat) : Int32.ofNat k = iZ (k : Int) := (Int32.ofInt_eq_ofNat).symm
theorem iZ_clamp {z : Int} (h1 : -2147483648 ≤ z) (h2 : z < 2147483648) : (iZ z).toNatClampNeg = z.toNat := by
  rw [← Int32.toNat_toInt, iZ_toInt h1 h2]
theorem ilt {α : Type} {x y : Int32} {a b : Int} {p q : α} [Decidable (x < y)] (hx : x = iZ a) (hy : y = iZ b) (h1 : -2147483648 ≤ a) (h2 : a < 2147483648) (h3 : -2147483648 ≤ b) (h4 : b < 2147483648) : (if x < y then p else q) = if a < b then p else q := by
  subst hx; subst hy
  by_cases h : a < b
  · rw [if_pos h, if_pos (by rw [iZ_lt h1 h2 h3 h4]; exact h)]
  · rw [if_neg h, if_neg (by rw [iZ_lt h1 h2 h3 h4]; exact h)]
theorem iltT {α : Type} {x y : Int32} {a b : Int} {p q : α} [Decidable (x < y)] (hx : x = iZ a) (hy : y = iZ b) (h1 : -2147483648 ≤ a) (h : a < b) (h2 : b < 2147483648) : (if x < y then p else q) = p := by
  rw [ilt hx hy h1 (by omega) (by omega) h2, if_pos h]
theorem iltF {α : Type} {x y : Int32} {a b : Int} {p q : α} [Decidable (x < y)] (hx : x = iZ a) (hy : y = iZ b) (h1 : -2147483648 ≤ b) (h : b ≤ a) (h2 : a < 2147483648) : (if x < y then p else q) = q := by
  rw [ilt hx hy (by omega) h2 h1 (by omega), if_neg (by omega)]
theorem ieq {α : Type} {x y : Int32} {a b : Int} {p q : α} [Decidable (x = y)] (hx : x = iZ a) (hy : y = iZ b) (h1 : -2147483648 ≤ a) (h2 : a < 2147483648) (h3 : -2147483648 ≤ b) (h4 : b < 2147483648) : (if x = y then p else q) = if a = b then p else q := by
  subst hx; subst hy
  by_cases h : a = b
  · rw [if_pos h, if_pos (by rw [h])]
  · rw [if_neg h, if_neg (by rw [iZ_eq h1 h2 h3 h4]; exact h)]
theorem ieqT {α : Type} {x y : Int32} {a b : Int} {p q : α} [Decidable (x = y)] (hx : x = iZ a) (hy : y = iZ b) (h : a = b) : (if x = y then p else q) = p := by
  rw [if_pos (by rw [hx, hy, h])]
theorem ieqF {α : Type} {x y : Int32} {a b : Int} {p q : α} [Decidable (x = y)] (hx : x = iZ a) (hy : y = iZ b) (h : a ≠ b) (h1 : -2147483648 ≤ a) (h2 : a < 2147483648) (h3 : -2147483648 ≤ b) (h4 : b < 2147483648) : (if x = y then p else q) = q := by
  rw [ieq hx hy h1 h2 h3 h4, if_neg h]
theorem i0 : (0 : Int32) = iZ 0 := rfl
theorem i1 : (1 : Int32) = iZ 1 := rfl
theorem i2 : (2 : Int32) = iZ 2 := rfl
theorem i3 : (3 : Int32) = iZ 3 := rfl
theorem i4 : (4 : Int32) = iZ 4 := rfl
theorem i5 : (5 : Int32) = iZ 5 := rfl
theorem i6 : (6 : Int32) = iZ 6 := rfl
theorem i7 : (7 : Int32) = iZ 7 := rfl
theorem i60 : (60 : Int32) = iZ 60 := rfl
theorem i247 : (247 : Int32) = iZ 247 := rfl
theorem im1 : (-1 : Int32) = iZ (-1) := rfl
theorem im2 : (-2 : Int32) = iZ (-2) := rfl
theorem nm_s {α β : Type} (v : β) (f : β → Option α) : ms_nm v f = f v := rfl
theorem b2_s {α β γ : Type} (a : β) (b : γ) (f : β → γ → Option α) : ms_b2 (some (a, b)) f = f a b := rfl
theorem bt_n {α : Type} (f0 : Option α) (f1 : Nat → Option α) : ms_bt (some none) f0 f1 = f0 := rfl
theorem bt_s {α : Type} (e : Nat) (f0 : Option α) (f1 : Nat → Option α) : ms_bt (some (some e)) f0 f1 = f1 e := rfl
theorem bu_n {α : Type} (s : MsSt) (f0 : MsSt → Option α) (f1 : Nat → MsSt → Option α) : ms_bu (some (none, s)) f0 f1 = f0 s := rfl
theorem bu_s {α : Type} (e : Nat) (s : MsSt) (f0 : MsSt → Option α) (f1 : Nat → MsSt → Option α) : ms_bu (some (some e, s)) f0 f1 = f1 e s := rfl
theorem bq_n {α : Type} (f0 : Option α) (f1 : Nat → Option α) : ms_bq (some none) f0 f1 = f0 := rfl
theorem bq_s {α : Type} (e : Nat) (f0 : Option α) (f1 : Nat → Option α) : ms_bq (some (some e)) f0 f1 = f1 e := rfl
/-! the store -/
theorem ms_i_si (σ : MsSt) (a k : Nat) (v : Int32) (b j : Nat) : ms_i (ms_si σ a k v) b j = if b = a ∧ j = k then v else ms_i σ b j := rfl
theorem i_si_same (σ : MsSt) (a k : Nat) (v : Int32) : ms_i (ms_si σ a k v) a k = v := by rw [ms_i_si, if_pos ⟨rfl, rfl⟩]
theorem i_si_ne {σ : MsSt} {a k : Nat} {v : Int32} {b j : Nat} (h : b ≠ a ∨ j ≠ k) : ms_i (ms_si σ a k v) b j = ms_i σ b j := by
  rw [ms_i_si, if_neg]
  rintro ⟨h1, h2⟩
  rcases h with h | h
  · exact h h1
  · exact h h2
def Fr (P : Nat → Nat → Prop) (σ σ' : MsSt) : Prop := (∀ a k, ¬ P a k → ms_i σ' a k = ms_i σ a k) ∧ σ'.2 = σ.2
theorem Fr.refl (P : Nat → Nat → Prop) (σ : MsSt) : Fr P σ σ := ⟨fun _ _ _ => rfl, rfl⟩
theorem Fr.trans {P : Nat → Nat → Prop} {σ σ' σ'' : MsSt} (h : Fr P σ σ') (h2 : Fr P σ' σ'') : Fr P σ σ'' := ⟨fun a k hp => (h2.1 a k hp).trans (h.1 a k hp), h2.2.trans h.2⟩
theorem Fr.mono {P Q : Nat → Nat → Prop} {σ σ' : MsSt} (h : Fr P σ σ') (hq : ∀ a k, P a k → Q a k) : Fr Q σ σ' := ⟨fun a k hp => h.1 a k fun q => hp (hq a k q), h.2⟩
theorem Fr.si {P : Nat → Nat → Prop} (σ : MsSt) {a k : Nat} (v : Int32) (h : P a k) : Fr P σ (ms_si σ a k v) := ⟨fun b j hp => i_si_ne (by
  by_cases h1 : b = a
  · by_cases h2 : j = k
    · subst h1; subst h2; exact absurd h hp
    · exact Or.inr h2
  · exact Or.inl h1), rfl⟩
/-- all of the objects from lo on, below hi -/
def In (lo hi : Nat) : Nat → Nat → Prop := fun a _ => lo ≤ a ∧ a < hi
theorem Fr.widen {lo hi lo' hi' : Nat} {σ σ' : MsSt} (h : Fr (In lo hi) σ σ') (h1 : lo' ≤ lo) (h2 : hi ≤ hi') : Fr (In lo' hi') σ σ' := h.mono fun a k q => ⟨Nat.le_trans h1 q.1, Nat.lt_of_lt_of_le q.2 h2⟩
theorem Fr.at {lo hi : Nat} {σ σ' : MsSt} (h : Fr (In lo hi) σ σ') {a : Nat} (ha : a < lo ∨ hi ≤ a) (k : Nat) : ms_i σ' a k = ms_i σ a k := h.1 a k fun q => by
  have q1 := q.1
  have q2 := q.2
  omega
/-! arrays -/
theorem ald_iZ {σ : MsSt} {a k : Nat} (hk : k < ms_ln a) (hn : ms_ln a ≤ 100000) : ms_ald σ a (iZ (k : Int)) = some (ms_i σ a k) := by
  unfold ms_ald
  have hc : (iZ (k : Int)).toNatClampNeg = k := by rw [iZ_clamp (by omega) (by omega)]; rfl
  rw [hc, if_neg]
  rw [i0, iZ_lt (by omega) (by omega) (by omega) (by omega)]
  omega
theorem ald_z {σ : MsSt} {a k : Nat} {z : Int} (hz : z = (k : Int)) (hk : k < ms_ln a) (hn : ms_ln a ≤ 100000) : ms_ald σ a (iZ z) = some (ms_i σ a k) := by rw [hz]; exact ald_iZ hk hn
theorem ast_iZ {σ : MsSt} {a k : Nat} {v : Int32} (hk : k < ms_ln a) (hn : ms_ln a ≤ 100000) : ms_ast σ a (iZ (k : Int)) v = some (ms_si σ a k v) := by
  unfold ms_ast
  have hc : (iZ (k : Int)).toNatClampNeg = k := by rw [iZ_clamp (by omega) (by omega)]; rfl
  rw [hc, if_neg]
  rw [i0, iZ_lt (by omega) (by omega) (by omega) (by omega)]
  omega
theorem ast_z {σ : MsSt} {a k : Nat} {v : Int32} {z : Int} (hz : z = (k : Int)) (hk : k < ms_ln a) (hn : ms_ln a ≤ 100000) : ms_ast σ a (iZ z) v = some (ms_si σ a k v) := by rw [hz]; exact ast_iZ hk hn
theorem ala_iZ {a k : Nat} (hk : k < ms_ln a) (hn : ms_ln a ≤ 100000) : ms_ala a (iZ (k : Int)) = some (ms_rf a k) := by
  unfold ms_ala
  have hc : (iZ (k : Int)).toNatClampNeg = k := by rw [iZ_clamp (by omega) (by omega)]; rfl
  rw [hc, if_neg]
  rw [i0, iZ_lt (by omega) (by omega) (by omega) (by omega)]
  omega
/-! a loop: an invariant over the rounds, each round goes on or ends -/
theorem lp {S β : Type} {f : Nat → S → Option β} {Q : β → Prop} (I : Nat → S → Prop) (N : Nat)
    (hs : ∀ i s, I i s → i < N → (∃ s', I (i + 1) s' ∧ ∀ n, f (n + 1) s = f n s') ∨ (∃ r, Q r ∧ ∀ n, f (n + 1) s = some r))
    (he : ∀ s, I N s → ∃ r, Q r ∧ ∀ n, f (n + 1) s = some r) :
    ∀ (k i : Nat) (s : S) (n : Nat), I i s → i + k = N → k < n → ∃ r, f n s = some r ∧ Q r := by
  intro k
  induction k with
  | zero =>
    intro i s n hi hN hn
    obtain ⟨m, rfl⟩ : ∃ m, n = m + 1 := ⟨n - 1, by omega⟩
    have hiN : i = N := by omega
    subst hiN
    obtain ⟨r, h1, h2⟩ := he s hi
    exact ⟨r, h2 m, h1⟩
  | succ k ih =>
    intro i s n hi hN hn
    obtain ⟨m, rfl⟩ : ∃ m, n = m + 1 := ⟨n - 1, by omega⟩
    rcases hs i s hi (by omega) with ⟨s', h1, h2⟩ | ⟨r, h1, h2⟩
    · obtain ⟨r, h3, h4⟩ := ih (i + 1) s' m h1 (by omega) (by omega)
      exact ⟨r, by rw [h2]; exact h3, h4⟩
    · exact ⟨r, h2 m, h1⟩
/-- from the start -/
theorem lp0 {S β : Type} {f : Nat → S → Option β} {Q : β → Prop} (I : Nat → S → Prop) (N : Nat) {s : S} (h0 : I 0 s) (hN : N < 100000)
    (hs : ∀ i s, I i s → i < N → (∃ s', I (i + 1) s' ∧ ∀ n, f (n + 1) s = f n s') ∨ (∃ r, Q r ∧ ∀ n, f (n + 1) s = some r))
    (he : ∀ s, I N s → ∃ r, Q r ∧ ∀ n, f (n + 1) s = some r) : ∃ r, f ms_fuel s = some r ∧ Q r :=
  lp I N hs he N 0 s ms_fuel h0 (by omega) hN
/-! rows -/
def RowAt (r N : Nat) : Prop := ms_rf r 0 = r + 1 ∧ ms_ln (r + 1) = N ∧ N ≤ 5000
def Rw {α : Type} (e : α → Int) (σ : MsSt) (r N : Nat) (L : List α) : Prop := RowAt r N ∧ L.length ≤ N ∧ ms_i σ r 1 = iZ (L.length : Int) ∧ ∀ k (h : k < L.length), ms_i σ (r + 1) k = iZ (e L[k])
theorem Rw.fr {α : Type} {e : α → Int} {σ σ' : MsSt} {r N : Nat} {L : List α} {P : Nat → Nat → Prop} (h : Rw e σ r N L) (hf : Fr P σ σ') (h1 : ¬ P r 1) (h2 : ∀ k, ¬ P (r + 1) k) : Rw e σ' r N L :=
  ⟨h.1, h.2.1, (hf.1 r 1 h1).trans h.2.2.1, fun k hk => (hf.1 (r + 1) k (h2 k)).trans (h.2.2.2 k hk)⟩
theorem Rw.away {α : Type} {e : α → Int} {σ σ' : MsSt} {r N lo hi : Nat} {L : List α} (h : Rw e σ r N L) (hf : Fr (In lo hi) σ σ') (h1 : r + 2 ≤ lo ∨ hi ≤ r) : Rw e σ' r N L :=
  h.fr hf (fun q => by have := q.1; have := q.2; omega) (fun k q => by have := q.1; have := q.2; omega)
section Rows
variable {α : Type} {e : α → Int} {σ : MsSt} {r N : Nat} {L : List α}
theorem Rw.cnt (h : Rw e σ r N L) : ms_i σ r 1 = iZ (L.length : Int) := h.2.2.1
theorem Rw.len (h : Rw e σ r N L) : L.length ≤ 5000 := by have h1 := h.1.2.2; have h2 := h.2.1; omega
theorem get_in (h : Rw e σ r N L) {k : Nat} (hk : k < L.length) : f_X5_get σ r (iZ (k : Int)) = some (iZ (e L[k])) := by
  obtain ⟨⟨h1, h2, h3⟩, h4, h5, h6⟩ := h
  unfold f_X5_get
  rw [iltF rfl i0 (by omega) (by omega) (by omega), iltT rfl h5 (by omega) (by omega) (by omega), h1, h2, iltT rfl (iZ_nat N) (by omega) (by omega) (by omega), ald_iZ (by omega) (by omega), h6 k hk]
  rfl
theorem get_out (h : Rw e σ r N L) {z : Int} (h8 : -2147483648 ≤ z) (h9 : z < 2147483648) (hz : z < 0 ∨ (L.length : Int) ≤ z) : f_X5_get σ r (iZ z) = some (iZ (-1)) := by
  obtain ⟨⟨h1, h2, h3⟩, h4, h5, h6⟩ := h
  unfold f_X5_get
  by_cases q : z < 0
  · rw [iltT rfl i0 (by omega) q (by omega)]
    rfl
  · rw [iltF rfl i0 (by omega) (by omega) (by omega), iltF rfl h5 (by omega) (by omega) (by omega)]
    rfl
theorem clear_s (hr : RowAt r N) : ∃ σ', f_X5_clear σ r = some σ' ∧ Rw e σ' r N [] ∧ Fr (In r (r + 2)) σ σ' := by
  refine ⟨ms_si σ r 1 0, rfl, ⟨hr, Nat.zero_le _, by rw [i_si_same]; rfl, fun k hk => absurd hk (Nat.not_lt_zero _)⟩, Fr.si σ 0 ⟨by omega, by omega⟩⟩
theorem add_s (h : Rw e σ r N L) (hl : L.length < N) (x : α) : ∃ σ', f_X5_add σ r (iZ (e x)) = some σ' ∧ Rw e σ' r N (L ++ [x]) ∧ Fr (In r (r + 2)) σ σ' := by
  obtain ⟨⟨h1, h2, h3⟩, h4, h5, h6⟩ := h
  refine ⟨ms_si (ms_si σ (r + 1) L.length (iZ (e x))) r 1 (iZ ((L.length : Int) + 1)), ?_, ⟨⟨h1, h2, h3⟩, by rw [List.length_append]; exact hl, ?_, fun k hk => ?_⟩, (Fr.si _ _ ⟨by omega, by omega⟩).trans (Fr.si _ _ ⟨by omega, by omega⟩)⟩
  · unfold f_X5_add
    rw [iltF h5 i0 (by omega) (by omega) (by omega), h1, h2, iltT h5 (iZ_nat N) (by omega) (by omega) (by omega), h5, ast_iZ (by omega) (by omega)]
    show ms_nm (ms_si (ms_si σ (r + 1) L.length (iZ (e x))) r 1 (ms_i (ms_si σ (r + 1) L.length (iZ (e x))) r 1 + 1)) (fun s2 => some s2) = _
    rw [i_si_ne (Or.inl (by omega)), h5, i1, iZ_add]
    rfl
  · rw [i_si_same, List.length_append]
    rfl
  · rw [i_si_ne (Or.inl (by omega)), ms_i_si]
    by_cases q : k = L.length
    · subst q
      rw [if_pos ⟨rfl, rfl⟩, List.getElem_append_right (Nat.le_refl _)]
      simp
    · rw [List.length_append, List.length_singleton] at hk
      rw [if_neg (by omega), h6 k (by omega), List.getElem_append_left]
theorem add_full (h : Rw e σ r N L) (hl : L.length = N) (v : Int32) : f_X5_add σ r v = some σ := by
  obtain ⟨⟨h1, h2, h3⟩, h4, h5, h6⟩ := h
  unfold f_X5_add
  rw [iltF h5 i0 (by omega) (by omega) (by omega), h1, h2, iltF h5 (iZ_nat N) (by omega) (by omega) (by omega)]
theorem put_s (h : Rw e σ r N L) {k : Nat} (hk : k < L.length) (x : α) : ∃ σ', f_X5_put σ r (iZ (k : Int)) (iZ (e x)) = some σ' ∧ Rw e σ' r N (L.set k x) ∧ Fr (In r (r + 2)) σ σ' := by
  obtain ⟨⟨h1, h2, h3⟩, h4, h5, h6⟩ := h
  refine ⟨ms_si σ (r + 1) k (iZ (e x)), ?_, ⟨⟨h1, h2, h3⟩, by rw [List.length_set]; exact h4, ?_, fun j hj => ?_⟩, Fr.si _ _ ⟨by omega, by omega⟩⟩
  · unfold f_X5_put
    rw [iltF rfl i0 (by omega) (by omega) (by omega), iltT rfl h5 (by omega) (by omega) (by omega), h1, h2, iltT rfl (iZ_nat N) (by omega) (by omega) (by omega), ast_iZ (by omega) (by omega)]
    rfl
  · rw [i_si_ne (Or.inl (by omega)), h5, List.length_set]
  · rw [List.length_set] at hj
    rw [ms_i_si, List.getElem_set]
    by_cases q : k = j
    · rw [if_pos ⟨rfl, q.symm⟩, if_pos q]
    · rw [if_neg (by omega), if_neg q, h6 j hj]
theorem addAll_g {r2 : Nat} {B : List α} (h : Rw e σ r N L) (hr2 : ms_i σ r2 1 = iZ (B.length : Int)) (hl : L.length + B.length ≤ N)
    (hg : ∀ (σ' : MsSt) (i : Nat) (hi : i < B.length), Rw e σ' r N (L ++ B.take i) → Fr (In r (r + 2)) σ σ' → f_X5_get σ' r2 (iZ (i : Int)) = some (iZ (e B[i]))) :
    ∃ σ', f_X5_addAll σ r r2 = some σ' ∧ Rw e σ' r N (L ++ B) ∧ Fr (In r (r + 2)) σ σ' := by
  unfold f_X5_addAll
  rw [hr2]
  have hN := h.1.2.2
  have key := lp0 (S := MsSt × Int32) (f := fun n s => f_X5_addAll_7 n s.1 r r2 (iZ (B.length : Int)) s.2) (Q := fun σ' => Rw e σ' r N (L ++ B) ∧ Fr (In r (r + 2)) σ σ')
    (fun i s => s.2 = iZ (i : Int) ∧ i ≤ B.length ∧ Rw e s.1 r N (L ++ B.take i) ∧ Fr (In r (r + 2)) σ s.1) B.length (s := (σ, 0)) ⟨rfl, Nat.zero_le _, by rw [List.take_zero, List.append_nil]; exact h, Fr.refl _ _⟩ (by omega) ?_ ?_
  · exact key
  · rintro i ⟨s, x⟩ ⟨hx, hi, hR, hF⟩ hlt
    dsimp only at hx hR hF ⊢
    subst hx
    left
    obtain ⟨s', a1, a2, a3⟩ := add_s hR (by rw [List.length_append, List.length_take]; omega) B[i]
    refine ⟨(s', iZ ((i : Int) + 1)), ⟨by push_cast; rfl, hlt, ?_, hF.trans a3⟩, fun n => ?_⟩
    · rw [List.append_assoc] at a2
      rw [List.take_succ_eq_append_getElem hlt]
      exact a2
    · show (if iZ (i : Int) < iZ (B.length : Int) then _ else _) = _
      rw [iltT rfl rfl (by omega) (by omega) (by omega), hg s i hlt hR hF, Option.bind_some, a1, Option.bind_some, i1, iZ_add]
  · rintro ⟨s, x⟩ ⟨hx, hi, hR, hF⟩
    dsimp only at hx hR hF ⊢
    subst hx
    rw [List.take_length] at hR
    refine ⟨s, ⟨hR, hF⟩, fun n => ?_⟩
    show (if iZ (B.length : Int) < iZ (B.length : Int) then _ else _) = _
    rw [iltF rfl rfl (by omega) (by omega) (by omega)]
theorem addAll_s {r2 N2 : Nat} {B : List α} (h : Rw e σ r N L) (h2 : Rw e σ r2 N2 B) (hd : r2 + 2 ≤ r ∨ r + 2 ≤ r2) (hl : L.length + B.length ≤ N) :
    ∃ σ', f_X5_addAll σ r r2 = some σ' ∧ Rw e σ' r N (L ++ B) ∧ Fr (In r (r + 2)) σ σ' :=
  addAll_g h h2.cnt hl fun σ' i hi _ hF => get_in (h2.away hF (by omega)) hi
theorem addAll_self (h : Rw e σ r N L) (hl : L.length + L.length ≤ N) :
    ∃ σ', f_X5_addAll σ r r = some σ' ∧ Rw e σ' r N (L ++ L) ∧ Fr (In r (r + 2)) σ σ' :=
  addAll_g h h.cnt hl fun σ' i hi hR _ => by
    rw [get_in hR (k := i) (by rw [List.length_append]; omega), List.getElem_append_left hi]
theorem takeOver_s {r2 N2 : Nat} {B : List α} (hr : RowAt r N) (h2 : Rw e σ r2 N2 B) (hd : r2 + 2 ≤ r ∨ r + 2 ≤ r2) (hl : B.length ≤ N) :
    ∃ σ', f_X5_takeOver σ r r2 = some σ' ∧ Rw e σ' r N B ∧ Fr (In r (r + 2)) σ σ' := by
  obtain ⟨s1, a1, a2, a3⟩ := clear_s (e := e) (σ := σ) hr
  obtain ⟨s2, b1, b2, b3⟩ := addAll_s a2 (h2.away a3 (by omega)) hd (by simpa using hl)
  refine ⟨s2, ?_, by simpa using b2, a3.trans b3⟩
  unfold f_X5_takeOver
  rw [a1, Option.bind_some, b1]
  rfl
end Rows
