/-! putting marks in order: a sign comes behind; a mark goes ahead of the marks right ahead of it whose classes are greater -/
/-- the row turned round ahead, what has been passed behind -/
def insL (w : Nat → Nat) (x : Nat) : List Nat → List Nat → List Nat
  | [], B => x :: B
  | y :: A, B => if Kd w x = 1 ∧ Kd w y = 1 ∧ Cl w x < Cl w y then insL w x A (y :: B) else (y :: A).reverse ++ x :: B
def insN (w : Nat → Nat) (x : Nat) : List Nat → Nat
  | [] => 0
  | y :: A => if Kd w x = 1 ∧ Kd w y = 1 ∧ Cl w x < Cl w y then insN w x A + 1 else 0
theorem insL_t {w : Nat → Nat} {x y : Nat} {A B : List Nat} (h : Kd w x = 1 ∧ Kd w y = 1 ∧ Cl w x < Cl w y) : insL w x (y :: A) B = insL w x A (y :: B) := if_pos h
theorem insL_f {w : Nat → Nat} {x y : Nat} {A B : List Nat} (h : ¬ (Kd w x = 1 ∧ Kd w y = 1 ∧ Cl w x < Cl w y)) : insL w x (y :: A) B = (y :: A).reverse ++ x :: B := if_neg h
theorem insN_t {w : Nat → Nat} {x y : Nat} {A : List Nat} (h : Kd w x = 1 ∧ Kd w y = 1 ∧ Cl w x < Cl w y) : insN w x (y :: A) = insN w x A + 1 := if_pos h
theorem insN_f {w : Nat → Nat} {x y : Nat} {A : List Nat} (h : ¬ (Kd w x = 1 ∧ Kd w y = 1 ∧ Cl w x < Cl w y)) : insN w x (y :: A) = 0 := if_neg h
def ins (w : Nat → Nat) (D : List Nat) (x : Nat) : List Nat := insL w x D.reverse []
def od (w : Nat → Nat) (P : List Nat) : List Nat := P.foldl (ins w) []
def swF (w : Nat → Nat) : List Nat → List Nat → Nat
  | _, [] => 0
  | D, x :: P => insN w x D.reverse + swF w (ins w D x) P
def sw (w : Nat → Nat) (P : List Nat) : Nat := swF w [] P
theorem insL_length (w : Nat → Nat) (x : Nat) : ∀ (A B : List Nat), (insL w x A B).length = A.length + B.length + 1 := by
  intro A
  induction A with
  | nil => intro B; simp [insL]
  | cons y A ih =>
    intro B
    unfold insL
    split
    · rw [ih]; simp; omega
    · simp; omega
theorem insL_mem (w : Nat → Nat) (x z : Nat) : ∀ (A B : List Nat), z ∈ insL w x A B ↔ z = x ∨ z ∈ A ∨ z ∈ B := by
  intro A
  induction A with
  | nil => intro B; simp [insL]
  | cons y A ih =>
    intro B
    unfold insL
    split
    · rw [ih]
      simp only [List.mem_cons]
      constructor
      · rintro (h | h | h | h) <;> simp [h]
      · rintro (h | (h | h) | h) <;> simp [h]
    · simp only [List.mem_append, List.mem_reverse, List.mem_cons]
      constructor
      · rintro ((h | h) | h | h) <;> simp [h]
      · rintro (h | (h | h) | h) <;> simp [h]
theorem ins_length (w : Nat → Nat) (D : List Nat) (x : Nat) : (ins w D x).length = D.length + 1 := by
  unfold ins
  rw [insL_length]
  simp
theorem ins_mem (w : Nat → Nat) (D : List Nat) (x z : Nat) : z ∈ ins w D x ↔ z = x ∨ z ∈ D := by
  unfold ins
  rw [insL_mem]
  simp
theorem od_snoc (w : Nat → Nat) (P : List Nat) (x : Nat) : od w (P ++ [x]) = ins w (od w P) x := by
  unfold od
  rw [List.foldl_append]
  rfl
theorem foldl_ins_length (w : Nat → Nat) : ∀ (P D : List Nat), (P.foldl (ins w) D).length = D.length + P.length := by
  intro P
  induction P with
  | nil => intro D; simp
  | cons x P ih => intro D; rw [List.foldl_cons, ih, ins_length, List.length_cons]; omega
theorem foldl_ins_mem (w : Nat → Nat) (z : Nat) : ∀ (P D : List Nat), z ∈ P.foldl (ins w) D ↔ z ∈ D ∨ z ∈ P := by
  intro P
  induction P with
  | nil => intro D; simp
  | cons x P ih =>
    intro D
    rw [List.foldl_cons, ih, ins_mem, List.mem_cons]
    constructor
    · rintro ((h | h) | h) <;> simp [h]
    · rintro (h | h | h) <;> simp [h]
theorem od_length (w : Nat → Nat) (P : List Nat) : (od w P).length = P.length := by
  unfold od
  rw [foldl_ins_length]
  simp
theorem od_mem (w : Nat → Nat) (P : List Nat) (z : Nat) : z ∈ od w P ↔ z ∈ P := by
  unfold od
  rw [foldl_ins_mem]
  simp
/-! the reference puts a sign in -/
/-- cells of an array -/
def Aw (σ : MsSt) (a : Nat) (L : List Nat) : Prop := ∀ k (h : k < L.length), ms_i σ a k = iZ (L[k] : Int)
theorem Aw.fr {σ σ' : MsSt} {a : Nat} {L : List Nat} {P : Nat → Nat → Prop} (h : Aw σ a L) (hF : Fr P σ σ') (hp : ∀ k, ¬ P a k) : Aw σ' a L := fun k hk => (hF.1 a k (hp k)).trans (h k hk)
theorem Aw.nil (σ : MsSt) (a : Nat) : Aw σ a [] := fun k hk => absurd hk (Nat.not_lt_zero _)
/-- what is known while marks are put in order: the script, and that what lies there is signs -/
def SgB (w : Nat → Nat) (x : Nat) : Prop := x < 40 ∧ Kd w x ≤ 1 ∧ Cl w x ≤ 60
theorem add92_s {σ : MsSt} {A B : List Nat} {x : Nat} (h0 : ms_i σ 493 11 = iZ ((A.length + B.length : Nat) : Int)) (hA : ∀ k (h : k < A.length), ms_i σ 501 k = iZ ((A.reverse[k]'(by simpa using h) : Nat) : Int)) (hB : ∀ k (h : k < B.length), ms_i σ 501 (A.length + 1 + k) = iZ (B[k] : Int)) (hl : A.length + B.length < 361) :
    ∃ σ', f_X12_add_92 σ 493 (iZ (x : Int)) (iZ (A.length : Int)) = some σ' ∧ Aw σ' 501 (A.reverse ++ x :: B) ∧ ms_i σ' 493 11 = iZ ((A.length + B.length + 1 : Nat) : Int) ∧ Fr (fun a k => a = 501 ∨ (a = 493 ∧ k = 11)) σ σ' := by
  refine ⟨ms_si (ms_si σ 501 A.length (iZ (x : Int))) 493 11 (iZ ((A.length + B.length + 1 : Nat) : Int)), ?_, fun k hk => ?_, i_si_same _ _ _ _, (Fr.si _ _ (Or.inl rfl)).trans (Fr.si _ _ (Or.inr ⟨rfl, rfl⟩))⟩
  · unfold f_X12_add_92
    rw [m_rf10, ast_iZ (by rw [m_ln.2.2.2.2.2.2.2.1]; omega) (by rw [m_ln.2.2.2.2.2.2.2.1]; omega)]
    rw [Option.bind_some, nm_s, i_si_ne (Or.inl (by omega)), h0, i1, iZ_add]
    congr 3
  · rw [i_si_ne (Or.inl (by omega)), ms_i_si]
    rw [List.length_append, List.length_reverse, List.length_cons] at hk
    by_cases q : k = A.length
    · subst q
      rw [if_pos ⟨rfl, rfl⟩, List.getElem_append_right (by simp)]
      simp
    · rw [if_neg (by omega)]
      by_cases q2 : k < A.length
      · rw [hA k q2, List.getElem_append_left (by simpa using q2)]
      · have h1 := hB (k - A.length - 1) (by omega)
        rw [show A.length + 1 + (k - A.length - 1) = k from by omega] at h1
        rw [h1, List.getElem_append_right (by simp; omega), List.getElem_cons]
        rw [dif_neg (by simp; omega)]
        simp
theorem add5_c1 {w : Nat → Nat} {x : Nat} (hx : SgB w x) {A : List Nat} {m : Nat} {σ : MsSt} (hw : Mw σ 494 w) (h : A = [] ∨ Kd w x ≠ 1) : f_X12_add_5 (m + 1) σ 493 (iZ (x : Int)) (iZ (A.length : Int)) = f_X12_add_92 σ 493 (iZ (x : Int)) (iZ (A.length : Int)) := by
  show (f_X12_isMark σ 493 (iZ (x : Int))).bind _ = _
  rw [isMark_s hw hx.1 (by have := hx.2.1; omega), Option.bind_some]
  by_cases q : Kd w x = 1
  · rcases h with rfl | h
    · rw [ibT q, iltF i0 rfl (by simp) (by simp) (by omega)]
    · exact absurd q h
  · rw [ibF q]
theorem add5_c2 {w : Nat → Nat} {x y : Nat} (hx : SgB w x) (hy : SgB w y) {A : List Nat} {m : Nat} {σ : MsSt} (hw : Mw σ 494 w) (hl : A.length < 360) (hg : ms_i σ 501 A.length = iZ (y : Int)) (c1 : Kd w x = 1) :
    f_X12_add_5 (m + 1) σ 493 (iZ (x : Int)) (iZ ((A.length : Int) + 1)) = if Kd w y = 1 ∧ Cl w x < Cl w y then f_X12_add_5 m (ms_si (ms_si σ 501 (A.length + 1) (iZ (y : Int))) 493 12 (ms_i σ 493 12 + 1)) 493 (iZ (x : Int)) (iZ (A.length : Int)) else f_X12_add_92 σ 493 (iZ (x : Int)) (iZ ((A.length : Int) + 1)) := by
  have hg2 : ms_ald σ 501 (iZ (A.length : Int)) = some (iZ (y : Int)) := by
    rw [ald_iZ (by rw [m_ln.2.2.2.2.2.2.2.1]; omega) (by rw [m_ln.2.2.2.2.2.2.2.1]; omega), hg]
  have e1 : iZ ((A.length : Int) + 1) - 1 = iZ (A.length : Int) := by
    rw [i1, iZ_sub]
    congr 1
    omega
  have e2 : iZ ((A.length : Int) + 1) + -1 = iZ (A.length : Int) := by rw [← Int32.sub_eq_add_neg]; exact e1
  show (f_X12_isMark σ 493 (iZ (x : Int))).bind _ = _
  rw [isMark_s hw hx.1 (by have := hx.2.1; omega), Option.bind_some, ibT c1, iltT i0 rfl (by omega) (by omega) (by omega), m_rf10, m_rf0, e1, hg2, Option.bind_some, isMark_s hw hy.1 (by have := hy.2.1; omega), Option.bind_some]
  by_cases c2 : Kd w y = 1
  · rw [ibT c2, Option.bind_some, of_1, Option.bind_some, mw_get hw (Or.inl rfl) (k := 247 + 7 * y + 1) (by omega) (by have := hy.1; omega), Option.bind_some, of_1, Option.bind_some, mw_get hw (Or.inl rfl) (k := 247 + 7 * x + 1) (by omega) (by have := hx.1; omega), Option.bind_some]
    have bx := hx.2.2
    have by' := hy.2.2
    unfold Cl at bx by' ⊢
    by_cases q : w (247 + 7 * x + 1) < w (247 + 7 * y + 1)
    · rw [iltT rfl rfl (by omega) (by omega) (by omega), if_pos ⟨c2, q⟩, Option.bind_some, ast_z (k := A.length + 1) (by omega) (by rw [m_ln.2.2.2.2.2.2.2.1]; omega) (by rw [m_ln.2.2.2.2.2.2.2.1]; omega), Option.bind_some, nm_s, i_si_ne (Or.inl (by omega)), e2]
    · rw [iltF rfl rfl (by omega) (by omega) (by omega), if_neg fun g => q g.2]
  · rw [ibF c2, if_neg fun g => c2 g.1]
theorem add5_s {w : Nat → Nat} {x : Nat} (hx : SgB w x) : ∀ (A B : List Nat) (n : Nat) (σ : MsSt) (c : Int), Mw σ 494 w → (∀ y ∈ A, SgB w y) → ms_i σ 493 11 = iZ ((A.length + B.length : Nat) : Int) → ms_i σ 493 12 = iZ (c : Int) →
    (∀ k (h : k < A.length), ms_i σ 501 k = iZ ((A.reverse[k]'(by simpa using h) : Nat) : Int)) → (∀ k (h : k < B.length), ms_i σ 501 (A.length + 1 + k) = iZ (B[k] : Int)) → A.length + B.length < 361 → A.length < n →
    ∃ σ', f_X12_add_5 n σ 493 (iZ (x : Int)) (iZ (A.length : Int)) = some σ' ∧ Aw σ' 501 (insL w x A B) ∧ ms_i σ' 493 11 = iZ ((A.length + B.length + 1 : Nat) : Int) ∧ ms_i σ' 493 12 = iZ (c + (insN w x A : Int)) ∧ Fr (fun a k => a = 501 ∨ (a = 493 ∧ (k = 11 ∨ k = 12))) σ σ' := by
  intro A
  induction A with
  | nil =>
    intro B n σ c hw hm h11 h12 hA hB hl hn
    obtain ⟨m, rfl⟩ : ∃ m, n = m + 1 := ⟨n - 1, by omega⟩
    obtain ⟨σ', a1, a2, a3, a4⟩ := add92_s (x := x) h11 hA hB hl
    exact ⟨σ', (add5_c1 hx hw (Or.inl rfl)).trans a1, a2, a3, ((a4.1 493 12 (by omega)).trans h12).trans (by congr 1; show c = c + ((0 : Nat) : Int); omega), a4.mono fun a k q => by omega⟩
  | cons y A ih =>
    intro B n σ c hw hm h11 h12 hA hB hl hn
    obtain ⟨m, rfl⟩ : ∃ m, n = m + 1 := ⟨n - 1, by omega⟩
    have hy := hm y List.mem_cons_self
    have hg : ms_i σ 501 A.length = iZ (y : Int) := by
      rw [hA A.length (by simp)]
      simp
    have el : ((((y :: A).length) : Nat) : Int) = (A.length : Int) + 1 := by simp
    rw [List.length_cons] at hl hn
    by_cases c1 : Kd w x = 1
    · have h2 := add5_c2 (m := m) hx hy hw (by omega) hg c1
      rw [← el] at h2
      by_cases hc : Kd w y = 1 ∧ Cl w x < Cl w y
      · rw [if_pos hc, h12, i1, iZ_add] at h2
        have hF : Fr (fun a k => a = 501 ∨ (a = 493 ∧ (k = 11 ∨ k = 12))) σ (ms_si (ms_si σ 501 (A.length + 1) (iZ (y : Int))) 493 12 (iZ ((c : Int) + 1))) := (Fr.si _ _ (Or.inl rfl)).trans (Fr.si _ _ (Or.inr ⟨rfl, Or.inr rfl⟩))
        obtain ⟨σ', a1, a2, a3, a4, a5⟩ := ih (y :: B) m (ms_si (ms_si σ 501 (A.length + 1) (iZ (y : Int))) 493 12 (iZ ((c : Int) + 1))) (c + 1) (hw.fr hF (by intros; omega)) (fun z hz => hm z (List.mem_cons_of_mem _ hz))
          (by rw [i_si_ne (Or.inr (by omega)), i_si_ne (Or.inl (by omega)), h11]; simp only [List.length_cons]; congr 1; omega) (i_si_same _ _ _ _)
          (fun k hk => by
            rw [i_si_ne (Or.inl (by omega)), i_si_ne (Or.inr (by omega)), hA k (by rw [List.length_cons]; omega)]
            simp only [List.reverse_cons]
            rw [List.getElem_append_left])
          (fun k hk => by
            rw [i_si_ne (Or.inl (by omega)), ms_i_si]
            by_cases q : k = 0
            · subst q
              rw [if_pos ⟨rfl, rfl⟩]
              rfl
            · rw [if_neg (by omega)]
              rw [List.length_cons] at hk
              have h1 := hB (k - 1) (by omega)
              rw [show (y :: A).length + 1 + (k - 1) = A.length + 1 + k from by rw [List.length_cons]; omega] at h1
              rw [h1, List.getElem_cons, dif_neg q])
          (by rw [List.length_cons]; omega) (by omega)
        refine ⟨σ', h2.trans a1, by rw [insL_t ⟨c1, hc⟩]; exact a2, ?_, ?_, hF.trans a5⟩
        · rw [a3]
          simp only [List.length_cons]
          congr 1
          omega
        · rw [a4, insN_t ⟨c1, hc⟩]
          congr 1
          omega
      · rw [if_neg hc] at h2
        obtain ⟨σ', a1, a2, a3, a4⟩ := add92_s (x := x) h11 hA hB hl
        exact ⟨σ', h2.trans a1, by rw [insL_f fun g => hc g.2]; exact a2, a3, by rw [a4.1 493 12 (by omega), h12, insN_f fun g => hc g.2]; congr 1; omega, a4.mono fun a k q => by omega⟩
    · obtain ⟨σ', a1, a2, a3, a4⟩ := add92_s (x := x) h11 hA hB hl
      exact ⟨σ', (add5_c1 hx hw (Or.inr c1)).trans a1, by rw [insL_f fun g => c1 g.1]; exact a2, a3, by rw [a4.1 493 12 (by omega), h12, insN_f fun g => c1 g.1]; congr 1; omega, a4.mono fun a k q => by omega⟩
theorem m_add_s {w : Nat → Nat} {x : Nat} {c : Int} {σ : MsSt} {D : List Nat} (hx : SgB w x) (hw : Mw σ 494 w) (hm : ∀ y ∈ D, SgB w y) (h11 : ms_i σ 493 11 = iZ (D.length : Int)) (h12 : ms_i σ 493 12 = iZ (c : Int)) (hD : Aw σ 501 D) (hl : D.length < 361) :
    ∃ σ', f_X12_add σ 493 (iZ (x : Int)) = some σ' ∧ Aw σ' 501 (ins w D x) ∧ ms_i σ' 493 11 = iZ ((ins w D x).length : Int) ∧ ms_i σ' 493 12 = iZ (c + (insN w x D.reverse : Int)) ∧ Fr (fun a k => a = 501 ∨ (a = 493 ∧ (k = 11 ∨ k = 12))) σ σ' := by
  obtain ⟨σ', a1, a2, a3, a4, a5⟩ := add5_s hx D.reverse [] ms_fuel σ c hw (fun y hy => hm y (List.mem_reverse.mp hy)) (by rw [h11]; simp) h12 (fun k hk => by rw [hD k (by simpa using hk)]; simp) (fun k hk => absurd hk (Nat.not_lt_zero _)) (by simpa using hl) (by rw [List.length_reverse]; show D.length < 100000; omega)
  refine ⟨σ', ?_, a2, ?_, a4, a5⟩
  · unfold f_X12_add
    rw [h11]
    rw [List.length_reverse] at a1
    exact a1
  · rw [a3, ins_length]
    simp
