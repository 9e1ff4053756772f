/-! how many clusters a form has; marks of a cluster stand in the order of their classes -/
def nb (w : Nat → Nat) (D : List Nat) : Nat := D.countP fun y => Kd w y != 1
theorem insL_nb (w : Nat → Nat) (x : Nat) : ∀ (A B : List Nat), nb w (insL w x A B) = nb w A + nb w B + nb w [x] := by
  intro A
  induction A with
  | nil => intro B; unfold nb insL; rw [List.countP_cons, List.countP_cons]; simp
  | cons y A ih =>
    intro B
    unfold insL
    split
    · rw [ih]
      unfold nb
      rw [List.countP_cons, List.countP_cons (l := A)]
      omega
    · unfold nb
      rw [List.countP_append, List.countP_reverse, List.countP_cons (l := B), List.countP_cons (l := [])]
      simp
      omega
theorem foldl_ins_nb (w : Nat → Nat) : ∀ (P D : List Nat), nb w (P.foldl (ins w) D) = nb w D + nb w P := by
  intro P
  induction P with
  | nil => intro D; simp [nb]
  | cons x P ih =>
    intro D
    rw [List.foldl_cons, ih]
    unfold ins
    rw [insL_nb]
    unfold nb
    rw [List.countP_reverse, List.countP_cons (l := P), List.countP_cons (l := [])]
    simp
    omega
theorem od_nb (w : Nat → Nat) (P : List Nat) : nb w (od w P) = nb w P := by
  unfold od
  rw [foldl_ins_nb]
  simp [nb]
/-- whether the first is a mark -/
def hm (w : Nat → Nat) (D : List Nat) : Bool := match D with
  | [] => true
  | y :: _ => Kd w y == 1
theorem insL_hm (w : Nat → Nat) (x : Nat) : ∀ (A B : List Nat), (∀ y ∈ B, Kd w y = 1) → (A = [] → Kd w x = 1 ∨ B = []) → hm w (insL w x A B) = if A = [] then (Kd w x == 1) else hm w A.reverse := by
  intro A
  induction A with
  | nil =>
    intro B hB h
    rfl
  | cons y A ih =>
    intro B hB h
    rw [if_neg (List.cons_ne_nil y A)]
    unfold insL
    split
    · rename_i c
      rw [ih (y :: B) (fun z hz => by
        rcases List.mem_cons.mp hz with rfl | hz
        · exact c.2.1
        · exact hB z hz) (fun _ => Or.inl c.1)]
      by_cases hA : A = []
      · subst hA
        rw [if_pos rfl]
        simp [hm, c.1, c.2.1]
      · rw [if_neg hA]
        obtain ⟨z, l, e⟩ : ∃ z l, A.reverse = z :: l := by
          cases e : A.reverse with
          | nil => exact absurd (List.reverse_eq_nil_iff.mp e) hA
          | cons z l => exact ⟨z, l, rfl⟩
        rw [List.reverse_cons, e]
        rfl
    · obtain ⟨z, l, e⟩ : ∃ z l, (y :: A).reverse = z :: l := by
        cases e : (y :: A).reverse with
        | nil => exact absurd (List.reverse_eq_nil_iff.mp e) (List.cons_ne_nil y A)
        | cons z l => exact ⟨z, l, rfl⟩
      rw [e]
      rfl
theorem ins_hm (w : Nat → Nat) (D : List Nat) (x : Nat) : hm w (ins w D x) = if D = [] then (Kd w x == 1) else hm w D := by
  unfold ins
  rw [insL_hm w x D.reverse [] (fun y hy => by cases hy) (fun _ => Or.inr rfl)]
  by_cases q : D = []
  · subst q; rfl
  · rw [if_neg (fun e => q (List.reverse_eq_nil_iff.mp e)), if_neg q, List.reverse_reverse]
theorem ins_ne (w : Nat → Nat) (D : List Nat) (x : Nat) : ins w D x ≠ [] := fun e => by
  have := ins_length w D x
  rw [e] at this
  simp at this
theorem foldl_ins_hm (w : Nat → Nat) : ∀ (P D : List Nat), D ≠ [] → hm w (P.foldl (ins w) D) = hm w D := by
  intro P
  induction P with
  | nil => intro D _; rfl
  | cons x P ih =>
    intro D h
    rw [List.foldl_cons, ih _ (ins_ne w D x), ins_hm, if_neg h]
theorem od_hm (w : Nat → Nat) (P : List Nat) : hm w (od w P) = hm w P := by
  cases P with
  | nil => rfl
  | cons x P =>
    unfold od
    rw [List.foldl_cons, foldl_ins_hm w P _ (ins_ne w [] x), ins_hm, if_pos rfl]
    rfl
theorem bgn_count (w : Nat → Nat) (D : List Nat) : ∀ i, i ≤ D.length → (bgn w D i).length = nb w (D.take i) + (if 0 < i ∧ hm w D = true then 1 else 0) := by
  intro i
  induction i with
  | zero => intro _; simp [bgn, nb]
  | succ i ih =>
    intro hi
    have hlt : i < D.length := hi
    have h1 := ih (by omega)
    have hgd : D.getD i 0 = D[i] := by rw [List.getD_eq_getElem?_getD, List.getElem?_eq_getElem hlt]; rfl
    rw [bgn_succ, List.take_succ_eq_append_getElem hlt]
    have hn : nb w (D.take i ++ [D[i]]) = nb w (D.take i) + (if Kd w D[i] = 1 then 0 else 1) := by
      unfold nb
      rw [List.countP_append, List.countP_cons]
      by_cases q : Kd w D[i] = 1 <;> simp [q]
    rw [hn]
    by_cases q0 : i = 0
    · subst q0
      have hb : bgf w D 0 = true := by simp [bgf]
      rw [if_pos hb, List.length_append, h1]
      have hd : hm w D = (Kd w D[0] == 1) := by
        cases D with
        | nil => exact absurd hlt (Nat.not_lt_zero _)
        | cons y D => rfl
      rw [hd]
      by_cases q : Kd w D[0] = 1 <;> simp [q, nb]
    · by_cases q : Kd w D[i] = 1
      · have hb : ¬ bgf w D i = true := by
          unfold bgf
          rw [hgd]
          simp [q0, q]
        rw [if_neg hb, h1, if_pos q]
        by_cases g : hm w D = true <;> simp [g] <;> omega
      · have hb : bgf w D i = true := by
          unfold bgf
          rw [hgd]
          simp [q]
        rw [if_pos hb, List.length_append, h1, if_neg q]
        by_cases g : hm w D = true <;> simp [g] <;> omega
theorem pn_nb {w : Nat → Nat} {n : Nat} (hs : SgsOK w n) : ∀ (L : List Nat), (∀ x ∈ L, x < n) → nb w (pn w L) ≤ L.length ∧ (L ≠ [] → hm w (pn w L) = true → nb w (pn w L) + 1 ≤ L.length) := by
  have h1 : ∀ s, s < n → nb w (ex w s) = if Kd w s = 1 then 0 else 1 := by
    intro s h
    rcases hs.shape s h with ⟨c, e⟩ | ⟨c, b, ms, e, e2, e3, e4⟩
    · rw [e]
      simp [nb, c]
    · rw [e, if_neg c]
      unfold nb
      rw [List.countP_cons, List.countP_eq_zero.mpr (fun m hm => by simp [(e4 m hm).2])]
      simp [e3]
  intro L
  induction L with
  | nil => intro _; exact ⟨by simp [pn, nb], fun h => absurd rfl h⟩
  | cons x L ih =>
    intro h
    have hx := h x List.mem_cons_self
    obtain ⟨i1, _⟩ := ih fun y hy => h y (List.mem_cons_of_mem _ hy)
    have e : nb w (pn w (x :: L)) = nb w (ex w x) + nb w (pn w L) := by
      unfold pn nb
      rw [List.flatMap_cons, List.countP_append]
    rw [e, h1 x hx, List.length_cons]
    refine ⟨by split <;> omega, fun _ hh => ?_⟩
    have hk : Kd w x = 1 := by
      rcases hs.shape x hx with ⟨c, _⟩ | ⟨c, b, ms, e1, e2, e3, e4⟩
      · exact c
      · unfold pn at hh
        rw [List.flatMap_cons, e1] at hh
        simp [hm, e3] at hh
    rw [if_pos hk]
    omega
theorem bg_length {w : Nat → Nat} {n : Nat} (hs : SgsOK w n) {L : List Nat} (h : ∀ x ∈ L, x < n) : (bg w (dF w L)).length ≤ L.length := by
  unfold bg
  rw [bgn_count w _ _ (Nat.le_refl _), List.take_length]
  unfold dF
  rw [od_nb, od_hm, od_length]
  obtain ⟨h1, h2⟩ := pn_nb hs L h
  by_cases q : L = []
  · subst q
    simp [pn, nb]
  · by_cases g : hm w (pn w L) = true
    · have := h2 q g
      split <;> omega
    · rw [if_neg fun e => g e.2]
      omega
/-- neighbours that are marks stand in the order of their classes -/
def Srt (w : Nat → Nat) (D : List Nat) : Prop := ∀ A y z B, D = A ++ y :: z :: B → Kd w y = 1 → Kd w z = 1 → Cl w y ≤ Cl w z
theorem Srt.left {w : Nat → Nat} {A B : List Nat} (h : Srt w (A ++ B)) : Srt w A := fun A1 y z B1 e => by
  subst e
  exact h A1 y z (B1 ++ B) (by simp)
theorem Srt.glue {w : Nat → Nat} {A B : List Nat} {x : Nat} (hA : Srt w (A ++ [x])) (hB : Srt w (x :: B)) : Srt w (A ++ x :: B) := by
  intro A1 y z B1 e ky kz
  rcases List.append_eq_append_iff.mp e with ⟨C, e1, e2⟩ | ⟨C, e1, e2⟩
  · -- A1 = A ++ C, x :: B = C ++ y :: z :: B1
    exact hB C y z B1 e2 ky kz
  · -- A = A1 ++ C, y :: z :: B1 = C ++ x :: B
    cases C with
    | nil =>
      rw [List.nil_append] at e2
      exact hB [] y z B1 e2.symm ky kz
    | cons c C =>
      rw [List.cons_append] at e2
      injection e2 with e3 e4
      subst e3
      cases C with
      | nil =>
        rw [List.nil_append] at e4
        injection e4 with e5 e6
        subst e5
        exact hA A1 y z [] (by rw [e1]; simp) ky kz
      | cons d C =>
        rw [List.cons_append] at e4
        injection e4 with e5 e6
        subst e5
        exact hA A1 y z (C ++ [x]) (by rw [e1]; simp) ky kz
theorem insL_srt {w : Nat → Nat} {x : Nat} : ∀ (A B : List Nat), Srt w (A.reverse ++ B) → Srt w (x :: B) → (B = [] ∨ Kd w x = 1) → Srt w (insL w x A B) := by
  intro A
  induction A with
  | nil => intro B _ h _; exact h
  | cons y A ih =>
    intro B h1 h2 h3
    rw [List.reverse_cons, List.append_assoc] at h1
    unfold insL
    split
    · rename_i c
      refine ih (y :: B) h1 ?_ (Or.inr c.1)
      intro A1 u v B1 e ku kv
      cases A1 with
      | nil =>
        rw [List.nil_append] at e
        injection e with e1 e2
        injection e2 with e3 e4
        subst e1; subst e3
        exact Nat.le_of_lt c.2.2
      | cons a A1 =>
        rw [List.cons_append] at e
        injection e with e1 e2
        exact h1 (A.reverse ++ A1) u v B1 (by rw [List.singleton_append, e2]; simp) ku kv
    · rename_i c
      refine Srt.glue ?_ h2
      rw [List.reverse_cons, List.append_assoc]
      refine Srt.glue (A := A.reverse) (x := y) (B := [x]) ?_ ?_
      · have : Srt w ((A.reverse ++ [y]) ++ B) := by rw [List.append_assoc]; exact h1
        exact this.left
      · intro A1 u v B1 e ku kv
        cases A1 with
        | nil =>
          rw [List.nil_append] at e
          injection e with e1 e2
          injection e2 with e3 e4
          subst e1; subst e3
          by_cases q : Cl w x < Cl w y
          · exact absurd ⟨kv, ku, q⟩ c
          · omega
        | cons a A1 =>
          rw [List.cons_append] at e
          injection e with e1 e2
          have := congrArg List.length e2
          simp at this
          omega
theorem od_srt (w : Nat → Nat) (P : List Nat) : Srt w (od w P) := by
  have key : ∀ (P D : List Nat), Srt w D → Srt w (P.foldl (ins w) D) := by
    intro P
    induction P with
    | nil => intro D h; exact h
    | cons x P ih =>
      intro D h
      rw [List.foldl_cons]
      refine ih _ ?_
      unfold ins
      refine insL_srt D.reverse [] (by simpa using h) ?_ (Or.inl rfl)
      intro A1 u v B1 e
      have := congrArg List.length e
      simp at this
      omega
  refine key P [] ?_
  intro A1 u v B1 e
  have := congrArg List.length e
  simp at this
theorem Srt.get {w : Nat → Nat} {D : List Nat} (h : Srt w D) {k : Nat} (hk : k + 1 < D.length) (h1 : Kd w D[k] = 1) (h2 : Kd w D[k + 1] = 1) : Cl w D[k] ≤ Cl w D[k + 1] := by
  refine h (D.take k) D[k] D[k + 1] (D.drop (k + 2)) ?_ h1 h2
  conv => lhs; rw [← List.take_append_drop k D]
  congr 1
  rw [List.drop_eq_getElem_cons (by omega), List.drop_eq_getElem_cons hk]
/-! the first of a row of numbers that is so -/
def fst0 (P : Nat → Bool) : Nat → Int
  | 0 => -1
  | n + 1 => if fst0 P n = -1 then (if P n = true then (n : Int) else -1) else fst0 P n
theorem fst0_none {P : Nat → Bool} : ∀ {n : Nat}, (∀ t, t < n → ¬ P t = true) → fst0 P n = -1 := by
  intro n
  induction n with
  | zero => intro _; rfl
  | succ n ih =>
    intro h
    unfold fst0
    rw [if_pos (ih fun t ht => h t (by omega)), if_neg (h n (by omega))]
theorem fst0_at {P : Nat → Bool} {i : Nat} (h1 : ∀ t, t < i → ¬ P t = true) (h2 : P i = true) : ∀ n, i < n → fst0 P n = (i : Int) := by
  intro n
  induction n with
  | zero => intro h; omega
  | succ n ih =>
    intro h
    unfold fst0
    by_cases q : i = n
    · subst q
      rw [if_pos (fst0_none h1), if_pos h2]
    · rw [ih (by omega), if_neg (by omega)]
theorem fst0_range (P : Nat → Bool) (n : Nat) : fst0 P n = -1 ∨ ∃ i, i < n ∧ fst0 P n = (i : Int) ∧ P i = true := by
  induction n with
  | zero => exact Or.inl rfl
  | succ n ih =>
    unfold fst0
    rcases ih with h | ⟨i, h1, h2, h3⟩
    · rw [if_pos h]
      by_cases q : P n = true
      · rw [if_pos q]
        exact Or.inr ⟨n, by omega, rfl, q⟩
      · rw [if_neg q]
        exact Or.inl rfl
    · rw [h2, if_neg (by omega)]
      exact Or.inr ⟨i, by omega, rfl, h3⟩
theorem fst0_congr {P Q : Nat → Bool} : ∀ {n : Nat}, (∀ t, t < n → P t = Q t) → fst0 P n = fst0 Q n := by
  intro n
  induction n with
  | zero => intro _; rfl
  | succ n ih =>
    intro h
    unfold fst0
    rw [ih fun t ht => h t (by omega), h n (by omega)]
/-! pairs -/
def prP (w : Nat → Nat) (a b : Int) (s : Nat) : Bool := decide (Kd w s = 2) && (decide ((sgF w s 3 : Int) = a) && decide ((sgF w s 4 : Int) = b))
def pr (w : Nat → Nat) (n : Nat) (a b : Int) : Int := fst0 (prP w a b) n
theorem c_findPair {σ : MsSt} {a n : Nat} {w : Nat → Nat} (ha : ScAt a) (hs : SgsOK w n) (hc : ScRep σ a w n) {x y : Int} (x1 : -1 ≤ x) (x2 : x < 1000) (y1 : -1 ≤ y) (y2 : y < 1000) : f_X6_findPair σ a (iZ x) (iZ y) = some (iZ (pr w n x y)) := by
  have h40 := hs.1
  have key := lp0 (S := Int32) (f := fun n s => f_X6_findPair_2 σ n a (iZ x) (iZ y) s) (Q := fun v => v = iZ (pr w n x y))
    (fun i s => s = iZ (i : Int) ∧ i ≤ n ∧ ∀ t, t < i → ¬ prP w x y t = true) n (s := 0) ⟨rfl, Nat.zero_le _, fun t ht => absurd ht (Nat.not_lt_zero _)⟩ (by omega) ?_ ?_
  · obtain ⟨v, h1, rfl⟩ := key
    exact h1
  · rintro i s ⟨rfl, hi, hp⟩ hlt
    obtain ⟨g1, g2, g3, g4, g5, g6, g7, g8⟩ := hc.2 i hlt
    obtain ⟨k1, k2, k3, k4⟩ := (hs.2.1 i hlt).1
    have hhead : ∀ n', f_X6_findPair_2 σ (n' + 1) a (iZ x) (iZ y) (iZ (i : Int)) = (if iZ (Kd w i : Int) = 2 then (if ms_i σ (a + 2 + 3 * i) 11 = iZ x then (if ms_i σ (a + 2 + 3 * i) 12 = iZ y then some (iZ (i : Int)) else f_X6_findPair_2 σ n' a (iZ x) (iZ y) (iZ (i : Int) + 1)) else f_X6_findPair_2 σ n' a (iZ x) (iZ y) (iZ (i : Int) + 1)) else f_X6_findPair_2 σ n' a (iZ x) (iZ y) (iZ (i : Int) + 1)) := by
      intro n'
      show (if iZ (i : Int) < ms_i σ a 4 then _ else _) = _
      rw [iltT rfl hc.1 (by omega) (by omega) (by omega), told_s ha (by omega), Option.bind_some, g1]
    by_cases q : prP w x y i = true
    · right
      have q' : Kd w i = 2 ∧ (sgF w i 3 : Int) = x ∧ (sgF w i 4 : Int) = y := by simpa [prP] using q
      refine ⟨iZ (i : Int), by unfold pr; rw [fst0_at hp q n hlt], fun n' => ?_⟩
      rw [hhead, ieqT rfl i2 (by omega), ieqT (g8 q'.1).1 rfl q'.2.1, ieqT (g8 q'.1).2.1 rfl q'.2.2]
    · left
      refine ⟨iZ ((i : Int) + 1), ⟨by push_cast; rfl, hlt, fun t ht => ?_⟩, fun n' => ?_⟩
      · by_cases e : t = i
        · subst e; exact q
        · exact hp t (by omega)
      · have e1 : iZ (i : Int) + 1 = iZ ((i : Int) + 1) := by rw [i1, iZ_add]
        rw [hhead, e1]
        by_cases c : Kd w i = 2
        · obtain ⟨m1, m2, m3, m4, m5, m6⟩ := k4 c
          rw [ieqT rfl i2 (by omega)]
          by_cases c2 : (sgF w i 3 : Int) = x
          · rw [ieqT (g8 c).1 rfl c2]
            by_cases c3 : (sgF w i 4 : Int) = y
            · exact absurd (by simp [prP, c, c2, c3]) q
            · rw [ieqF (g8 c).2.1 rfl c3 (by omega) (by omega) (by omega) (by omega)]
          · rw [ieqF (g8 c).1 rfl c2 (by omega) (by omega) (by omega) (by omega)]
        · rw [ieqF rfl i2 (by omega) (by omega) (by omega) (by omega) (by omega)]
  · rintro s ⟨rfl, hi, hp⟩
    refine ⟨iZ (-1), by unfold pr; rw [fst0_none hp], fun n' => ?_⟩
    show (if iZ (n : Int) < ms_i σ a 4 then _ else _) = _
    rw [iltF rfl hc.1 (by omega) (by omega) (by omega)]
    rfl
theorem m_findPair {σ : MsSt} {a n : Nat} {w : Nat → Nat} (ha : MwAt a) (hs : SgsOK w n) (hw : Mw σ a w) (h0 : w 0 = n) {x y : Int} (x1 : -1 ≤ x) (x2 : x < 1000) (y1 : -1 ≤ y) (y2 : y < 1000) : f_X12_findPair σ a (iZ x) (iZ y) = some (iZ (pr w n x y)) := by
  have h40 := hs.1
  have hn := mw_get hw ha (z := 0) (k := 0) rfl (by omega)
  rw [h0] at hn
  have key := lp0 (S := Int32) (f := fun n s => f_X12_findPair_2 σ n a (iZ x) (iZ y) s) (Q := fun v => v = iZ (pr w n x y))
    (fun i s => s = iZ (i : Int) ∧ i ≤ n ∧ ∀ t, t < i → ¬ prP w x y t = true) n (s := 0) ⟨rfl, Nat.zero_le _, fun t ht => absurd ht (Nat.not_lt_zero _)⟩ (by omega) ?_ ?_
  · obtain ⟨v, h1, rfl⟩ := key
    exact h1
  · rintro i s ⟨rfl, hi, hp⟩ hlt
    obtain ⟨k1, k2, k3, k4⟩ := (hs.2.1 i hlt).1
    have hhead : ∀ n', f_X12_findPair_2 σ (n' + 1) a (iZ x) (iZ y) (iZ (i : Int)) = (if iZ (Kd w i : Int) = 2 then (if iZ (sgF w i 3 : Int) = iZ x then (if iZ (sgF w i 4 : Int) = iZ y then some (iZ (i : Int)) else f_X12_findPair_2 σ n' a (iZ x) (iZ y) (iZ (i : Int) + 1)) else f_X12_findPair_2 σ n' a (iZ x) (iZ y) (iZ (i : Int) + 1)) else f_X12_findPair_2 σ n' a (iZ x) (iZ y) (iZ (i : Int) + 1)) := by
      intro n'
      show (ms_ald σ a 0).bind _ = _
      have hn' : ms_ald σ a 0 = some (iZ (n : Int)) := hn
      rw [hn', Option.bind_some, iltT rfl rfl (by omega) (by omega) (by omega)]
      simp only [of_0, of_3, of_4, Option.bind_some]
      rw [mw_get hw ha (k := 247 + 7 * i) (by omega) (by omega), mw_get hw ha (k := 247 + 7 * i + 3) (by omega) (by omega), mw_get hw ha (k := 247 + 7 * i + 4) (by omega) (by omega)]
      rfl
    by_cases q : prP w x y i = true
    · right
      have q' : Kd w i = 2 ∧ (sgF w i 3 : Int) = x ∧ (sgF w i 4 : Int) = y := by simpa [prP] using q
      refine ⟨iZ (i : Int), by unfold pr; rw [fst0_at hp q n hlt], fun n' => ?_⟩
      rw [hhead, ieqT rfl i2 (by omega), ieqT rfl rfl q'.2.1, ieqT rfl rfl q'.2.2]
    · left
      refine ⟨iZ ((i : Int) + 1), ⟨by push_cast; rfl, hlt, fun t ht => ?_⟩, fun n' => ?_⟩
      · by_cases e : t = i
        · subst e; exact q
        · exact hp t (by omega)
      · have e1 : iZ (i : Int) + 1 = iZ ((i : Int) + 1) := by rw [i1, iZ_add]
        rw [hhead, e1]
        by_cases c : Kd w i = 2
        · obtain ⟨m1, m2, m3, m4, m5, m6⟩ := k4 c
          rw [ieqT rfl i2 (by omega)]
          by_cases c2 : (sgF w i 3 : Int) = x
          · rw [ieqT rfl rfl c2]
            by_cases c3 : (sgF w i 4 : Int) = y
            · exact absurd (by simp [prP, c, c2, c3]) q
            · rw [ieqF rfl rfl c3 (by omega) (by omega) (by omega) (by omega)]
          · rw [ieqF rfl rfl c2 (by omega) (by omega) (by omega) (by omega)]
        · rw [ieqF rfl i2 (by omega) (by omega) (by omega) (by omega) (by omega)]
  · rintro s ⟨rfl, hi, hp⟩
    refine ⟨iZ (-1), by unfold pr; rw [fst0_none hp], fun n' => ?_⟩
    show (ms_ald σ a 0).bind _ = _
    have hn' : ms_ald σ a 0 = some (iZ (n : Int)) := hn
    rw [hn', Option.bind_some, iltF rfl rfl (by omega) (by omega) (by omega)]
    rfl
