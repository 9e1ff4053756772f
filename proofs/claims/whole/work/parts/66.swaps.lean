/-! swaps: how many marks of greater class stand ahead in the same run -/
def rc (w : Nat → Nat) (c : Nat) : List Nat → Nat
  | [] => 0
  | y :: L => if Kd w y = 1 then (if c < Cl w y then 1 else 0) + rc w c L else 0
def rcc (w : Nat → Nat) (c : Nat) (B : List Nat) : Nat := B.countP fun y => decide (c < Cl w y)
theorem rc_app (w : Nat → Nat) (c : Nat) (A : List Nat) : ∀ (B : List Nat), (∀ y ∈ B, Kd w y = 1) → rc w c (B ++ A) = rcc w c B + rc w c A := by
  intro B
  induction B with
  | nil => intro _; simp [rcc]
  | cons y B ih =>
    intro h
    have h1 := ih fun z hz => h z (List.mem_cons_of_mem _ hz)
    show (if Kd w y = 1 then (if c < Cl w y then 1 else 0) + rc w c (B ++ A) else 0) = _
    rw [if_pos (h y List.mem_cons_self), h1]
    unfold rcc
    rw [List.countP_cons]
    by_cases q : c < Cl w y
    · simp [q]; omega
    · simp [q]
theorem insL_rc (w : Nat → Nat) (x c : Nat) : ∀ (A B : List Nat), (∀ y ∈ B, Kd w y = 1) → (B = [] ∨ Kd w x = 1) → rc w c (insL w x A B).reverse = rcc w c B + (if Kd w x = 1 then (if c < Cl w x then 1 else 0) + rc w c A else 0) := by
  have base : ∀ (A B : List Nat), (∀ y ∈ B, Kd w y = 1) → (B = [] ∨ Kd w x = 1) → rc w c (A.reverse ++ x :: B).reverse = rcc w c B + (if Kd w x = 1 then (if c < Cl w x then 1 else 0) + rc w c A else 0) := by
    intro A B hB h
    have e : (A.reverse ++ x :: B).reverse = B.reverse ++ (x :: A) := by simp
    have e2 : rcc w c B.reverse = rcc w c B := by unfold rcc; rw [List.countP_reverse]
    rw [e, rc_app w c _ _ (fun y hy => hB y (List.mem_reverse.mp hy)), e2]
    rfl
  intro A
  induction A with
  | nil => intro B hB h; exact base [] B hB h
  | cons y A ih =>
    intro B hB h
    by_cases q : Kd w x = 1 ∧ Kd w y = 1 ∧ Cl w x < Cl w y
    · rw [insL_t q, ih (y :: B) (fun z hz => by
        rcases List.mem_cons.mp hz with rfl | hz
        · exact q.2.1
        · exact hB z hz) (Or.inr q.1), if_pos q.1, if_pos q.1]
      have e : rc w c (y :: A) = (if c < Cl w y then 1 else 0) + rc w c A := if_pos q.2.1
      rw [e]
      unfold rcc
      rw [List.countP_cons]
      by_cases g : c < Cl w y
      · simp [g]; omega
      · simp [g]
    · rw [insL_f q]
      exact base (y :: A) B hB h
theorem od_rc (w : Nat → Nat) (c : Nat) (P : List Nat) : rc w c (od w P).reverse = rc w c P.reverse := by
  have key : ∀ (k : Nat) (P : List Nat), P.length = k → rc w c (od w P).reverse = rc w c P.reverse := by
    intro k
    induction k with
    | zero =>
      intro P h
      rw [List.length_eq_zero_iff.mp h]
      rfl
    | succ k ih =>
      intro P h
      have hne : P ≠ [] := fun e => by rw [e] at h; simp at h
      have e := List.dropLast_concat_getLast hne
      have hl : P.dropLast.length = k := by rw [List.length_dropLast, h]; rfl
      rw [← e, od_snoc]
      unfold ins
      rw [insL_rc w _ c _ [] (fun y hy => by cases hy) (Or.inl rfl), ih _ hl, List.reverse_append]
      simp [rcc, rc]
  exact key P.length P rfl
theorem rc_zero (w : Nat → Nat) (c : Nat) : ∀ (L : List Nat) (y : Nat), Srt w (y :: L).reverse → Kd w y = 1 → Cl w y ≤ c → rc w c (y :: L) = 0 := by
  intro L
  induction L with
  | nil =>
    intro y _ h1 h2
    show (if Kd w y = 1 then (if c < Cl w y then 1 else 0) + 0 else 0) = 0
    rw [if_pos h1, if_neg (by omega)]
  | cons z L ih =>
    intro y hS h1 h2
    show (if Kd w y = 1 then (if c < Cl w y then 1 else 0) + rc w c (z :: L) else 0) = 0
    rw [if_pos h1, if_neg (by omega)]
    by_cases q : Kd w z = 1
    · have h3 : Cl w z ≤ Cl w y := hS L.reverse z y [] (by simp) q h1
      have h4 : Srt w (z :: L).reverse := by
        have : Srt w ((z :: L).reverse ++ [y]) := by rw [← List.reverse_cons]; exact hS
        exact this.left
      rw [ih z h4 q (by omega)]
    · have : rc w c (z :: L) = 0 := if_neg q
      rw [this]
theorem insN_rc (w : Nat → Nat) (x : Nat) (hx : Kd w x = 1) : ∀ (L : List Nat), Srt w L.reverse → insN w x L = rc w (Cl w x) L := by
  intro L
  induction L with
  | nil => intro _; rfl
  | cons y L ih =>
    intro hS
    have h4 : Srt w L.reverse := by
      have : Srt w (L.reverse ++ [y]) := by rw [← List.reverse_cons]; exact hS
      exact this.left
    by_cases q : Kd w y = 1 ∧ Cl w x < Cl w y
    · rw [insN_t ⟨hx, q⟩, ih h4]
      have e : rc w (Cl w x) (y :: L) = (if Cl w x < Cl w y then 1 else 0) + rc w (Cl w x) L := if_pos q.1
      rw [e, if_pos q.2]
      omega
    · rw [insN_f fun g => q g.2]
      by_cases q2 : Kd w y = 1
      · rw [rc_zero w (Cl w x) L y hS q2 (by
          have : ¬ Cl w x < Cl w y := fun g => q ⟨q2, g⟩
          omega)]
      · exact (if_neg q2).symm
theorem insN_not (w : Nat → Nat) (x : Nat) (hx : Kd w x ≠ 1) (L : List Nat) : insN w x L = 0 := by
  cases L with
  | nil => rfl
  | cons y L => exact insN_f fun g => hx g.1
theorem sw_take {w : Nat → Nat} {P : List Nat} {i : Nat} (h : i < P.length) : sw w (P.take (i + 1)) = sw w (P.take i) + (if Kd w P[i] = 1 then rc w (Cl w P[i]) (P.take i).reverse else 0) := by
  rw [List.take_succ_eq_append_getElem h]
  unfold sw
  rw [swF_append, swF_one]
  congr 1
  show insN w P[i] (od w (P.take i)).reverse = _
  by_cases q : Kd w P[i] = 1
  · rw [if_pos q, insN_rc w _ q _ (by rw [List.reverse_reverse]; exact od_srt w _), od_rc]
  · rw [if_neg q, insN_not w _ q]
theorem rc_le (w : Nat → Nat) (c : Nat) : ∀ (L : List Nat), rc w c L ≤ L.length := by
  intro L
  induction L with
  | nil => exact Nat.le_refl _
  | cons y L ih =>
    show (if Kd w y = 1 then (if c < Cl w y then 1 else 0) + rc w c L else 0) ≤ _
    rw [List.length_cons]
    split
    · split <;> omega
    · omega
theorem sw_le {w : Nat → Nat} {P : List Nat} : ∀ i, i ≤ P.length → sw w (P.take i) ≤ i * i := by
  intro i
  induction i with
  | zero => intro _; simp [sw, swF]
  | succ i ih =>
    intro h
    have h1 := ih (by omega)
    rw [sw_take h]
    have h2 := rc_le w (Cl w P[i]) (P.take i).reverse
    rw [List.length_reverse, List.length_take] at h2
    have h3 : (i + 1) * (i + 1) = i * i + 2 * i + 1 := by rw [Nat.add_mul, Nat.mul_add]; omega
    split <;> omega
section Sw
variable {σ : MsSt} {w : Nat → Nat} {F : Nat} {P : List Nat} {m cls : Int32}
/-- classes as the system takes them here -/
def CwR (σ : MsSt) (F : Nat) (w : Nat → Nat) (P : List Nat) (m cls : Int32) : Prop := ∀ x ∈ P, f_X1_classWith σ F (iZ (x : Int)) m cls = some (iZ (Cl w x : Int)) ∧ Cl w x ≤ 60 ∧ (Kd w x = 1 ↔ Cl w x ≠ 0)
theorem c_passed_l (hF : FmAt F) (hP : Rw cN σ (F + 1) 360 P) (hC : CwR σ F w P m cls) {own : Nat} (ho : 0 < own) (ho2 : own ≤ 60) : ∀ (k n p : Nat), k ≤ P.length → k < n → p + k ≤ 1000 → f_X1_countPassed_24 σ n F m cls (iZ (own : Int)) (iZ (p : Int)) (iZ ((k : Int) - 1)) = some (iZ ((p + rc w own (P.take k).reverse : Nat) : Int)) := by
  obtain ⟨r0, r1, r2, r3, r4, r5, r6⟩ := fm_refs hF
  have hlen := hP.2.1
  intro k
  induction k with
  | zero =>
    intro n p _ hn _
    obtain ⟨n', rfl⟩ : ∃ n', n = n' + 1 := ⟨n - 1, by omega⟩
    show (if iZ ((0 : Nat) - 1 : Int) < 0 then _ else _) = _
    rw [iltT rfl i0 (by simp) (by simp) (by omega)]
    rfl
  | succ k ih =>
    intro n p hk hn hp
    obtain ⟨n', rfl⟩ : ∃ n', n = n' + 1 := ⟨n - 1, by omega⟩
    have hlt : k < P.length := by omega
    have ek : ((k + 1 : Nat) : Int) - 1 = (k : Int) := by omega
    obtain ⟨c1, c2, c3⟩ := hC _ (List.getElem_mem hlt)
    have hg : f_X5_get σ (F + 1) (iZ (k : Int)) = some (iZ ((P[k] : Nat) : Int)) := get_in hP hlt
    rw [ek]
    show (if iZ (k : Int) < 0 then _ else _) = _
    rw [iltF rfl i0 (by omega) (by omega) (by omega), iltT i0 rfl (by omega) (by omega) (by omega), r1, hg, Option.bind_some, c1, Option.bind_some]
    have et : (P.take (k + 1)).reverse = P[k] :: (P.take k).reverse := by rw [List.take_succ_eq_append_getElem hlt]; simp
    have e1 : iZ (k : Int) + -1 = iZ ((k : Int) - 1) := by rw [← Int32.sub_eq_add_neg, i1, iZ_sub]
    by_cases z : Cl w P[k] = 0
    · rw [ieqT rfl i0 (by omega), et]
      have : rc w own (P[k] :: (P.take k).reverse) = 0 := if_neg (fun g => (c3.mp g) z)
      rw [this]
      rfl
    · have hr : rc w own (P[k] :: (P.take k).reverse) = (if own < Cl w P[k] then 1 else 0) + rc w own (P.take k).reverse := if_pos (c3.mpr z)
      rw [ieqF rfl i0 (by omega) (by omega) (by omega) (by omega) (by omega), et, hr, ilt rfl rfl (by omega) (by omega) (by omega) (by omega), e1]
      by_cases q : own < Cl w P[k]
      · rw [if_pos (by omega), if_pos q, i1, iZ_add]
        have := ih n' (p + 1) (by omega) (by omega) (by omega)
        rw [show ((p + 1 : Nat) : Int) = (p : Int) + 1 from by omega] at this
        rw [this]
        congr 3
        omega
      · rw [if_neg (by omega), if_neg q, ih n' p (by omega) (by omega) (by omega)]
        congr 3
        omega
theorem c_countSwaps (hF : FmAt F) (hP : Rw cN σ (F + 1) 360 P) (hC : CwR σ F w P m cls) : f_X1_countSwaps σ F m cls = some (iZ (sw w P : Int)) := by
  obtain ⟨r0, r1, r2, r3, r4, r5, r6⟩ := fm_refs hF
  have hlen := hP.2.1
  have hp : ∀ i (hi : i < P.length), f_X1_countPassed σ F (iZ (i : Int)) m cls = some (iZ ((if Kd w P[i] = 1 then rc w (Cl w P[i]) (P.take i).reverse else 0 : Nat) : Int)) := by
    intro i hi
    obtain ⟨c1, c2, c3⟩ := hC _ (List.getElem_mem hi)
    have hg : f_X5_get σ (F + 1) (iZ (i : Int)) = some (iZ ((P[i] : Nat) : Int)) := get_in hP hi
    unfold f_X1_countPassed
    rw [r1, hg, Option.bind_some, c1, Option.bind_some]
    have e1 : iZ (i : Int) - 1 = iZ ((i : Int) - 1) := by rw [i1, iZ_sub]
    rw [e1]
    by_cases z : Kd w P[i] = 1
    · rw [if_pos z]
      have := c_passed_l hF hP hC (own := Cl w P[i]) (by have := c3.mp z; omega) c2 i ms_fuel 0 (by omega) (by show i < 100000; omega) (by omega)
      rw [Nat.zero_add] at this
      exact this
    · rw [if_neg z]
      have z2 : Cl w P[i] = 0 := by
        by_cases g : Cl w P[i] = 0
        · exact g
        · exact absurd (c3.mpr g) z
      show (if iZ ((i : Int) - 1) < 0 then some 0 else if 0 < iZ (Cl w P[i] : Int) then _ else some 0) = _
      by_cases g : i = 0
      · rw [iltT rfl i0 (by omega) (by omega) (by omega)]
        rfl
      · rw [iltF rfl i0 (by omega) (by omega) (by omega), iltF i0 rfl (by omega) (by omega) (by omega)]
        rfl
  have hsw : ∀ i, i ≤ P.length → sw w (P.take i) ≤ 129600 := fun i hi => by
    have h1 := sw_le (w := w) i hi
    have h2 : i * i ≤ 360 * 360 := Nat.mul_le_mul (by omega) (by omega)
    omega
  have := lpx (S := Int32 × Int32) (f := fun n s => f_X1_countSwaps_5 σ n F m cls s.1 s.2) (o := some (iZ (sw w P : Int))) (fun i s => s.2 = iZ (i : Int) ∧ i ≤ P.length ∧ s.1 = iZ (sw w (P.take i) : Int)) P.length ?_ ?_ P.length 0 (0, 0) ms_fuel ⟨rfl, Nat.zero_le _, by simp [sw, swF]; rfl⟩ (by omega) (by show _ < 100000; omega)
  · unfold f_X1_countSwaps
    exact this
  · rintro i ⟨a, x⟩ ⟨hx, hi, ha⟩ hlt
    dsimp only at hx ha ⊢
    subst hx; subst ha
    refine ⟨(iZ (sw w (P.take (i + 1)) : Int), iZ ((i + 1 : Nat) : Int)), ⟨rfl, hlt, rfl⟩, fun n' => ?_⟩
    show (if iZ (i : Int) < ms_i σ (ms_rf F 1) 1 then _ else _) = _
    rw [r1, iltT rfl hP.cnt (by omega) (by omega) (by omega), hp i hlt, Option.bind_some, iZ_add, i1, iZ_add, sw_take hlt]
    rfl
  · rintro ⟨a, x⟩ ⟨hx, hi, ha⟩ n'
    dsimp only at hx ha ⊢
    subst hx; subst ha
    show (if iZ (P.length : Int) < ms_i σ (ms_rf F 1) 1 then _ else _) = _
    rw [r1, iltF rfl hP.cnt (by omega) (by omega) (by omega), List.take_length]
end Sw
