/-! a cluster has at most 65 marks -/
def cm (w : Nat → Nat) (c : Nat) (L : List Nat) : Nat := L.foldl (fun c y => if Kd w y = 1 then c + 1 else 0) c
def cmB (c : Nat) (L : List Bool) : Nat := L.foldl (fun c y => if y = true then c + 1 else 0) c
def mp (w : Nat → Nat) (L : List Nat) : List Bool := L.map fun y => Kd w y == 1
theorem cm_mp (w : Nat → Nat) : ∀ (L : List Nat) (c : Nat), cm w c L = cmB c (mp w L) := by
  intro L
  induction L with
  | nil => intro c; rfl
  | cons y L ih =>
    intro c
    show cm w (if Kd w y = 1 then c + 1 else 0) L = cmB (if (Kd w y == 1) = true then c + 1 else 0) (mp w L)
    rw [ih]
    congr 1
    by_cases q : Kd w y = 1 <;> simp [q]
theorem mp_marks {w : Nat → Nat} {B : List Nat} (h : ∀ y ∈ B, Kd w y = 1) : mp w B = List.replicate B.length true := by
  unfold mp
  rw [List.eq_replicate_iff]
  refine ⟨by simp, fun b hb => ?_⟩
  obtain ⟨y, hy, rfl⟩ := List.mem_map.mp hb
  simp [h y hy]
theorem insL_mp (w : Nat → Nat) (x : Nat) : ∀ (A B : List Nat), (∀ y ∈ B, Kd w y = 1) → (B = [] ∨ Kd w x = 1) → mp w (insL w x A B) = mp w A.reverse ++ (mp w B ++ mp w [x]) := by
  have base : ∀ (A B : List Nat), (∀ y ∈ B, Kd w y = 1) → (B = [] ∨ Kd w x = 1) → mp w (A.reverse ++ x :: B) = mp w A.reverse ++ (mp w B ++ mp w [x]) := by
    intro A B hB h
    rcases h with rfl | h
    · simp [mp]
    · unfold mp
      rw [List.map_append]
      congr 1
      have h1 : mp w (x :: B) = List.replicate (B.length + 1) true := by
        have := mp_marks (w := w) (B := x :: B) (fun y hy => by
          rcases List.mem_cons.mp hy with rfl | hy
          · exact h
          · exact hB y hy)
        exact this
      have h2 : mp w B ++ mp w [x] = List.replicate (B.length + 1) true := by
        rw [mp_marks hB, mp_marks (w := w) (B := [x]) (fun y hy => by rw [List.mem_singleton.mp hy]; exact h), List.length_singleton, List.replicate_append_replicate]
      unfold mp at h1 h2
      rw [h1, h2]
  intro A
  induction A with
  | nil => intro B hB h; exact base [] B hB h
  | cons y A ih =>
    intro B hB h
    by_cases c : Kd w x = 1 ∧ Kd w y = 1 ∧ Cl w x < Cl w y
    · rw [insL_t c, ih (y :: B) (fun z hz => by
        rcases List.mem_cons.mp hz with rfl | hz
        · exact c.2.1
        · exact hB z hz) (Or.inr c.1)]
      simp [mp]
    · rw [insL_f c]
      exact base (y :: A) B hB h
theorem ins_mp (w : Nat → Nat) (D : List Nat) (x : Nat) : mp w (ins w D x) = mp w (D ++ [x]) := by
  unfold ins
  rw [insL_mp w x D.reverse [] (fun y hy => by cases hy) (Or.inl rfl), List.reverse_reverse]
  simp [mp]
theorem od_mp (w : Nat → Nat) (P : List Nat) : mp w (od w P) = mp w P := by
  have key : ∀ (P D : List Nat), mp w (P.foldl (ins w) D) = mp w (D ++ P) := by
    intro P
    induction P with
    | nil => intro D; simp
    | cons x P ih =>
      intro D
      rw [List.foldl_cons, ih]
      have := ins_mp w D x
      unfold mp at this ⊢
      rw [List.map_append, this, ← List.map_append]
      simp
  have := key P []
  simpa [od] using this
theorem cm_append (w : Nat → Nat) (c : Nat) (A B : List Nat) : cm w c (A ++ B) = cm w (cm w c A) B := by
  unfold cm
  rw [List.foldl_append]
theorem cm_le (w : Nat → Nat) : ∀ (L : List Nat) (c : Nat), cm w c L ≤ c + L.length := by
  intro L
  induction L with
  | nil => intro c; exact Nat.le_refl _
  | cons y L ih =>
    intro c
    have h1 := ih (c + 1)
    have h2 := ih 0
    show cm w (if Kd w y = 1 then c + 1 else 0) L ≤ _
    rw [List.length_cons]
    split <;> omega
theorem cm_pn {w : Nat → Nat} {n : Nat} (hs : SgsOK w n) : ∀ (L : List Nat), (∀ x ∈ L, x < n) → ∀ (c k : Nat), cm w c ((pn w L).take k) ≤ max c 5 + L.length := by
  intro L
  induction L with
  | nil => intro _ c k; simp [pn, cm]; omega
  | cons x L ih =>
    intro h c k
    have hx := h x List.mem_cons_self
    have ih' := ih fun y hy => h y (List.mem_cons_of_mem _ hy)
    have e : pn w (x :: L) = ex w x ++ pn w L := by unfold pn; rw [List.flatMap_cons]
    rw [e, List.take_append, cm_append, List.length_cons]
    have h6 := (hs.2.1 x hx).2
    rcases hs.shape x hx with ⟨k1, e1⟩ | ⟨_, b, ms, e1, e2, e3, e4⟩
    · rw [e1]
      cases k with
      | zero =>
        have := ih' c 0
        simp [cm] at this ⊢
        omega
      | succ k =>
        have h2 := ih' (c + 1) (k + 1 - [x].length)
        have h3 : cm w c ([x].take (k + 1)) = c + 1 := by simp [cm, k1]
        rw [h3]
        omega
    · rw [e1]
      rw [e1, List.length_cons] at h6
      cases k with
      | zero =>
        simp [cm]
        omega
      | succ k =>
        have h3 : cm w c ((b :: ms).take (k + 1)) = cm w 0 (ms.take k) := by simp [cm, e3]
        have h4 := cm_le w (ms.take k) 0
        rw [List.length_take] at h4
        have h2 := ih' (cm w 0 (ms.take k)) (k + 1 - (b :: ms).length)
        rw [h3]
        omega
theorem cm_run (w : Nat → Nat) (D : List Nat) (i : Nat) : ∀ k, i + k ≤ D.length → (∀ j, i ≤ j → j < i + k → Kd w (D.getD j 0) = 1) → k ≤ cm w 0 (D.take (i + k)) := by
  intro k
  induction k with
  | zero => intro _ _; exact Nat.zero_le _
  | succ k ih =>
    intro h1 h2
    have h3 := ih (by omega) (fun j a b => h2 j a (by omega))
    have hlt : i + k < D.length := by omega
    have h4 := h2 (i + k) (by omega) (by omega)
    rw [getD_get hlt] at h4
    rw [show i + (k + 1) = i + k + 1 from rfl, List.take_succ_eq_append_getElem hlt, cm_append]
    have : cm w (cm w 0 (D.take (i + k))) [D[i + k]] = cm w 0 (D.take (i + k)) + 1 := by simp [cm, h4]
    omega
theorem marks_le {w : Nat → Nat} {n : Nat} (hs : SgsOK w n) {L : List Nat} (h : ∀ x ∈ L, x < n) (h60 : L.length ≤ 60) {c : Nat} (hc : c < (bg w (dF w L)).length) : be w (dF w L) (c + 1) - fm w (dF w L) c ≤ 65 := by
  have hf := fm_le hc
  have hb := be_lt hc
  have h1 := cm_run w (dF w L) (fm w (dF w L) c) (be w (dF w L) (c + 1) - fm w (dF w L) c) (by omega) (fun j a b => fm_mark hc a (by omega))
  have h2 : cm w 0 ((dF w L).take (fm w (dF w L) c + (be w (dF w L) (c + 1) - fm w (dF w L) c))) = cm w 0 ((pn w L).take (fm w (dF w L) c + (be w (dF w L) (c + 1) - fm w (dF w L) c))) := by
    rw [cm_mp, cm_mp]
    unfold mp
    rw [List.map_take, List.map_take]
    have := od_mp w (pn w L)
    unfold mp at this
    unfold dF
    rw [this]
  have h3 := cm_pn hs L h 0 (fm w (dF w L) c + (be w (dF w L) (c + 1) - fm w (dF w L) c))
  omega
