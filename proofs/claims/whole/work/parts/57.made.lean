/-! composing, sign by sign: what is composed, the clusters that it comes from, the place of the starter (-1: none), the clusters begun, the classes that stayed -/
abbrev CSt : Type := List Nat × List Nat × Int × Nat × List Nat
def mk (w : Nat → Nat) (sp : Nat → Bool) (n : Nat) (a b : Int) : Int := if pr w n a b = -1 then -1 else if sp (pr w n a b).toNat = true then -1 else pr w n a b
def cJoin (w : Nat → Nat) (sp : Nat → Bool) (n : Nat) (s : CSt) (x : Nat) : Prop := 0 ≤ s.2.2.1 ∧ ¬ Cl w x ∈ s.2.2.2.2 ∧ mk w sp n ((s.1.getD s.2.2.1.toNat 0 : Nat) : Int) (x : Int) ≠ -1
def cSet (w : Nat → Nat) (sp : Nat → Bool) (n : Nat) (s : CSt) (x : Nat) : CSt := (s.1.set s.2.2.1.toNat (mk w sp n ((s.1.getD s.2.2.1.toNat 0 : Nat) : Int) (x : Int)).toNat, s.2)
def cClu (s : CSt) : Nat := if s.2.2.2.1 = 0 then 1 else s.2.2.2.1
def cStay (w : Nat → Nat) (s : CSt) (x : Nat) : CSt := (s.1 ++ [x], s.2.1 ++ [cClu s - 1], s.2.2.1, cClu s, Cl w x :: s.2.2.2.2)
def cBase (s : CSt) (x : Nat) : CSt := (s.1 ++ [x], s.2.1 ++ [s.2.2.2.1], (s.1.length : Int), s.2.2.2.1 + 1, [])
def cstep (w : Nat → Nat) (sp : Nat → Bool) (n : Nat) (s : CSt) (x : Nat) : CSt :=
  if Kd w x = 1 then (if 0 ≤ s.2.2.1 ∧ ¬ Cl w x ∈ s.2.2.2.2 ∧ mk w sp n ((s.1.getD s.2.2.1.toNat 0 : Nat) : Int) (x : Int) ≠ -1 then cSet w sp n s x else cStay w s x) else cBase s x
def c0 : CSt := ([], [], -1, 0, [])
def cmp (w : Nat → Nat) (sp : Nat → Bool) (n : Nat) (D : List Nat) : CSt := D.foldl (cstep w sp n) c0
theorem cmp_snoc (w : Nat → Nat) (sp : Nat → Bool) (n : Nat) (D : List Nat) (x : Nat) : cmp w sp n (D ++ [x]) = cstep w sp n (cmp w sp n D) x := by
  unfold cmp
  rw [List.foldl_append]
  rfl
theorem cmp_take {w : Nat → Nat} {sp : Nat → Bool} {n : Nat} {D : List Nat} {i : Nat} (h : i < D.length) : cmp w sp n (D.take (i + 1)) = cstep w sp n (cmp w sp n (D.take i)) D[i] := by
  rw [List.take_succ_eq_append_getElem h, cmp_snoc]
theorem prP_kd {w : Nat → Nat} {a b : Int} {p : Nat} (h : prP w a b p = true) : Kd w p = 2 := by
  unfold prP at h
  simp only [Bool.and_eq_true, decide_eq_true_eq] at h
  exact h.1
theorem mk_range (w : Nat → Nat) (sp : Nat → Bool) (n : Nat) (a b : Int) : mk w sp n a b = -1 ∨ ∃ p, p < n ∧ mk w sp n a b = (p : Int) ∧ sp p = false ∧ pr w n a b = (p : Int) := by
  unfold mk
  rcases fst0_range (prP w a b) n with h | ⟨p, h1, h2, h3⟩
  · left
    unfold pr
    rw [if_pos h]
  · by_cases q : sp p = true
    · left
      unfold pr
      rw [h2, if_neg (by omega), Int.toNat_natCast, if_pos q]
    · right
      refine ⟨p, h1, ?_, by simpa using q, h2⟩
      unfold pr
      rw [h2, if_neg (by omega), Int.toNat_natCast, if_neg q]
/-- what holds of what is composed of i signs -/
def CInv (n i : Nat) (s : CSt) : Prop := s.1.length = s.2.1.length ∧ s.1.length ≤ i ∧ -1 ≤ s.2.2.1 ∧ s.2.2.1 < (s.1.length : Int) ∧ s.2.2.2.1 ≤ i ∧ (∀ x ∈ s.1, x < n) ∧ (∀ c ∈ s.2.2.2.2, c ≤ 60)
theorem cstep_inv {w : Nat → Nat} {sp : Nat → Bool} {n i : Nat} {s : CSt} {x : Nat} (h : CInv n i s) (hx : x < n) (hc : Cl w x ≤ 60) : CInv n (i + 1) (cstep w sp n s x) := by
  obtain ⟨h1, h2, h3, h4, h5, h6, h7⟩ := h
  unfold cstep
  by_cases q : Kd w x = 1
  · rw [if_pos q]
    by_cases q2 : 0 ≤ s.2.2.1 ∧ ¬ Cl w x ∈ s.2.2.2.2 ∧ mk w sp n ((s.1.getD s.2.2.1.toNat 0 : Nat) : Int) (x : Int) ≠ -1
    · rw [if_pos q2]
      refine ⟨by simp only [cSet, List.length_set]; exact h1, by simp only [cSet, List.length_set]; omega, h3, by simp only [cSet, List.length_set]; exact h4, Nat.le_succ_of_le h5, fun y hy => ?_, h7⟩
      rcases List.mem_or_eq_of_mem_set hy with hy | hy
      · exact h6 y hy
      · rcases mk_range w sp n ((s.1.getD s.2.2.1.toNat 0 : Nat) : Int) (x : Int) with g | ⟨p, g1, g2, _⟩
        · exact absurd g q2.2.2
        · rw [hy, g2, Int.toNat_natCast]
          exact g1
    · rw [if_neg q2]
      refine ⟨by simp only [cStay, List.length_append, h1, List.length_singleton], by simp only [cStay, List.length_append, List.length_singleton]; omega, h3, by simp only [cStay, List.length_append, List.length_singleton]; omega, ?_, fun y hy => ?_, fun c hc2 => ?_⟩
      · show cClu s ≤ i + 1
        unfold cClu
        split <;> omega
      · rcases List.mem_append.mp hy with hy | hy
        · exact h6 y hy
        · rw [List.mem_singleton.mp hy]; exact hx
      · rcases List.mem_cons.mp hc2 with rfl | hc2
        · exact hc
        · exact h7 c hc2
  · rw [if_neg q]
    refine ⟨by simp only [cBase, List.length_append, h1, List.length_singleton], by simp only [cBase, List.length_append, List.length_singleton]; omega, by show -1 ≤ (s.1.length : Int); omega, by simp only [cBase, List.length_append, List.length_singleton]; omega, Nat.succ_le_succ h5, fun y hy => ?_, fun c hc2 => by cases hc2⟩
    rcases List.mem_append.mp hy with hy | hy
    · exact h6 y hy
    · rw [List.mem_singleton.mp hy]; exact hx
theorem cmp_inv {w : Nat → Nat} {sp : Nat → Bool} {n : Nat} {D : List Nat} (hD : ∀ y ∈ D, y < n ∧ Cl w y ≤ 60) : ∀ i, i ≤ D.length → CInv n i (cmp w sp n (D.take i)) := by
  intro i
  induction i with
  | zero =>
    intro _
    rw [List.take_zero]
    show CInv n 0 c0
    unfold CInv c0
    simp
  | succ i ih =>
    intro hi
    rw [cmp_take hi]
    have hm := hD _ (List.getElem_mem hi)
    exact cstep_inv (ih (by omega)) hm.1 hm.2
/-! the reference composes -/
def CmS (σ : MsSt) (s : CSt) : Prop := Aw σ 502 s.1 ∧ Aw σ 503 s.2.1 ∧ ms_i σ 493 15 = iZ (s.1.length : Int)
def FCmp : Nat → Nat → Prop := fun a k => a = 502 ∨ a = 503 ∨ (a = 493 ∧ k = 15)
theorem Aw.snoc {σ : MsSt} {a : Nat} {L : List Nat} (h : Aw σ a L) (x : Nat) : Aw (ms_si σ a L.length (iZ (x : Int))) a (L ++ [x]) := by
  intro k hk
  rw [List.length_append, List.length_singleton] at hk
  rw [ms_i_si]
  by_cases q : k = L.length
  · subst q
    rw [if_pos ⟨rfl, rfl⟩, List.getElem_append_right (Nat.le_refl _)]
    simp
  · rw [if_neg (by omega), h k (by omega), List.getElem_append_left]
theorem Aw.set {σ : MsSt} {a : Nat} {L : List Nat} (h : Aw σ a L) (i x : Nat) (hi : i < L.length) : Aw (ms_si σ a i (iZ (x : Int))) a (L.set i x) := by
  intro k hk
  rw [List.length_set] at hk
  rw [ms_i_si, List.getElem_set]
  by_cases q : i = k
  · rw [if_pos ⟨rfl, q.symm⟩, if_pos q]
  · rw [if_neg (by omega), if_neg q, h k hk]
theorem m_cmp198 {σ : MsSt} {s : CSt} {x c : Nat} {v2 : Int32} (h : CmS σ s) (hl : s.1.length < 361) (he : s.1.length = s.2.1.length) (h2 : v2 = iZ (c : Int)) :
    ∃ σ', (∀ k14 m i t0, f_X12_layComposed_198 k14 σ 493 v2 m i (iZ (x : Int)) t0 = k14 σ' 493 t0 v2 m (i + 1)) ∧ Aw σ' 502 (s.1 ++ [x]) ∧ Aw σ' 503 (s.2.1 ++ [c]) ∧ ms_i σ' 493 15 = iZ ((s.1.length + 1 : Nat) : Int) ∧ Fr FCmp σ σ' := by
  obtain ⟨h1, h3, h4⟩ := h
  have F1 : Fr FCmp σ (ms_si σ 502 s.1.length (iZ (x : Int))) := Fr.si _ _ (Or.inl rfl)
  have F2 : Fr FCmp (ms_si σ 502 s.1.length (iZ (x : Int))) (ms_si (ms_si σ 502 s.1.length (iZ (x : Int))) 503 s.2.1.length v2) := Fr.si _ _ (Or.inr (Or.inl rfl))
  refine ⟨ms_si (ms_si (ms_si σ 502 s.1.length (iZ (x : Int))) 503 s.2.1.length v2) 493 15 (iZ ((s.1.length : Int) + 1)), fun k14 m i t0 => ?_, ?_, ?_, by rw [i_si_same]; rfl, (F1.trans F2).trans (Fr.si _ _ (Or.inr (Or.inr ⟨rfl, rfl⟩)))⟩
  · unfold f_X12_layComposed_198
    rw [m_rf13, m_rf14, h4, ast_iZ (by rw [m_ln.2.2.2.2.2.2.2.2.1]; exact hl) (by rw [m_ln.2.2.2.2.2.2.2.2.1]; omega), Option.bind_some, i_si_ne (Or.inl (by omega)), h4, he, ast_iZ (by rw [m_ln.2.2.2.2.2.2.2.2.2.1]; omega) (by rw [m_ln.2.2.2.2.2.2.2.2.2.1]; omega), Option.bind_some, nm_s, i_si_ne (Or.inl (by omega)), i_si_ne (Or.inl (by omega)), h4, he, i1, iZ_add]
  · exact ((h1.snoc x).fr (Fr.si (P := fun a _ => a = 503) _ _ rfl) (by intros; omega)).fr (Fr.si (P := fun a _ => a = 493) _ _ rfl) (by intros; omega)
  · rw [h2]
    exact ((h3.fr (Fr.si (P := fun a _ => a = 502) σ (iZ (x : Int)) rfl) (by intros; omega)).snoc c).fr (Fr.si (P := fun a _ => a = 493) _ _ rfl) (by intros; omega)
def MskR (m : Int64) (s : CSt) : Prop := ∀ c, c ≤ 60 → (mb m c = true ↔ c ∈ s.2.2.2.2)
def spN (w : Nat → Nat) : Nat → Bool := fun p => sgF w p 5 != 0
/-- one sign in the reference -/
theorem m_cmp_step {w : Nat → Nat} {n i x : Nat} {σ : MsSt} {s : CSt} {m : Int64} {l1 l2 i' : Int32} (hs : SgsOK w n) (hn : w 0 = n) (hw : Mw σ 494 w) (hx : x < n) (hI : CInv n i s) (hi : i < 361) (hS : CmS σ s) (hm : MskR m s) (h1 : l1 = iZ s.2.2.1) (h2 : l2 = iZ ((s.2.2.2.1 : Int) - 1)) :
    ∃ σ' m' a' b', (∀ k14, f_X12_layComposed_46 k14 σ 493 l1 l2 m i' (iZ (x : Int)) (if Kd w x = 1 then 0 else 1) = k14 σ' 493 a' b' m' (i' + 1)) ∧ CmS σ' (cstep w (spN w) n s x) ∧ MskR m' (cstep w (spN w) n s x) ∧ a' = iZ (cstep w (spN w) n s x).2.2.1 ∧ b' = iZ (((cstep w (spN w) n s x).2.2.2.1 : Int) - 1) ∧ Fr FCmp σ σ' := by
  obtain ⟨g1, g2, g3, g4, g5, g6, g7⟩ := hI
  have h40 := hs.1
  subst h1; subst h2
  obtain ⟨kk1, kk2, kk3, kk4⟩ := (hs.2.1 x hx).1
  by_cases q : Kd w x = 1
  · rw [if_pos q]
    have hcl := kk3 q
    -- the mark stays
    have stay : ∃ σ' m' a' b', (∀ k14, f_X12_layComposed_142 k14 σ 493 (iZ s.2.2.1) (iZ ((s.2.2.2.1 : Int) - 1)) m i' (iZ (x : Int)) 0 = k14 σ' 493 a' b' m' (i' + 1)) ∧ CmS σ' (cStay w s x) ∧ MskR m' (cStay w s x) ∧ a' = iZ (cStay w s x).2.2.1 ∧ b' = iZ (((cStay w s x).2.2.2.1 : Int) - 1) ∧ Fr FCmp σ σ' := by
      have hcc : 1 ≤ cClu s := by unfold cClu; split <;> omega
      obtain ⟨σ', a1, a2, a3, a4, a5⟩ := m_cmp198 (σ := σ) (s := s) (x := x) (c := cClu s - 1) (v2 := iZ ((cClu s : Int) - 1)) hS (by omega) g1 (by congr 1; omega)
      refine ⟨σ', m ||| ((1 : Int64) <<< ((iZ (Cl w x : Int)).toInt64 &&& 63)), iZ s.2.2.1, iZ ((cClu s : Int) - 1), fun k14 => ?_, ⟨a2, a3, by rw [a4]; simp only [cStay, List.length_append, List.length_singleton]⟩, fun c hc => ?_, rfl, rfl, a5⟩
      · have h159 : f_X12_layComposed_159 k14 σ 493 (iZ s.2.2.1) m i' (iZ (x : Int)) 0 (iZ ((cClu s : Int) - 1)) = k14 σ' 493 (iZ s.2.2.1) (iZ ((cClu s : Int) - 1)) (m ||| ((1 : Int64) <<< ((iZ (Cl w x : Int)).toInt64 &&& 63))) (i' + 1) := by
          unfold f_X12_layComposed_159
          rw [if_pos rfl, of_1, Option.bind_some, m_rf0, mw_get hw (Or.inl rfl) (k := 247 + 7 * x + 1) (by omega) (by omega), Option.bind_some]
          unfold f_X12_layComposed_184
          rw [if_pos rfl]
          exact a1 _ _ _ _
        unfold f_X12_layComposed_142
        rw [if_pos rfl]
        by_cases z : s.2.2.2.1 = 0
        · have e : cClu s = 1 := by unfold cClu; rw [if_pos z]
          rw [e] at h159 ⊢
          rw [ieqT rfl im1 (by omega)]
          unfold f_X12_layComposed_152
          rw [show iZ ((s.2.2.2.1 : Int) - 1) + 1 = iZ (((1 : Nat) : Int) - 1) from by rw [i1, iZ_add]; congr 1; omega]
          exact h159
        · have e : cClu s = s.2.2.2.1 := by unfold cClu; rw [if_neg z]
          rw [e] at h159 ⊢
          rw [ieqF rfl im1 (by omega) (by omega) (by omega) (by omega) (by omega)]
          exact h159
      · rw [mb_or, mb_shl (by omega) c (by omega)]
        show _ ↔ c ∈ Cl w x :: s.2.2.2.2
        rw [List.mem_cons, ← hm c hc]
        simp only [Bool.or_eq_true, decide_eq_true_eq]
        exact or_comm
    -- no sign is made
    have start : ∀ k14, f_X12_layComposed_46 k14 σ 493 (iZ s.2.2.1) (iZ ((s.2.2.2.1 : Int) - 1)) m i' (iZ (x : Int)) 0 = if s.2.2.1 = -1 ∨ Cl w x ∈ s.2.2.2.2 then f_X12_layComposed_142 k14 σ 493 (iZ s.2.2.1) (iZ ((s.2.2.2.1 : Int) - 1)) m i' (iZ (x : Int)) 0 else f_X12_layComposed_83 k14 σ 493 (iZ s.2.2.1) (iZ ((s.2.2.2.1 : Int) - 1)) m i' (iZ (x : Int)) 0 1 := by
      intro k14
      have none1 : f_X12_layComposed_82 k14 σ 493 (iZ s.2.2.1) (iZ ((s.2.2.2.1 : Int) - 1)) m i' (iZ (x : Int)) 0 = f_X12_layComposed_142 k14 σ 493 (iZ s.2.2.1) (iZ ((s.2.2.2.1 : Int) - 1)) m i' (iZ (x : Int)) 0 := by
        unfold f_X12_layComposed_82 f_X12_layComposed_83
        rw [if_pos rfl]
        unfold f_X12_layComposed_109
        rw [if_pos rfl]
      unfold f_X12_layComposed_46
      rw [if_pos rfl, none1]
      by_cases z : s.2.2.1 = -1
      · rw [ieqT rfl im1 z, if_pos (Or.inl z)]
      · rw [ieqF rfl im1 z (by omega) (by omega) (by omega) (by omega), of_1, Option.bind_some, m_rf0, mw_get hw (Or.inl rfl) (k := 247 + 7 * x + 1) (by omega) (by omega), Option.bind_some]
        refine (cmp_bit m (c := Cl w x) (by omega)).trans ?_
        by_cases z2 : Cl w x ∈ s.2.2.2.2
        · rw [if_pos ((hm _ (by omega)).mpr z2), if_pos (Or.inr z2)]
        · rw [if_neg (fun g => z2 ((hm _ (by omega)).mp g)), if_neg (by rintro (g | g); exact z g; exact z2 g)]
    have es : cstep w (spN w) n s x = if 0 ≤ s.2.2.1 ∧ ¬ Cl w x ∈ s.2.2.2.2 ∧ mk w (spN w) n ((s.1.getD s.2.2.1.toNat 0 : Nat) : Int) (x : Int) ≠ -1 then cSet w (spN w) n s x else cStay w s x := by
      unfold cstep
      rw [if_pos q]
    by_cases z : s.2.2.1 = -1 ∨ Cl w x ∈ s.2.2.2.2
    · obtain ⟨σ', m', a', b', e1, e2⟩ := stay
      rw [es, if_neg (by rintro ⟨c1, c2, c3⟩; rcases z with z | z; omega; exact c2 z)]
      exact ⟨σ', m', a', b', fun k14 => by rw [start, if_pos z]; exact e1 k14, e2⟩
    · have z1 : 0 ≤ s.2.2.1 := by
        have : ¬ s.2.2.1 = -1 := fun g => z (Or.inl g)
        omega
      have z2 : ¬ Cl w x ∈ s.2.2.2.2 := fun g => z (Or.inr g)
      have hst : s.2.2.1.toNat < s.1.length := by omega
      have hget : ms_ald σ 502 (iZ s.2.2.1) = some (iZ ((s.1.getD s.2.2.1.toNat 0 : Nat) : Int)) := by
        rw [ald_z (k := s.2.2.1.toNat) (by omega) (by rw [m_ln.2.2.2.2.2.2.2.2.1]; omega) (by rw [m_ln.2.2.2.2.2.2.2.2.1]; omega), hS.1 _ hst, getD_get hst]
      have hin : s.1.getD s.2.2.1.toNat 0 < n := by
        rw [getD_get hst]
        exact g6 _ (List.getElem_mem hst)
      have h83 : ∀ k14, f_X12_layComposed_46 k14 σ 493 (iZ s.2.2.1) (iZ ((s.2.2.2.1 : Int) - 1)) m i' (iZ (x : Int)) 0 = f_X12_layComposed_109 k14 σ 493 (iZ s.2.2.1) (iZ ((s.2.2.2.1 : Int) - 1)) m i' (iZ (x : Int)) 0 (iZ (pr w n ((s.1.getD s.2.2.1.toNat 0 : Nat) : Int) (x : Int))) := by
        intro k14
        rw [start, if_neg z]
        unfold f_X12_layComposed_83
        rw [if_neg (by decide), m_rf13, hget, Option.bind_some, m_rf0, m_findPair (Or.inl rfl) hs hw hn (by omega) (by omega) (by omega) (by omega), Option.bind_some]
      rcases fst0_range (prP w ((s.1.getD s.2.2.1.toNat 0 : Nat) : Int) (x : Int)) n with hp | ⟨p, p1, p2, p3⟩
      · have hmk : mk w (spN w) n ((s.1.getD s.2.2.1.toNat 0 : Nat) : Int) (x : Int) = -1 := by
          unfold mk pr
          rw [if_pos hp]
        obtain ⟨σ', m', a', b', e1, e2⟩ := stay
        rw [es, if_neg (by rintro ⟨c1, c2, c3⟩; exact c3 hmk)]
        refine ⟨σ', m', a', b', fun k14 => ?_, e2⟩
        rw [h83]
        unfold f_X12_layComposed_109
        have hp' : pr w n ((s.1.getD s.2.2.1.toNat 0 : Nat) : Int) (x : Int) = -1 := hp
        rw [ieqT rfl im1 hp']
        exact e1 k14
      · have hpr : pr w n ((s.1.getD s.2.2.1.toNat 0 : Nat) : Int) (x : Int) = (p : Int) := p2
        have hk2 : Kd w p = 2 := prP_kd p3
        have h5 := ((hs.2.1 p p1).1.2.2.2 hk2).2.2.2.2.2
        have h109 : ∀ k14, f_X12_layComposed_46 k14 σ 493 (iZ s.2.2.1) (iZ ((s.2.2.2.1 : Int) - 1)) m i' (iZ (x : Int)) 0 = if iZ (sgF w p 5 : Int) = 0 then (ms_ast σ (ms_rf 493 13) (iZ s.2.2.1) (iZ (p : Int))).bind fun s11 => k14 s11 493 (iZ s.2.2.1) (iZ ((s.2.2.2.1 : Int) - 1)) m (i' + 1) else f_X12_layComposed_142 k14 σ 493 (iZ s.2.2.1) (iZ ((s.2.2.2.1 : Int) - 1)) m i' (iZ (x : Int)) 0 := by
          intro k14
          rw [h83, hpr]
          unfold f_X12_layComposed_109
          rw [ieqF rfl im1 (by omega) (by omega) (by omega) (by omega) (by omega), of_5, Option.bind_some, m_rf0, mw_get hw (Or.inl rfl) (k := 247 + 7 * p + 5) (by omega) (by omega), Option.bind_some]
          rfl
        by_cases z5 : sgF w p 5 = 0
        · have hmk : mk w (spN w) n ((s.1.getD s.2.2.1.toNat 0 : Nat) : Int) (x : Int) = (p : Int) := by
            unfold mk
            rw [hpr, if_neg (by omega), Int.toNat_natCast, if_neg (by simp [spN, z5])]
          rw [es, if_pos ⟨z1, z2, by rw [hmk]; omega⟩]
          have hset : cSet w (spN w) n s x = (s.1.set s.2.2.1.toNat p, s.2) := by
            unfold cSet
            rw [hmk, Int.toNat_natCast]
          rw [hset]
          refine ⟨ms_si σ 502 s.2.2.1.toNat (iZ (p : Int)), m, iZ s.2.2.1, iZ ((s.2.2.2.1 : Int) - 1), fun k14 => ?_, ⟨hS.1.set _ _ hst, hS.2.1.fr (Fr.si (P := fun a _ => a = 502) _ _ rfl) (by intros; omega), ?_⟩, hm, rfl, rfl, Fr.si _ _ (Or.inl rfl)⟩
          · rw [h109, ieqT rfl i0 (by omega), m_rf13, ast_z (k := s.2.2.1.toNat) (by omega) (by rw [m_ln.2.2.2.2.2.2.2.2.1]; omega) (by rw [m_ln.2.2.2.2.2.2.2.2.1]; omega), Option.bind_some]
          · rw [i_si_ne (Or.inl (by omega)), hS.2.2, List.length_set]
        · have hmk : mk w (spN w) n ((s.1.getD s.2.2.1.toNat 0 : Nat) : Int) (x : Int) = -1 := by
            unfold mk
            rw [hpr, if_neg (by omega), Int.toNat_natCast, if_pos (by simp [spN, z5])]
          obtain ⟨σ', m', a', b', e1, e2⟩ := stay
          rw [es, if_neg (by rintro ⟨c1, c2, c3⟩; exact c3 hmk)]
          exact ⟨σ', m', a', b', fun k14 => by rw [h109, ieqF rfl i0 (by omega) (by omega) (by omega) (by omega) (by omega)]; exact e1 k14, e2⟩
  · rw [if_neg q]
    have es : cstep w (spN w) n s x = cBase s x := by
      unfold cstep
      rw [if_neg q]
    rw [es]
    obtain ⟨σ', a1, a2, a3, a4, a5⟩ := m_cmp198 (σ := σ) (s := s) (x := x) (c := s.2.2.2.1) (v2 := iZ (s.2.2.2.1 : Int)) hS (by omega) g1 rfl
    refine ⟨σ', 0, iZ (s.1.length : Int), iZ (s.2.2.2.1 : Int), fun k14 => ?_, ⟨a2, a3, by rw [a4]; simp only [cBase, List.length_append, List.length_singleton]⟩, fun c hc => ?_, rfl, ?_, a5⟩
    · unfold f_X12_layComposed_46
      rw [if_neg (by decide)]
      unfold f_X12_layComposed_82 f_X12_layComposed_83
      rw [if_pos rfl]
      unfold f_X12_layComposed_109
      rw [if_pos rfl]
      unfold f_X12_layComposed_142
      rw [if_neg (by decide)]
      unfold f_X12_layComposed_152
      rw [show iZ ((s.2.2.2.1 : Int) - 1) + 1 = iZ (s.2.2.2.1 : Int) from by rw [i1, iZ_add]; congr 1; omega]
      unfold f_X12_layComposed_159
      rw [if_neg (by decide)]
      unfold f_X12_layComposed_184
      rw [if_neg (by decide), hS.2.2]
      exact a1 _ _ _ _
    · rw [mb_zero]
      show _ ↔ c ∈ []
      simp
    · show iZ (s.2.2.2.1 : Int) = iZ (((s.2.2.2.1 + 1 : Nat) : Int) - 1)
      congr 1
      omega
theorem m_layComposed {w : Nat → Nat} {n : Nat} {c : Int} {σ : MsSt} {D : List Nat} (hs : SgsOK w n) (hn : w 0 = n) (hw : Mw σ 494 w) (hL : LayS σ D c) (hD : ∀ y ∈ D, y < n ∧ Cl w y ≤ 60) (hl : D.length ≤ 360) :
    ∃ σ', f_X12_layComposed σ 493 = some σ' ∧ CmS σ' (cmp w (spN w) n D) ∧ Fr FCmp σ σ' := by
  have h40 := hs.1
  have F0 : Fr FCmp σ (ms_si σ 493 15 0) := Fr.si _ _ (Or.inr (Or.inr ⟨rfl, rfl⟩))
  have key := lp0 (S := MsSt × Int32 × Int32 × Int64 × Int32) (f := fun n' s => f_X12_layComposed_14 n' s.1 493 s.2.1 s.2.2.1 s.2.2.2.1 s.2.2.2.2) (Q := fun σ' => CmS σ' (cmp w (spN w) n D) ∧ Fr FCmp σ σ')
    (fun i s => s.2.2.2.2 = iZ (i : Int) ∧ i ≤ D.length ∧ CmS s.1 (cmp w (spN w) n (D.take i)) ∧ MskR s.2.2.2.1 (cmp w (spN w) n (D.take i)) ∧ s.2.1 = iZ (cmp w (spN w) n (D.take i)).2.2.1 ∧ s.2.2.1 = iZ (((cmp w (spN w) n (D.take i)).2.2.2.1 : Int) - 1) ∧ Fr FCmp σ s.1) D.length (s := (ms_si σ 493 15 0, -1, -1, 0, 0))
    ⟨rfl, Nat.zero_le _, ⟨Aw.nil _ _, Aw.nil _ _, by rw [i_si_same]; rfl⟩, fun c hc => by rw [mb_zero]; show _ ↔ c ∈ []; simp, rfl, rfl, F0⟩ (by omega) ?_ ?_
  · obtain ⟨r, h1, h2⟩ := key
    refine ⟨r, ?_, h2⟩
    unfold f_X12_layComposed
    rw [nm_s]
    exact h1
  · rintro i ⟨s1, l1, l2, m, l5⟩ ⟨hx, hi, hC, hM, h1, h2, hFi⟩ hlt
    dsimp only at hx hC hM h1 h2 hFi ⊢
    subst hx
    left
    have hwi : Mw s1 494 w := hw.fr hFi (by unfold FCmp; intros; omega)
    have hLi : LayS s1 D c := hL.fr hFi (by unfold FCmp; intros; omega) (by unfold FCmp; intros; omega) (by unfold FCmp; intros; omega)
    have hm := hD _ (List.getElem_mem hlt)
    have hkb := (hs.2.1 _ hm.1).1.1
    have hI := cmp_inv (sp := spN w) hD i hi
    obtain ⟨σ', m', a', b', e1, e2, e3, e4, e5, e6⟩ := m_cmp_step (i' := iZ (i : Int)) hs hn hwi hm.1 hI (by omega) hC hM h1 h2
    have hhead : ∀ n', f_X12_layComposed_14 (n' + 1) s1 493 l1 l2 m (iZ (i : Int)) = f_X12_layComposed_46 (f_X12_layComposed_14 n') s1 493 l1 l2 m (iZ (i : Int)) (iZ ((D[i] : Nat) : Int)) (if Kd w D[i] = 1 then 0 else 1) := by
      intro n'
      show (if iZ (i : Int) < ms_i s1 493 11 then _ else _) = _
      rw [iltT rfl hLi.2.1 (by omega) (by omega) (by omega), m_rf10, ald_iZ (by rw [m_ln.2.2.2.2.2.2.2.1]; omega) (by rw [m_ln.2.2.2.2.2.2.2.1]; omega), hLi.1 i hlt, Option.bind_some, isMark_s hwi (by omega) (by omega), Option.bind_some]
      by_cases q : Kd w D[i] = 1
      · rw [ibT q, if_pos q]
      · rw [ibF q, if_neg q]
    refine ⟨(σ', a', b', m', iZ ((i : Int) + 1)), ⟨by push_cast; rfl, hlt, ?_, ?_, ?_, ?_, hFi.trans e6⟩, fun n' => ?_⟩
    · rw [cmp_take hlt]; exact e2
    · rw [cmp_take hlt]; exact e3
    · rw [cmp_take hlt]; exact e4
    · rw [cmp_take hlt]; exact e5
    · rw [hhead, e1, i1, iZ_add]
  · rintro ⟨s1, l1, l2, m, l5⟩ ⟨hx, hi, hC, hM, h1, h2, hFi⟩
    dsimp only at hx hC hM h1 h2 hFi ⊢
    subst hx
    rw [List.take_length] at hC
    have hLi : LayS s1 D c := hL.fr hFi (by unfold FCmp; intros; omega) (by unfold FCmp; intros; omega) (by unfold FCmp; intros; omega)
    refine ⟨s1, ⟨hC, hFi⟩, fun n' => ?_⟩
    show (if iZ (D.length : Int) < ms_i s1 493 11 then _ else _) = _
    rw [iltF rfl hLi.2.1 (by omega) (by omega) (by omega)]
