/-! a sign comes into a row; type -/
section In2
variable {σ : MsSt} {w : Nat → Nat}
theorem insL_cg {u v : Nat → Nat} (hK : Kd u = Kd v) (hC : Cl u = Cl v) (x : Nat) : ∀ A B, insL u x A B = insL v x A B := by
  intro A
  induction A with
  | nil => intro B; rfl
  | cons y A ih =>
    intro B
    by_cases q : Kd v x = 1 ∧ Kd v y = 1 ∧ Cl v x < Cl v y
    · rw [insL_t q, insL_t (by rw [hK, hC]; exact q), ih]
    · rw [insL_f q, insL_f (by rw [hK, hC]; exact q)]
theorem dF_cg {u v : Nat → Nat} (hK : Kd u = Kd v) (hC : Cl u = Cl v) (hE : ex u = ex v) (L : List Nat) : dF u L = dF v L := by
  have h : ins u = ins v := funext fun D => funext fun x => insL_cg hK hC x _ _
  unfold dF pn od
  rw [hE, h]
theorem LU.dF' {u : Nat → Nat} {l : Nat} {L : List Nat} (h : LU w l L u) (hl : l < 4) (M : List Nat) : dF u M = dF w M := dF_cg (h.Kd hl) (h.Cl hl) (h.ex hl) M
def insA (L : List Nat) (k x : Nat) : List Nat := L.take k ++ x :: L.drop k
theorem insA_length {L : List Nat} {k x : Nat} (h : k ≤ L.length) : (insA L k x).length = L.length + 1 := by
  unfold insA
  rw [List.length_append, List.length_cons, List.length_take, List.length_drop]
  omega
theorem insA_mem {L : List Nat} {k x y : Nat} (h : y ∈ insA L k x) : y = x ∨ y ∈ L := by
  unfold insA at h
  rcases List.mem_append.mp h with g | g
  · exact Or.inr (List.mem_of_mem_take g)
  · rcases List.mem_cons.mp g with g | g
    · exact Or.inl g
    · exact Or.inr (List.mem_of_mem_drop g)
theorem insA_get {L : List Nat} {k x p : Nat} (hk : k ≤ L.length) (hp : p < (insA L k x).length) : (insA L k x)[p] = if p < k then L.getD p 0 else if p = k then x else L.getD (p - 1) 0 := by
  rw [← getD_get hp, List.getD_eq_getElem?_getD]
  have hl : (L.take k).length = k := by rw [List.length_take]; omega
  unfold insA
  by_cases q : p < k
  · rw [if_pos q, List.getElem?_append_left (by omega), List.getElem?_take_of_lt q, ← List.getD_eq_getElem?_getD]
  · rw [if_neg q, List.getElem?_append_right (by omega), hl]
    by_cases e : p = k
    · rw [if_pos e, e, Nat.sub_self]
      rfl
    · rw [if_neg e, show p - k = (p - 1 - k) + 1 from by omega, List.getElem?_cons_succ, List.getElem?_drop, ← List.getD_eq_getElem?_getD]
      congr 1
      omega
theorem getD_set_ne {M : List Nat} {i v p : Nat} (h : p ≠ i) : (M.set i v).getD p 0 = M.getD p 0 := by
  rw [List.getD_eq_getElem?_getD, List.getD_eq_getElem?_getD, List.getElem?_set_ne (Ne.symm h)]
theorem getD_set_eq {M : List Nat} {i v : Nat} (h : i < M.length) : (M.set i v).getD i 0 = v := by
  rw [getD_get (by rw [List.length_set]; exact h), List.getElem_set_self]
theorem c_insert {r N k x : Nat} {L : List Nat} (h : Rw cN σ r N L) (hk : k ≤ L.length) (hN : L.length < N) : ∃ σ', f_X5_insert σ r (iZ (k : Int)) (iZ (x : Int)) = some σ' ∧ Rw cN σ' r N (insA L k x) ∧ Fr (In r (r + 2)) σ σ' := by
  have hlen := h.len
  obtain ⟨s1, a1, a2, a3⟩ := add_s h hN x
  have a1' : f_X5_add σ r (iZ (x : Int)) = some s1 := a1
  have ecnt : ms_i s1 r 1 - 1 = iZ (L.length : Int) := by
    rw [a2.cnt, List.length_append, List.length_singleton, i1, iZ_sub]
    congr 1
    omega
  have key := lp0 (S := MsSt × Int32) (f := fun n t => f_X5_insert_12 n t.1 r (iZ (k : Int)) (iZ (x : Int)) t.2) (Q := fun σ' => Rw cN σ' r N (insA L k x) ∧ Fr (In r (r + 2)) σ σ')
    (fun q t => t.2 = iZ ((L.length - q : Nat) : Int) ∧ q ≤ L.length - k ∧ Fr (In r (r + 2)) σ t.1 ∧ ∃ M : List Nat, Rw cN t.1 r N M ∧ M.length = L.length + 1 ∧ (∀ p, p < L.length - q → M.getD p 0 = L.getD p 0) ∧ ∀ p, L.length - q < p → p ≤ L.length → M.getD p 0 = L.getD (p - 1) 0) (L.length - k) (s := (s1, iZ (L.length : Int))) ⟨rfl, Nat.zero_le _, a3, L ++ [x], a2, by rw [List.length_append]; rfl, fun p hp => by
      have hp' : p < L.length := hp
      rw [getD_get (by rw [List.length_append]; omega), getD_get hp', List.getElem_append_left hp'], fun p hp hp2 => absurd hp (by omega)⟩ (by omega) ?_ ?_
  · obtain ⟨σ', g1, g2⟩ := key
    refine ⟨σ', ?_, g2⟩
    unfold f_X5_insert
    rw [a1', Option.bind_some, ecnt, g1]
  · rintro q ⟨t, y⟩ ⟨hx, hq, hF, M, hM, hMl, hA, hB⟩ hlt
    dsimp only at hx hF hM ⊢
    subst hx
    left
    have e1 : iZ ((L.length - q : Nat) : Int) - 1 = iZ ((L.length - q - 1 : Nat) : Int) := by rw [i1, iZ_sub]; congr 1; omega
    have e2 : iZ ((L.length - q : Nat) : Int) + (-1) = iZ ((L.length - (q + 1) : Nat) : Int) := by rw [im1, iZ_add]; congr 1; omega
    have hv : f_X5_get t r (iZ ((L.length - q - 1 : Nat) : Int)) = some (iZ (M.getD (L.length - q - 1) 0 : Int)) := by
      rw [get_in hM (by omega), getD_get (by omega)]
      rfl
    obtain ⟨s2, b1, b2, b3⟩ := put_s hM (k := L.length - q) (by omega) (M.getD (L.length - q - 1) 0)
    have b1' : f_X5_put t r (iZ ((L.length - q : Nat) : Int)) (iZ (M.getD (L.length - q - 1) 0 : Int)) = some s2 := b1
    refine ⟨(s2, iZ ((L.length - (q + 1) : Nat) : Int)), ⟨rfl, by omega, hF.trans b3, _, b2, by rw [List.length_set]; exact hMl, fun p hp => ?_, fun p hp hp2 => ?_⟩, fun n' => ?_⟩
    · rw [getD_set_ne (by omega)]
      exact hA p (by omega)
    · by_cases g : p = L.length - q
      · rw [g, getD_set_eq (by omega)]
        exact hA _ (by omega)
      · rw [getD_set_ne g]
        exact hB p (by omega) hp2
    · show (if iZ (k : Int) < iZ ((L.length - q : Nat) : Int) then _ else _) = _
      rw [iltT rfl rfl (by omega) (by omega) (by omega), e1, hv, Option.bind_some, b1', Option.bind_some, e2]
  · rintro ⟨t, y⟩ ⟨hx, hq, hF, M, hM, hMl, hA, hB⟩
    dsimp only at hx hF hM ⊢
    have e : L.length - (L.length - k) = k := by omega
    rw [e] at hx hA hB
    subst hx
    obtain ⟨s2, b1, b2, b3⟩ := put_s hM (k := k) (by omega) x
    have b1' : f_X5_put t r (iZ (k : Int)) (iZ (x : Int)) = some s2 := b1
    refine ⟨s2, ⟨?_, hF.trans b3⟩, fun n' => ?_⟩
    · have hh : M.set k x = insA L k x := by
        refine List.ext_getElem (by rw [List.length_set, insA_length hk, hMl]) fun p h1 h2 => ?_
        rw [insA_get hk h2, ← getD_get h1]
        by_cases g : p = k
        · rw [g, getD_set_eq (by omega), if_neg (by omega), if_pos rfl]
        · rw [getD_set_ne g]
          rw [List.length_set, hMl] at h1
          by_cases g2 : p < k
          · rw [if_pos g2, hA p g2]
          · rw [if_neg g2, if_neg g, hB p (by omega) (by omega)]
      rw [← hh]
      exact b2
    · show (if iZ (k : Int) < iZ (k : Int) then _ else _) = _
      rw [iltF rfl rfl (by omega) (by omega) (by omega), b1', Option.bind_some]
theorem m_typeL {l i s : Nat} (hW : WF w) (hl : l < w 1) (hi : i ≤ w (3 + l)) (h60 : w (3 + l) < 60) (hs : s < w 0) (h : Mw σ 494 w) : ∃ σ' v, f_X12_type_86 ms_fuel σ 493 (iZ (l : Int)) (iZ (i : Int)) (iZ (s : Int)) (iZ (w (3 + l) : Int)) = some (iZ ((dF v (ln v l)).length : Int), σ') ∧ Mw σ' 494 v ∧ LU w l (insA (ln w l) i s) v ∧ Fr (fun a k => a = 494 ∨ FLay a k) σ σ' := by
  have l4 : ms_ln 494 = 527 := m_ln.1
  have hl4 : l < 4 := by have := hW.2.2.1; omega
  have h40 := hW.1.1
  have eA := ln_length w l
  have hal := insA_length (L := ln w l) (k := i) (x := s) (by omega)
  have hAm : ∀ x ∈ insA (ln w l) i s, x < w 0 := fun x hx => (insA_mem hx).elim (fun g => by rw [g]; exact hs) (fun g => (hW.line hl4).1 x g)
  have key := lp0 (S := MsSt × Int32) (f := fun n t => f_X12_type_86 n t.1 493 (iZ (l : Int)) (iZ (i : Int)) (iZ (s : Int)) t.2) (Q := fun r => ∃ v, r.1 = iZ ((dF v (ln v l)).length : Int) ∧ Mw r.2 494 v ∧ LU w l (insA (ln w l) i s) v ∧ Fr (fun a k => a = 494 ∨ FLay a k) σ r.2)
    (fun q t => t.2 = iZ ((w (3 + l) - q : Nat) : Int) ∧ q ≤ w (3 + l) - i ∧ (∃ v, Mw t.1 494 v ∧ (∀ k, (k < 7 + 60 * l + (w (3 + l) - q) ∨ 7 + 60 * l + w (3 + l) < k) → v k = w k) ∧ ∀ p, w (3 + l) - q < p → p ≤ w (3 + l) → v (7 + 60 * l + p) = w (7 + 60 * l + (p - 1))) ∧ Fr (fun a _ => a = 494) σ t.1) (w (3 + l) - i) (s := (σ, iZ (w (3 + l) : Int))) ⟨rfl, Nat.zero_le _, ⟨w, h, fun _ _ => rfl, fun p hp hp2 => absurd hp (by omega)⟩, Fr.refl _ _⟩ (by omega) ?_ ?_
  · obtain ⟨⟨r1, r2⟩, g1, v, g2, g3, g4, g5⟩ := key
    dsimp only at g2 g3 g5
    subst g2
    exact ⟨r2, v, g1, g3, g4, g5⟩
  · rintro q ⟨t, y⟩ ⟨hx, hq, ⟨v, hv1, hv2, hv3⟩, hF⟩ hlt
    dsimp only at hx hv1 hF ⊢
    subst hx
    left
    have e1 : iZ ((w (3 + l) - q : Nat) : Int) - 1 = iZ ((w (3 + l) - q - 1 : Nat) : Int) := by rw [i1, iZ_sub]; congr 1; omega
    have e2 : iZ ((w (3 + l) - q : Nat) : Int) + (-1) = iZ ((w (3 + l) - (q + 1) : Nat) : Int) := by rw [im1, iZ_add]; congr 1; omega
    have hr : ms_ald t 494 (iZ (7 + 60 * (l : Int) + ((w (3 + l) - q - 1 : Nat) : Int))) = some (iZ (w (7 + 60 * l + (w (3 + l) - q - 1)) : Int)) := by
      rw [mw_get hv1 (Or.inl rfl) (k := 7 + 60 * l + (w (3 + l) - q - 1)) (by omega) (by omega), hv2 _ (by omega)]
    refine ⟨(ms_si t 494 (7 + 60 * l + (w (3 + l) - q)) (iZ (w (7 + 60 * l + (w (3 + l) - q - 1)) : Int)), iZ ((w (3 + l) - (q + 1) : Nat) : Int)), ⟨rfl, by omega, ⟨uw v (7 + 60 * l + (w (3 + l) - q)) (w (7 + 60 * l + (w (3 + l) - q - 1))), mw_up hv1 rfl, fun k hk => by rw [uw_ne (by omega)]; exact hv2 k (by omega), fun p hp hp2 => ?_⟩, hF.trans (Fr.si _ _ rfl)⟩, fun n' => ?_⟩
    · by_cases g : p = w (3 + l) - q
      · rw [g, uw_eq]
      · rw [uw_ne (by omega)]
        exact hv3 p (by omega) hp2
    · show (if iZ (i : Int) < iZ ((w (3 + l) - q : Nat) : Int) then _ else _) = _
      rw [iltT rfl rfl (by omega) (by omega) (by omega), spot_s, Option.bind_some, e1, spot_s, Option.bind_some, m_rf0, hr, Option.bind_some, ast_z (k := 7 + 60 * l + (w (3 + l) - q)) (by omega) (by omega) (by omega), Option.bind_some, e2]
  · rintro ⟨t, y⟩ ⟨hx, hq, ⟨v, hv1, hv2, hv3⟩, hF⟩
    dsimp only at hx hv1 hF ⊢
    have e : w (3 + l) - (w (3 + l) - i) = i := by omega
    rw [e] at hx hv2 hv3
    subst hx
    have hA1 : Mw (ms_si t 494 (7 + 60 * l + i) (iZ (s : Int))) 494 (uw v (7 + 60 * l + i) s) := mw_up hv1 rfl
    have hA2 : Mw (ms_si (ms_si t 494 (7 + 60 * l + i) (iZ (s : Int))) 494 (3 + l) (iZ ((w (3 + l) + 1 : Nat) : Int))) 494 (uw (uw v (7 + 60 * l + i) s) (3 + l) (w (3 + l) + 1)) := mw_up hA1 rfl
    have hLU : LU w l (insA (ln w l) i s) (uw (uw v (7 + 60 * l + i) s) (3 + l) (w (3 + l) + 1)) := by
      refine ⟨fun k hk hk2 => by rw [uw_ne hk, uw_ne (by omega)]; exact hv2 k (by omega), by rw [uw_eq, hal, eA], fun p hp => ?_⟩
      have hp' := hp
      rw [hal, eA] at hp'
      rw [insA_get (by omega) hp, uw_ne (by omega)]
      by_cases g : p < i
      · rw [if_pos g, uw_ne (by omega), ln_getD (by omega)]
        exact hv2 _ (by omega)
      · rw [if_neg g]
        by_cases g2 : p = i
        · rw [if_pos g2, g2, uw_eq]
        · rw [if_neg g2, uw_ne (by omega), ln_getD (by omega)]
          exact hv3 p (by omega) (by omega)
    have hWv := hLU.wf hW hl (by omega) hAm
    obtain ⟨s3, b1, b2, b3⟩ := m_layDecomposed hWv hl4 hA2
    have e3 : (3 : Int32) + iZ (l : Int) = iZ (3 + (l : Int)) := by rw [i3, iZ_add]
    have hg : ms_ald (ms_si t 494 (7 + 60 * l + i) (iZ (s : Int))) 494 (iZ (3 + (l : Int))) = some (iZ (w (3 + l) : Int)) := by
      rw [mw_get hA1 (Or.inl rfl) (k := 3 + l) (by omega) (by omega), uw_ne (by omega), hv2 _ (by omega)]
    have e4 : iZ (w (3 + l) : Int) + 1 = iZ ((w (3 + l) + 1 : Nat) : Int) := by rw [i1, iZ_add]; rfl
    refine ⟨(iZ ((dF (uw (uw v (7 + 60 * l + i) s) (3 + l) (w (3 + l) + 1)) (ln (uw (uw v (7 + 60 * l + i) s) (3 + l) (w (3 + l) + 1)) l)).length : Int), s3), ⟨_, rfl, hA2.fr b3 (by unfold FLay; intros; omega), hLU, ((hF.trans (Fr.si _ _ rfl)).trans (Fr.si _ _ rfl) |>.mono fun a k q => Or.inl q).trans (b3.mono fun a k q => Or.inr q)⟩, fun n' => ?_⟩
    show (if iZ (i : Int) < iZ (i : Int) then _ else _) = _
    rw [iltF rfl rfl (by omega) (by omega) (by omega), spot_s, Option.bind_some, m_rf0, ast_z (k := 7 + 60 * l + i) (by omega) (by omega) (by omega), Option.bind_some, e3, hg, Option.bind_some, e4, ast_z (k := 3 + l) (by omega) (by omega) (by omega), Option.bind_some, b1, Option.bind_some, b2.2.1]
theorem al0 {σ : MsSt} {k c : Int} (k1 : -2147483648 ≤ k) (k2 : k < 2147483648) (c1 : -2147483648 ≤ c) (c2 : c < 2147483648) : f_X10_allowIn σ (iZ k) 0 (iZ c) = some (if 0 ≤ k ∧ k ≤ c then none else some 1) := allowIn_s (b := 0) k1 k2 (by omega) (by omega) c1 c2
theorem ty_bad (x y v : Int32) (t : Int32) (ht : t ≠ 0) : f_X12_type_44 σ 493 x y v t 493 = some (0, ms_si σ 493 7 t) := by
  unfold f_X12_type_44
  rw [nm_s, i_si_same, if_neg ht]
theorem c_deriveN {l F : Nat} (hW : WF w) (hN : NowRep σ 3 w) (hF : FmAt F) (hl : l < 4) : ∃ σ', f_X1_derive σ F (3 + 123 + 2 * l) (-1) = some σ' ∧ DvR σ' F w (spN w) (w 0) (ln w l) ∧ Fr (In F (F + 13)) σ σ' := by
  obtain ⟨hm, h60⟩ := hW.line hl
  have hlo := fm_lo hF
  obtain ⟨σ', a1, a2, a3⟩ := c_derive (sp := spN w) (fr := -1) hW.1 hN.1 hF (hN.2.2.2 l hl) hm h60 (by omega) (fun p _ _ => spN_hsp w p) (by omega) (by omega)
  exact ⟨σ', a1, a2, a3⟩
theorem q_type {p n b : Nat} {H : Nat → Nat → Nat} {S : Nat → Nat} (h : InvM σ w p n H b S) (x y v : Int32) : MO σ w b S (f_X10_type σ 0 x y v) (fun s => f_X12_type s 493 x y v) := by
  obtain ⟨z, z1, z2, rfl⟩ := iZ_of x
  obtain ⟨k, k1, k2, rfl⟩ := iZ_of y
  obtain ⟨m, m1, m2, rfl⟩ := iZ_of v
  have hInv := h
  obtain ⟨hI, hC, hR, hK, hS⟩ := h
  have h40 := hI.1.1.1
  have h4 := hI.1.2.2.1
  by_cases q : 0 ≤ z ∧ z ≤ (w 1 : Int) - 1
  · obtain ⟨l, rfl⟩ : ∃ l : Nat, z = (l : Int) := ⟨z.toNat, by omega⟩
    have hl : l < 4 := by omega
    have h60 := hI.1.2.2.2.2.1 l hl
    have eA := ln_length w l
    have e3 : ms_i σ (3 + 123 + 2 * l) 1 = iZ (w (3 + l) : Int) := by rw [(hI.2.1.2.2.2 l hl).cnt, eA]
    have f3 : (3 : Int32) + iZ (l : Int) = iZ (3 + (l : Int)) := by rw [i3, iZ_add]
    have hga : ∀ σ' : MsSt, Mw σ' 494 w → ms_ald σ' 494 (iZ (3 + (l : Int))) = some (iZ (w (3 + l) : Int)) := fun σ' hw => mw_get hw (Or.inl rfl) (k := 3 + l) (by omega) (by omega)
    by_cases g1 : 0 ≤ m ∧ m ≤ (w 0 : Int) - 1
    · obtain ⟨s, rfl⟩ : ∃ s : Nat, m = (s : Int) := ⟨m.toNat, by omega⟩
      by_cases g2 : 0 ≤ k ∧ k ≤ (w (3 + l) : Int)
      · obtain ⟨i, rfl⟩ : ∃ i : Nat, k = (i : Int) := ⟨k.toNat, by omega⟩
        by_cases g3 : w (3 + l) < 60
        · obtain ⟨s1, p', a1, a2, a3⟩ := c_record hI.1 hI.2.1 hC
          have hN1 := hI.2.1.away a3 h40 (by omega)
          obtain ⟨t1, d1, d2, d3⟩ := c_insert (x := s) (hN1.2.2.2 l hl) (k := i) (by omega) (by omega)
          have hal := insA_length (L := ln w l) (k := i) (x := s) (by omega)
          have hAm : ∀ x ∈ insA (ln w l) i s, x < w 0 := fun x hx => (insA_mem hx).elim (fun g => by rw [g]; omega) (fun g => (hI.1.line hl).1 x g)
          have G0 : Fr (fun a _ => (3 ≤ a ∧ a < 139) ∨ (285 ≤ a ∧ a < 427)) σ t1 := (a3.mono fun a k q => Or.inr ⟨q.1, q.2⟩).trans (d3.mono fun a k q => by have q1 := q.1; have q2 := q.2; omega)
          -- the reference's row, told ahead: the same new script
          have hM0 := hI.2.2.fr G0 (by intros; omega)
          have hM7' : Mw (ms_si t1 493 7 0) 494 w := hM0.fr (Fr.si (P := fun a _ => a = 493) _ _ rfl) (by intros; omega)
          obtain ⟨_, u0, _, _, hLU0, _⟩ := m_typeL (i := i) (s := s) hI.1 (by omega) (by omega) g3 (by omega) hM7'
          have hN0 := hLU0.now hl hI.1 hN1 d3 d2
          have hW0 := hLU0.wf hI.1 (by omega) (by omega) hAm
          obtain ⟨σ1, c1, ⟨-, c2, -, -⟩, c3⟩ := c_deriveN hW0 hN0 (F := 441) (Or.inl rfl) hl
          have G1 : Fr (fun a _ => (3 ≤ a ∧ a < 139) ∨ (285 ≤ a ∧ a < 427) ∨ (441 ≤ a ∧ a < 454)) σ σ1 := (G0.mono fun a k q => by omega).trans (c3.mono fun a k q => by have q1 := q.1; have q2 := q.2; omega)
          have hM1 := hI.2.2.fr G1 (by intros; omega)
          have hM7 : Mw (ms_si σ1 493 7 0) 494 w := hM1.fr (Fr.si (P := fun a _ => a = 493) _ _ rfl) (by intros; omega)
          have hR7 := (hR.frP G1 (by omega) (by intros; omega)).frP (Fr.si (P := fun a k => a = 493 ∧ k = 7) σ1 (0 : Int32) ⟨rfl, rfl⟩) (by omega) (by intros; omega)
          obtain ⟨s2, b1, b2, b3⟩ := m_record hM7 hR7 hC.2.2.2.1
          have hM2 : Mw s2 494 w := hM7.fr b3 (by unfold FHis; intros; omega)
          obtain ⟨σ2, u, e1, e2, e5, e6⟩ := m_typeL (i := i) (s := s) hI.1 (by omega) (by omega) g3 (by omega) hM2
          have hWu := e5.wf hI.1 (by omega) (by omega) hAm
          have hN2 := (e5.now hl hI.1 hN1 d3 d2).away c3 (by rw [e5.1 0 (by omega) (by omega)]; exact h40) (by omega)
          have hdd : dF u0 (ln u0 l) = dF u (ln u l) := by
            rw [hLU0.ln_self, e5.ln_self, hLU0.dF' hl, e5.dF' hl]
          have Fm : Fr FRef σ1 σ2 := (((fr7 σ1 0).mono fun a k q => Or.inl q).trans (b3.mono fun a k q => by unfold FHis at q; show FRef a k; unfold FRef; omega)).trans (e6.mono fun a k q => by unfold FLay at q; show FRef a k; unfold FRef FScr; omega)
          have hcnt : ms_i σ1 (441 + 3) 1 = iZ ((dF u (ln u l)).length : Int) := by rw [c2.1.cnt, hdd]
          obtain ⟨r0, r1, r2, r3, r4, r5, r6⟩ := fm_refs (F := 441) (Or.inl rfl)
          refine MO.line (σ1 := σ1) (σ2 := σ2) (v := iZ ((dF u (ln u l)).length : Int)) hInv (Fr.refl _ _) a2 a3 ((d3.mono fun a k q => Or.inr (by have q1 := q.1; have q2 := q.2; omega)).trans (c3.mono fun a k q => Or.inl (by have q1 := q.1; have q2 := q.2; unfold FScr; omega))) hN2 (b2.frP e6 (by unfold FLay; omega) (by unfold FLay; intros; omega)) e2 Fm hWu (e5.same hl) ?_ ?_ ?_
          · rw [e6.1 _ _ (by unfold FLay; omega), b3.1 _ _ (by unfold FHis; omega), i_si_same]
          · unfold f_X10_type
            rw [needLine_s hI z1 z2, btT q, needSign_s hI m1 m2, btT g1, x_rf1, lineAt_s (a := 3) (Or.inl rfl) hl, Option.bind_some, e3, al0 k1 k2 (by omega) (by omega), btT g2, iltT rfl i60 (by omega) (by omega) (by omega), x_rf4, a1, Option.bind_some, d1, Option.bind_some, x_rf6, c1, Option.bind_some, r2, hcnt]
          · show f_X12_type σ1 493 (iZ (l : Int)) (iZ (i : Int)) (iZ (s : Int)) = _
            unfold f_X12_type
            rw [m_isLine hM1 h4 z1 z2, Option.bind_some, ibT q, m_isSign hM1 h40 m1 m2, Option.bind_some, ibT g1, f3, m_rf0, hga _ hM1, Option.bind_some, inRz k1 k2 (by omega) (by omega), Option.bind_some, ibT g2]
            unfold f_X12_type_44
            rw [nm_s, i_si_same, if_pos rfl, f3, m_rf0, hga _ hM7, Option.bind_some, ieqF rfl i60 (by omega) (by omega) (by omega) (by omega) (by omega), b1, Option.bind_some, hga _ hM2, Option.bind_some, e1]
        · refine MO.ref hInv (σ1 := σ) (σ2 := ms_si σ 493 7 0) (v := -2) (Fr.refl _ _) (fr7 σ 0) (i_si_same _ _ _ _) ?_ ?_
          · unfold f_X10_type
            rw [needLine_s hI z1 z2, btT q, needSign_s hI m1 m2, btT g1, x_rf1, lineAt_s (a := 3) (Or.inl rfl) hl, Option.bind_some, e3, al0 k1 k2 (by omega) (by omega), btT g2, iltF rfl i60 (by omega) (by omega) (by omega)]
          · show f_X12_type σ 493 (iZ (l : Int)) (iZ (i : Int)) (iZ (s : Int)) = _
            unfold f_X12_type
            rw [m_isLine hI.2.2 h4 z1 z2, Option.bind_some, ibT q, m_isSign hI.2.2 h40 m1 m2, Option.bind_some, ibT g1, f3, m_rf0, hga _ hI.2.2, Option.bind_some, inRz k1 k2 (by omega) (by omega), Option.bind_some, ibT g2]
            unfold f_X12_type_44
            rw [nm_s, i_si_same, if_pos rfl, f3, m_rf0, hga _ (hI.fr (fr7 σ 0)).2.2, Option.bind_some, ieqT rfl i60 (by omega)]
      · refine MO.bad hInv 1 2 rfl (Fr.refl _ _) (Fr.refl _ _) ?_ ?_
        · unfold f_X10_type
          rw [needLine_s hI z1 z2, btT q, needSign_s hI m1 m2, btT g1, x_rf1, lineAt_s (a := 3) (Or.inl rfl) hl, Option.bind_some, e3, al0 k1 k2 (by omega) (by omega), btF g2]
        · show f_X12_type σ 493 (iZ (l : Int)) (iZ k) (iZ (s : Int)) = _
          unfold f_X12_type
          rw [m_isLine hI.2.2 h4 z1 z2, Option.bind_some, ibT q, m_isSign hI.2.2 h40 m1 m2, Option.bind_some, ibT g1, f3, m_rf0, hga _ hI.2.2, Option.bind_some, inRz k1 k2 (by omega) (by omega), Option.bind_some, ibF g2, ty_bad _ _ _ _ (by decide)]
    · refine MO.bad hInv 0 1 rfl (Fr.refl _ _) (Fr.refl _ _) ?_ ?_
      · unfold f_X10_type
        rw [needLine_s hI z1 z2, btT q, needSign_s hI m1 m2, btF g1]
      · show f_X12_type σ 493 (iZ (l : Int)) (iZ k) (iZ m) = _
        unfold f_X12_type f_X12_type_17
        rw [m_isLine hI.2.2 h4 z1 z2, Option.bind_some, ibT q, m_isSign hI.2.2 h40 m1 m2, Option.bind_some, ibF g1, ty_bad _ _ _ _ (by decide)]
  · refine MO.bad hInv 0 1 rfl (Fr.refl _ _) (Fr.refl _ _) ?_ ?_
    · unfold f_X10_type
      rw [needLine_s hI z1 z2, btF q]
    · show f_X12_type σ 493 (iZ z) (iZ k) (iZ m) = _
      unfold f_X12_type f_X12_type_17
      rw [m_isLine hI.2.2 h4 z1 z2, Option.bind_some, ibF q, ty_bad _ _ _ _ (by decide)]
end In2
