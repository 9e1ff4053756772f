/-! both sides have recorded and changed a line; join -/
section Jn
variable {σ : MsSt} {w : Nat → Nat}
def FCls : Nat → Nat → Prop := fun a k => FScr a k ∨ (125 ≤ a ∧ a < 139)
def FRef : Nat → Nat → Prop := fun a k => FScr a k ∨ a = 494 ∨ a = 497 ∨ (a = 493 ∧ k = 6)
theorem fin_line {p n b p' : Nat} {H : Nat → Nat → Nat} {S u : Nat → Nat} {s1 σ1 σ2 : MsSt} (h : InvM σ w p n H b S) (c1 : HC s1 p' (pN n) (pH n H w)) (c2 : Fr (In 285 427) σ s1) (c3 : Fr FCls s1 σ1) (c4 : NowRep σ1 3 u) (m1 : HR σ2 (pN n) (pH n H w)) (m2 : Mw σ2 494 u) (m3 : Fr FRef σ1 σ2) (hW : WF u) (hS : SameSg w u) : InvM σ2 u p' (pN n) (pH n H w) b S ∧ Fr FMut σ σ2 := by
  obtain ⟨hI, hC, hR, hK, hSn⟩ := h
  have G : Fr FMut σ σ2 := ((c2.mono fun a k q => by have q1 := q.1; have q2 := q.2; unfold FMut; omega).trans (c3.mono fun a k q => by unfold FCls at q; unfold FMut; rcases q with q | q; exact Or.inl q; omega)).trans (m3.mono fun a k q => by unfold FRef at q; unfold FMut; rcases q with q | q; exact Or.inl q; omega)
  have G1 : Fr (fun a k => (285 ≤ a ∧ a < 427) ∨ FCls a k ∨ FRef a k) σ σ2 := ((c2.mono fun a k q => Or.inl ⟨q.1, q.2⟩).trans (c3.mono fun a k q => Or.inr (Or.inl q))).trans (m3.mono fun a k q => Or.inr (Or.inr q))
  refine ⟨⟨⟨hW, c4.frG m3 hW.1.1 (by unfold FRef FScr; intros; omega), m2⟩, (c1.frP c3 (by unfold FCls FScr; intros; omega)).frP m3 (by unfold FRef FScr; intros; omega), m1, pH_ok hC.2.2.2.1 hI.1 hS hK, (hSn.frP G1 (by unfold FCls FRef FScr; omega) (by unfold FCls FRef FScr; omega) (by unfold FCls FRef FScr; intros; omega) (by unfold FCls FRef FScr; intros; omega)).step hS⟩, G⟩
theorem m_joinL {l m : Nat} (hW : WF w) (hw : Mw σ 494 w) (hl : l < 4) (hm : m < 4) (h60 : w (3 + l) + w (3 + m) ≤ 60) : ∃ σ' u, f_X12_join_49 ms_fuel σ 493 (iZ (l : Int)) (iZ (m : Int)) (iZ (w (3 + l) : Int)) (iZ (w (3 + m) : Int)) 0 = some (iZ ((w (3 + l) + w (3 + m) : Nat) : Int), σ') ∧ Mw σ' 494 u ∧ LU w l (ln w l ++ ln w m) u ∧ Fr (fun a _ => a = 494) σ σ' := by
  have l4 : ms_ln 494 = 527 := m_ln.1
  have eA := ln_length w l
  have eB := ln_length w m
  have key := lp0 (S := MsSt × Int32) (f := fun n t => f_X12_join_49 n t.1 493 (iZ (l : Int)) (iZ (m : Int)) (iZ (w (3 + l) : Int)) (iZ (w (3 + m) : Int)) t.2) (Q := fun r => r.1 = iZ ((w (3 + l) + w (3 + m) : Nat) : Int) ∧ (∃ u, Mw r.2 494 u ∧ LU w l (ln w l ++ ln w m) u) ∧ Fr (fun a _ => a = 494) σ r.2)
    (fun i t => t.2 = iZ (i : Int) ∧ i ≤ w (3 + m) ∧ (∃ u, Mw t.1 494 u ∧ (∀ k, k < 7 + 60 * l + w (3 + l) ∨ 7 + 60 * l + w (3 + l) + i ≤ k → u k = w k) ∧ ∀ q, q < i → u (7 + 60 * l + w (3 + l) + q) = w (7 + 60 * m + q)) ∧ Fr (fun a _ => a = 494) σ t.1) (w (3 + m)) (s := (σ, 0)) ⟨rfl, Nat.zero_le _, ⟨w, hw, fun _ _ => rfl, fun q hq => absurd hq (by omega)⟩, Fr.refl _ _⟩ (by omega) ?_ ?_
  · obtain ⟨⟨r1, r2⟩, g1, g2, ⟨u, g3, g4⟩, g5⟩ := key
    dsimp only at g2
    subst g2
    exact ⟨r2, u, g1, g3, g4, g5⟩
  · rintro i ⟨t, x⟩ ⟨hx, hi, ⟨u, hu1, hu2, hu3⟩, hF⟩ hlt
    dsimp only at hx hu1 hF ⊢
    subst hx
    left
    have ev : u (7 + 60 * m + i) = w (7 + 60 * m + i) := by
      by_cases q : m = l
      · subst q; exact hu2 _ (by omega)
      · exact hu2 _ (by omega)
    have e1 : iZ (w (3 + l) : Int) + iZ (i : Int) = iZ ((w (3 + l) + i : Nat) : Int) := by rw [iZ_add]; rfl
    have hr : ms_ald t 494 (iZ (7 + 60 * (m : Int) + (i : Int))) = some (iZ (w (7 + 60 * m + i) : Int)) := by
      rw [mw_get hu1 (Or.inl rfl) (k := 7 + 60 * m + i) (by omega) (by omega), ev]
    refine ⟨(ms_si t 494 (7 + 60 * l + (w (3 + l) + i)) (iZ (w (7 + 60 * m + i) : Int)), iZ ((i + 1 : Nat) : Int)), ⟨rfl, hlt, ⟨uw u (7 + 60 * l + (w (3 + l) + i)) (w (7 + 60 * m + i)), mw_up hu1 rfl, fun k hk => by rw [uw_ne (by omega)]; exact hu2 k (by omega), fun q hq => ?_⟩, hF.trans (Fr.si _ _ rfl)⟩, fun n' => ?_⟩
    · by_cases g : q = i
      · subst g
        rw [show 7 + 60 * l + w (3 + l) + q = 7 + 60 * l + (w (3 + l) + q) from by omega, uw_eq]
      · rw [uw_ne (by omega)]
        exact hu3 q (by omega)
    · show (if iZ (i : Int) < iZ (w (3 + m) : Int) then _ else _) = _
      rw [iltT rfl rfl (by omega) (by omega) (by omega), e1, spot_s, Option.bind_some, spot_s, Option.bind_some, m_rf0, hr, Option.bind_some, ast_z (k := 7 + 60 * l + (w (3 + l) + i)) (by omega) (by omega) (by omega), Option.bind_some, i1, iZ_add]
      rfl
  · rintro ⟨t, x⟩ ⟨hx, hi, ⟨u, hu1, hu2, hu3⟩, hF⟩
    dsimp only at hx hu1 hF ⊢
    subst hx
    have e1 : iZ (w (3 + l) : Int) + iZ (w (3 + m) : Int) = iZ ((w (3 + l) + w (3 + m) : Nat) : Int) := by rw [iZ_add]; rfl
    have e2 : (3 : Int32) + iZ (l : Int) = iZ (3 + (l : Int)) := by rw [i3, iZ_add]
    refine ⟨(iZ ((w (3 + l) + w (3 + m) : Nat) : Int), ms_si t 494 (3 + l) (iZ ((w (3 + l) + w (3 + m) : Nat) : Int))), ⟨rfl, ⟨uw u (3 + l) (w (3 + l) + w (3 + m)), mw_up hu1 rfl, fun k hk1 hk2 => by rw [uw_ne hk1]; exact hu2 k (by omega), by rw [uw_eq, List.length_append, eA, eB], fun p hp => ?_⟩, hF.trans (Fr.si _ _ rfl)⟩, fun n' => ?_⟩
    · rw [List.length_append, eA, eB] at hp
      rw [uw_ne (by omega)]
      by_cases g : p < w (3 + l)
      · rw [List.getElem_append_left (by omega), ln_get]
        exact hu2 _ (by omega)
      · rw [List.getElem_append_right (by omega), ln_get]
        have := hu3 (p - w (3 + l)) (by omega)
        rw [show 7 + 60 * l + w (3 + l) + (p - w (3 + l)) = 7 + 60 * l + p from by omega] at this
        rw [this, eA]
    · show (if iZ (w (3 + m) : Int) < iZ (w (3 + m) : Int) then _ else _) = _
      rw [iltF rfl rfl (by omega) (by omega) (by omega), e1, e2, m_rf0, ast_z (k := 3 + l) (by omega) (by omega) (by omega), Option.bind_some]
theorem q_join {p n b : Nat} {H : Nat → Nat → Nat} {S : Nat → Nat} (h : InvM σ w p n H b S) (x y : Int32) : ∃ r σ1 b' σ2 w' p' n' H', f_X10_join σ 0 x y = some (r, σ1) ∧ f_X12_join σ1 493 x y = some (b', σ2) ∧ Ok r (ms_i σ2 493 7) b' ∧ InvM σ2 w' p' n' H' b S ∧ SameSg w w' ∧ Fr FMut σ σ2 := by
  obtain ⟨z, z1, z2, rfl⟩ := iZ_of x
  obtain ⟨k, k1, k2, rfl⟩ := iZ_of y
  have hInv := h
  obtain ⟨hI, hC, hR, hK, hS⟩ := h
  have h40 := hI.1.1.1
  have h4 := hI.1.2.2.1
  by_cases q : (0 ≤ z ∧ z ≤ (w 1 : Int) - 1) ∧ 0 ≤ k ∧ k ≤ (w 1 : Int) - 1
  · obtain ⟨l, rfl⟩ : ∃ l : Nat, z = (l : Int) := ⟨z.toNat, by omega⟩
    obtain ⟨m, rfl⟩ : ∃ m : Nat, k = (m : Int) := ⟨k.toNat, by omega⟩
    have hl : l < 4 := by omega
    have hm : m < 4 := by omega
    have hl60 := hI.1.2.2.2.2.1 l hl
    have hm60 := hI.1.2.2.2.2.1 m hm
    have eA := ln_length w l
    have eB := ln_length w m
    have ea : ∀ t : Nat, (3 : Int32) + iZ (t : Int) = iZ (3 + (t : Int)) := fun t => by rw [i3, iZ_add]
    have hga : ∀ σ' : MsSt, Mw σ' 494 w → ∀ t : Nat, t < 4 → ms_ald σ' 494 (iZ (3 + (t : Int))) = some (iZ (w (3 + t) : Int)) := fun σ' hw t ht => mw_get hw (Or.inl rfl) (k := 3 + t) (by omega) (by omega)
    have e60 : iZ (w (3 + l) : Int) + iZ (w (3 + m) : Int) = iZ ((w (3 + l) : Int) + (w (3 + m) : Int)) := iZ_add _ _
    by_cases g : 60 < w (3 + l) + w (3 + m)
    · refine ⟨.inl (-2), σ, -2, ms_si σ 493 7 0, w, p, n, H, ?_, ?_, ⟨i_si_same _ _ _ _, rfl⟩, hInv.fr (fr7 σ 0), SameSg.rfl', (fr7 σ 0).mono fun a k q => Or.inl q⟩
      · unfold f_X10_join
        rw [needLine_s hI z1 z2, btT q.1, needLine_s hI k1 k2, btT q.2, x_rf1, lineAt_s (a := 3) (Or.inl rfl) hl, Option.bind_some, lineAt_s (a := 3) (Or.inl rfl) hm, Option.bind_some, (hI.2.1.2.2.2 l hl).cnt, (hI.2.1.2.2.2 m hm).cnt, eA, eB, e60, iltT i60' rfl (by omega) (by omega) (by omega)]
      · unfold f_X12_join
        rw [m_noTwoT hI q.1 q.2, b2_s, if_pos rfl, ea, ea, m_rf0, hga _ (hI.fr (fr7 σ 0)).2.2 l hl, Option.bind_some, hga _ (hI.fr (fr7 σ 0)).2.2 m hm, Option.bind_some, e60, iltT i60' rfl (by omega) (by omega) (by omega)]
    · obtain ⟨s1, p', a1, a2, a3⟩ := c_record hI.1 hI.2.1 hC
      have hN1 := hI.2.1.away a3 h40 (by omega)
      have hadd : ∃ σ1, f_X5_addAll s1 (3 + 123 + 2 * l) (3 + 123 + 2 * m) = some σ1 ∧ Rw cN σ1 (3 + 123 + 2 * l) 60 (ln w l ++ ln w m) ∧ Fr (In (3 + 123 + 2 * l) (3 + 123 + 2 * l + 2)) s1 σ1 := by
        by_cases e : m = l
        · subst e
          exact addAll_self (hN1.2.2.2 m hm) (by omega)
        · exact addAll_s (hN1.2.2.2 l hl) (hN1.2.2.2 m hm) (by omega) (by omega)
      obtain ⟨σ1, d1, d2, d3⟩ := hadd
      have G1 : Fr (fun a _ => (3 ≤ a ∧ a < 139) ∨ (285 ≤ a ∧ a < 427)) σ σ1 := (a3.mono fun a k q => Or.inr ⟨q.1, q.2⟩).trans (d3.mono fun a k q => by have q1 := q.1; have q2 := q.2; omega)
      have hM1 := hI.2.2.fr G1 (by intros; omega)
      have hM7 : Mw (ms_si σ1 493 7 0) 494 w := hM1.fr (Fr.si (P := fun a _ => a = 493) _ _ rfl) (by intros; omega)
      have hR7 := (hR.frP G1 (by omega) (by intros; omega)).frP (Fr.si (P := fun a k => a = 493 ∧ k = 7) σ1 (0 : Int32) ⟨rfl, rfl⟩) (by omega) (by intros; omega)
      obtain ⟨s2, b1, b2, b3⟩ := m_record hM7 hR7 hC.2.2.2.1
      have hM2 : Mw s2 494 w := hM7.fr b3 (by unfold FHis; intros; omega)
      obtain ⟨σ2, u, e1, e2, e3, e4⟩ := m_joinL hI.1 hM2 hl hm (by omega)
      have hL : ∀ x ∈ ln w l ++ ln w m, x < w 0 := fun x hx => (List.mem_append.mp hx).elim (fun g => (hI.1.line hl).1 x g) (fun g => (hI.1.line hm).1 x g)
      have hWu := e3.wf hI.1 (by omega) (by rw [List.length_append]; omega) hL
      have hSm := e3.same hl
      have Fm : Fr FRef σ1 σ2 := (((fr7 σ1 0).mono fun a k q => Or.inl q).trans (b3.mono fun a k q => by unfold FHis at q; show FRef a k; unfold FRef; omega)).trans (e4.mono fun a k q => Or.inr (Or.inl q))
      obtain ⟨f1, f2⟩ := fin_line hInv a2 a3 (d3.mono fun a k q => Or.inr (by have q1 := q.1; have q2 := q.2; omega)) (e3.now hl hI.1 hN1 d3 d2) (b2.frP e4 (by omega) (by intros; omega)) e2 Fm hWu hSm
      have hcnt : ms_i σ1 (3 + 123 + 2 * l) 1 = iZ ((w (3 + l) + w (3 + m) : Nat) : Int) := by rw [d2.cnt, List.length_append, eA, eB]
      refine ⟨.inl (iZ ((w (3 + l) + w (3 + m) : Nat) : Int)), σ1, iZ ((w (3 + l) + w (3 + m) : Nat) : Int), σ2, u, p', pN n, pH n H w, ?_, ?_, ⟨?_, rfl⟩, f1, hSm, f2⟩
      · unfold f_X10_join
        rw [needLine_s hI z1 z2, btT q.1, needLine_s hI k1 k2, btT q.2, x_rf1, lineAt_s (a := 3) (Or.inl rfl) hl, Option.bind_some, lineAt_s (a := 3) (Or.inl rfl) hm, Option.bind_some, (hI.2.1.2.2.2 l hl).cnt, (hI.2.1.2.2.2 m hm).cnt, eA, eB, e60, iltF i60' rfl (by omega) (by omega) (by omega), x_rf4, a1, Option.bind_some, d1, Option.bind_some, hcnt]
      · have hq : f_X12_noTwoLines σ1 493 (iZ (l : Int)) (iZ (m : Int)) = some (0, ms_si σ1 493 7 0) := by
          unfold f_X12_noTwoLines
          rw [m_isLine hM1 h4 (by omega) (by omega), Option.bind_some, ibT q.1, m_isLine hM1 h4 (by omega) (by omega), Option.bind_some, ibT q.2, nm_s, i_si_same, if_pos rfl]
        unfold f_X12_join
        rw [hq, b2_s, if_pos rfl, ea, ea, m_rf0, hga _ hM7 l hl, Option.bind_some, hga _ hM7 m hm, Option.bind_some, e60, iltF i60' rfl (by omega) (by omega) (by omega), b1, Option.bind_some, e1]
      · rw [e4.1 _ _ (by omega), b3.1 _ _ (by unfold FHis; omega), i_si_same]
  · refine ⟨.inr 0, σ, 0, ms_si σ 493 7 1, w, p, n, H, ?_, ?_, i_si_same _ _ _ _, hInv.fr (fr7 σ 1), SameSg.rfl', (fr7 σ 1).mono fun a k q => Or.inl q⟩
    · unfold f_X10_join
      rw [needLine_s hI z1 z2, needLine_s hI k1 k2]
      by_cases g : 0 ≤ z ∧ z ≤ (w 1 : Int) - 1
      · rw [btT g, btF (fun g2 => q ⟨g, g2⟩)]
      · rw [btF g]
    · unfold f_X12_join
      rw [m_noTwoF hI z1 z2 k1 k2 q, b2_s, if_neg (by decide)]
end Jn
