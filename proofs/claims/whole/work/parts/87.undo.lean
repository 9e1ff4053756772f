/-! the invariant with history and snapshot; undoCount, undo -/
section Un
variable {σ : MsSt} {w : Nat → Nat}
theorem SameSg.rfl' : SameSg w w := ⟨rfl, rfl, fun _ _ => ⟨rfl, fun _ _ _ _ => rfl, fun _ => rfl⟩⟩
theorem SameSg.step {v u : Nat → Nat} (h : SameSg w v) (g : SameSg w u) : SameSg v u := by
  obtain ⟨h1, h2, h3⟩ := h
  obtain ⟨g1, g2, g3⟩ := g
  refine ⟨g1.trans h1.symm, g2.trans h2.symm, fun s hs => ?_⟩
  rw [h1] at hs
  obtain ⟨a1, a2, a3⟩ := h3 s hs
  obtain ⟨b1, b2, b3⟩ := g3 s hs
  exact ⟨b1.trans a1.symm, fun f f1 f2 f5 => (b2 f f1 f2 f5).trans (a2 f f1 f2 f5).symm, fun q => by rw [a1] at q; exact (b3 q).trans (a3 q).symm⟩
theorem MemRep.frP {σ' : MsSt} {a : Nat} {P : Nat → Nat → Prop} (h : MemRep σ a w) (hF : Fr P σ σ') (hp : ∀ b k, a ≤ b → b < a + 14 → ¬ P b k) : MemRep σ' a w :=
  ⟨fun l hl => (h.1 l hl).fr hF (hp _ _ (by omega) (by omega)) (fun k => hp _ _ (by omega) (by omega)), h.2.1.fr hF (hp _ _ (by omega) (by omega)) (fun k => hp _ _ (by omega) (by omega)), h.2.2.1.fr hF (hp _ _ (by omega) (by omega)) (fun k => hp _ _ (by omega) (by omega)), (hF.1 _ _ (hp _ _ (by omega) (by omega))).trans h.2.2.2⟩
theorem HC.frP {σ' : MsSt} {p n : Nat} {H : Nat → Nat → Nat} {P : Nat → Nat → Prop} (h : HC σ p n H) (hF : Fr P σ σ') (hp : ∀ b k, 285 ≤ b → b < 427 → ¬ P b k) : HC σ' p n H :=
  ⟨(hF.1 _ _ (hp _ _ (by omega) (by omega))).trans h.1, (hF.1 _ _ (hp _ _ (by omega) (by omega))).trans h.2.1, h.2.2.1, h.2.2.2.1, fun j hj => (h.2.2.2.2 j hj).frP hF fun b k h1 h2 => hp b k (by omega) (by omega)⟩
theorem HR.frP {σ' : MsSt} {n : Nat} {H : Nat → Nat → Nat} {P : Nat → Nat → Prop} (h : HR σ n H) (hF : Fr P σ σ') (h1 : ¬ P 493 6) (h2 : ∀ k, ¬ P 497 k) : HR σ' n H :=
  ⟨(hF.1 _ _ h1).trans h.1, fun j k hj hk => (hF.1 _ _ (h2 _)).trans (h.2 j k hj hk)⟩
theorem NowRep.frG {σ' : MsSt} {P : Nat → Nat → Prop} (h : NowRep σ 3 w) (hF : Fr P σ σ') (h40 : w 0 ≤ 40) (hp : ∀ a k, 3 ≤ a → a < 139 → ¬ P a k) : NowRep σ' 3 w := by
  obtain ⟨⟨h2, h3⟩, h4, h5, h6⟩ := h
  refine ⟨⟨?_, fun s hs => ?_⟩, ?_, ?_, fun l hl => ?_⟩
  · rw [hF.1 _ _ (hp _ _ (by omega) (by omega))]; exact h2
  · obtain ⟨g1, g2, g3, g4, g5, g6, g7, g8⟩ := h3 s hs
    have q : ∀ k, ms_i σ' (3 + 2 + 3 * s) k = ms_i σ (3 + 2 + 3 * s) k := fun k => hF.1 _ _ (hp _ _ (by omega) (by omega))
    refine ⟨by rw [q]; exact g1, by rw [q]; exact g2, by rw [q]; exact g3, g4.fr hF (hp _ _ (by omega) (by omega)) (fun k => hp _ _ (by omega) (by omega)), fun c => ?_, fun c => ?_, fun c => ?_, fun c => ?_⟩
    · rw [q, q, q]; exact g5 c
    · rw [q, q]; exact g6 c
    · rw [q, q]; exact g7 c
    · rw [q, q, q]; exact g8 c
  · rw [hF.1 _ _ (hp _ _ (by omega) (by omega))]; exact h4
  · rw [hF.1 _ _ (hp _ _ (by omega) (by omega))]; exact h5
  · exact (h6 l hl).fr hF (hp _ _ (by omega) (by omega)) (fun k => hp _ _ (by omega) (by omega))
/-- the snapshot on both sides -/
def SnR (σ : MsSt) (w : Nat → Nat) (b : Nat) (S : Nat → Nat) : Prop := ms_i σ 0 12 = iZ (b : Int) ∧ ms_i σ 493 8 = iZ (b : Int) ∧ b ≤ 1 ∧ (b = 1 → MemRep σ 427 S ∧ Mw σ 496 S ∧ WF S ∧ SameSg w S)
theorem SnR.frP {σ' : MsSt} {b : Nat} {S : Nat → Nat} {P : Nat → Nat → Prop} (h : SnR σ w b S) (hF : Fr P σ σ') (h1 : ¬ P 0 12) (h2 : ¬ P 493 8) (h3 : ∀ a k, 427 ≤ a → a < 441 → ¬ P a k) (h4 : ∀ k, ¬ P 496 k) : SnR σ' w b S :=
  ⟨(hF.1 _ _ h1).trans h.1, (hF.1 _ _ h2).trans h.2.1, h.2.2.1, fun q => by
    obtain ⟨a1, a2, a3⟩ := h.2.2.2 q
    exact ⟨a1.frP hF fun a k g1 g2 => h3 a k g1 (by omega), a2.fr hF h4, a3⟩⟩
theorem SnR.step {b : Nat} {S v : Nat → Nat} (h : SnR σ w b S) (g : SameSg w v) : SnR σ v b S :=
  ⟨h.1, h.2.1, h.2.2.1, fun q => by
    obtain ⟨a1, a2, a3, a4⟩ := h.2.2.2 q
    exact ⟨a1, a2, a3, g.step a4⟩⟩
def InvM (σ : MsSt) (w : Nat → Nat) (p n : Nat) (H : Nat → Nat → Nat) (b : Nat) (S : Nat → Nat) : Prop := InvS σ w ∧ HC σ p n H ∧ HR σ n H ∧ (∀ j, j < n → WF (H j) ∧ SameSg w (H j)) ∧ SnR σ w b S
theorem InvM.fr {σ' : MsSt} {p n b : Nat} {H : Nat → Nat → Nat} {S : Nat → Nat} (h : InvM σ w p n H b S) (hF : Fr FScr σ σ') : InvM σ' w p n H b S :=
  ⟨h.1.fr hF, h.2.1.frP hF (by unfold FScr; intros; omega), h.2.2.1.frP hF (by unfold FScr; omega) (by unfold FScr; intros; omega), h.2.2.2.1, h.2.2.2.2.frP hF (by unfold FScr; omega) (by unfold FScr; omega) (by unfold FScr; intros; omega) (by unfold FScr; intros; omega)⟩
def FMut : Nat → Nat → Prop := fun a k => FScr a k ∨ (3 ≤ a ∧ a < 139 ∧ ¬ (a < 125 ∧ k = 2)) ∨ (285 ≤ a ∧ a < 441) ∨ a = 494 ∨ a = 496 ∨ a = 497 ∨ (a = 493 ∧ (k = 6 ∨ k = 8)) ∨ (a = 0 ∧ k = 12)
theorem q_undoCount {p n b : Nat} {H : Nat → Nat → Nat} {S : Nat → Nat} (h : InvM σ w p n H b S) : ∃ r b' σ2, f_X10_undoCount σ 0 = some r ∧ f_X12_undoCount σ 493 = some (b', σ2) ∧ r = b' ∧ ms_i σ2 493 7 = 0 ∧ Fr FScr σ σ2 := by
  refine ⟨iZ (n : Int), iZ (n : Int), ms_si σ 493 7 0, ?_, ?_, rfl, i_si_same _ _ _ _, fr7 σ 0⟩
  · unfold f_X10_undoCount
    rw [x_rf4, h.2.1.2.1]
  · unfold f_X12_undoCount
    rw [nm_s, i_si_ne (Or.inr (by omega)), h.2.2.1.1]
theorem q_undo {p n b : Nat} {H : Nat → Nat → Nat} {S : Nat → Nat} (h : InvM σ w p n H b S) : ∃ r σ1 b' σ2 w' p' n', f_X10_undo σ 0 = some (r, σ1) ∧ f_X12_undo σ1 493 = some (b', σ2) ∧ r = b' ∧ ms_i σ2 493 7 = 0 ∧ InvM σ2 w' p' n' H b S ∧ SameSg w w' ∧ Fr FMut σ σ2 := by
  obtain ⟨hI, hC, hR, hK, hS⟩ := h
  obtain ⟨c1, c2, c3, c4, c5⟩ := hC
  have h40 := hI.1.1.1
  obtain ⟨r0, r1, r2⟩ := hi_refs
  by_cases q : n = 0
  · refine ⟨-1, σ, -1, ms_si σ 493 7 0, w, p, n, ?_, ?_, rfl, i_si_same _ _ _ _, InvM.fr ⟨hI, ⟨c1, c2, c3, c4, c5⟩, hR, hK, hS⟩ (fr7 σ 0), SameSg.rfl', (fr7 σ 0).mono fun a k q => Or.inl q⟩
    · unfold f_X10_undo f_X2_takeBack
      rw [x_rf4, ieqT c2 i0 (by omega), b2_s]
    · unfold f_X12_undo
      rw [nm_s, i_si_ne (Or.inr (by omega)), ieqT hR.1 i0 (by omega)]
  · have h10 : Int32.ofNat (ms_ln (ms_rf 285 0)) = iZ 10 := by rw [r0, r1]; rfl
    have fin : ∀ p' : Nat, p' < 10 → p' = (p + 9) % 10 → ∃ σ1, f_X2_takeBack_33 σ 285 3 (iZ (p' : Int)) 285 = some (iZ ((n - 1 : Nat) : Int), σ1) ∧ NowRep σ1 3 (H (n - 1)) ∧ HC σ1 p' (n - 1) H ∧ Fr (fun a k => (3 ≤ a ∧ a < 139 ∧ ¬ (a < 125 ∧ k = 2)) ∨ a = 285) σ σ1 := by
      intro p' hp' ep
      have e2 : ms_i (ms_si σ 285 1 (iZ (p' : Int))) 285 2 - 1 = iZ ((n - 1 : Nat) : Int) := by
        rw [i_si_ne (Or.inr (by omega)), c2, i1, iZ_sub]
        congr 1
        omega
      have G : Fr (In 285 286) σ (ms_si (ms_si σ 285 1 (iZ (p' : Int))) 285 2 (iZ ((n - 1 : Nat) : Int))) := (Fr.si _ _ ⟨Nat.le_refl _, by omega⟩).trans (Fr.si _ _ ⟨Nat.le_refl _, by omega⟩)
      have hM := (c5 (n - 1) (by omega)).away G (by omega)
      have ei : (p + 10 - n + (n - 1)) % 10 = p' := by omega
      rw [ei] at hM
      obtain ⟨s1, a1, a2, a3⟩ := giveBack_s hI.1 (hK (n - 1) (by omega)).1 (hK (n - 1) (by omega)).2 (hI.2.1.away G h40 (by omega)) (a := 287 + 14 * p') ⟨p', by omega, rfl⟩ hM
      have G2 : Fr (fun a k => (3 ≤ a ∧ a < 139 ∧ ¬ (a < 125 ∧ k = 2)) ∨ a = 285) σ s1 := (G.mono fun a k q => Or.inr (by have q1 := q.1; have q2 := q.2; omega)).trans (a3.mono fun a k q => Or.inl q)
      have v1 : ms_i s1 285 1 = iZ (p' : Int) := by rw [(FNow.in a3).at (by omega), i_si_ne (Or.inr (by omega)), i_si_same]
      have v2 : ms_i s1 285 2 = iZ ((n - 1 : Nat) : Int) := by rw [(FNow.in a3).at (by omega), i_si_same]
      have w1 : ms_i (ms_si (ms_si σ 285 1 (iZ (p' : Int))) 285 2 (iZ ((n - 1 : Nat) : Int))) 285 1 = iZ (p' : Int) := by rw [i_si_ne (Or.inr (by omega)), i_si_same]
      refine ⟨s1, ?_, a2, ⟨v1, v2, hp', by omega, fun j hj => ?_⟩, G2⟩
      · have hmem : ∀ s : MsSt, f_X2_memoryAt s 285 (iZ (p' : Int)) = some (some (287 + 14 * p')) := by
          intro s
          unfold f_X2_memoryAt
          rw [iltF rfl i0 (by omega) (by omega) (by omega), iltT rfl h10 (by omega) (by omega) (by omega), r0, ala_iZ (by omega) (by omega), Option.bind_some, r2 p' hp']
        unfold f_X2_takeBack_33
        rw [nm_s, nm_s, e2, w1, hmem, bq_s, a1, Option.bind_some, v2]
      · have ej : (p' + 10 - (n - 1) + j) % 10 = (p + 10 - n + j) % 10 := by omega
        rw [ej]
        exact (c5 j (by omega)).frP G2 (by intros; omega)
    have kc : ∃ p' σ1, f_X10_undo σ 0 = some (iZ ((n - 1 : Nat) : Int), σ1) ∧ NowRep σ1 3 (H (n - 1)) ∧ HC σ1 p' (n - 1) H ∧ Fr (fun a k => (3 ≤ a ∧ a < 139 ∧ ¬ (a < 125 ∧ k = 2)) ∨ a = 285) σ σ1 := by
      by_cases g : 0 < p
      · obtain ⟨σ1, d1, d2⟩ := fin (p - 1) (by omega) (by omega)
        refine ⟨p - 1, σ1, ?_, d2⟩
        have e : ms_i σ 285 1 - 1 = iZ ((p - 1 : Nat) : Int) := by rw [c1, i1, iZ_sub]; congr 1; omega
        unfold f_X10_undo f_X2_takeBack
        rw [x_rf4, x_rf1, ieqF c2 i0 (by omega) (by omega) (by omega) (by omega) (by omega), iltT i0 c1 (by omega) (by omega) (by omega), e, d1, b2_s]
      · obtain ⟨σ1, d1, d2⟩ := fin 9 (by omega) (by omega)
        refine ⟨9, σ1, ?_, d2⟩
        have e : Int32.ofNat (ms_ln (ms_rf 285 0)) - 1 = iZ ((9 : Nat) : Int) := by rw [h10]; rfl
        unfold f_X10_undo f_X2_takeBack
        rw [x_rf4, x_rf1, ieqF c2 i0 (by omega) (by omega) (by omega) (by omega) (by omega), iltF i0 c1 (by omega) (by omega) (by omega), e, d1, b2_s]
    obtain ⟨p', σ1, d1, d2, d3, d4⟩ := kc
    have l4 : ms_ln 494 = 527 := m_ln.1
    have l7 : ms_ln 497 = 5270 := m_ln.2.2.2.1
    have hR1 := hR.frP d4 (by omega) (by intros; omega)
    have G3 : Fr (fun a k => a = 493 ∧ (k = 6 ∨ k = 7)) σ1 (ms_si (ms_si σ1 493 7 0) 493 6 (iZ ((n - 1 : Nat) : Int))) := (Fr.si _ _ ⟨rfl, Or.inr rfl⟩).trans (Fr.si _ _ ⟨rfl, Or.inl rfl⟩)
    obtain ⟨s2, g1, g2, g3⟩ := m_copy (σ := ms_si (ms_si σ1 493 7 0) 493 6 (iZ ((n - 1 : Nat) : Int))) (c := 497) (d := 494) (A := n - 1) (B := 0) (by omega) (by omega) (by omega) (by omega) (Or.inl (by omega))
    have g1' : f_X12_copy (ms_si (ms_si σ1 493 7 0) 493 6 (iZ ((n - 1 : Nat) : Int))) 497 (iZ ((n - 1 : Nat) : Int)) 494 0 = some s2 := g1
    have G4 : Fr (fun a k => a = 494 ∨ (a = 493 ∧ (k = 6 ∨ k = 7))) σ1 s2 := (G3.mono fun a k q => Or.inr q).trans (g3.mono fun a k q => Or.inl q.1)
    have v6 : ms_i s2 493 6 = iZ ((n - 1 : Nat) : Int) := by rw [g3.1 _ _ (by unfold FRow; omega), i_si_same]
    have hSg := (hK (n - 1) (by omega)).2
    refine ⟨iZ ((n - 1 : Nat) : Int), σ1, iZ ((n - 1 : Nat) : Int), s2, H (n - 1), p', n - 1, d1, ?_, rfl, ?_, ⟨⟨(hK (n - 1) (by omega)).1, ?_, ?_⟩, d3.frP G4 (by intros; omega), ⟨v6, fun j k hj hk => ?_⟩, fun j hj => ⟨(hK j (by omega)).1, hSg.step (hK j (by omega)).2⟩, ?_⟩, hSg, (d4.mono fun a k q => by unfold FMut; omega).trans (G4.mono fun a k q => by unfold FMut FScr; omega)⟩
    · have e6 : ms_i (ms_si σ1 493 7 0) 493 6 = iZ (n : Int) := by rw [i_si_ne (Or.inr (by omega)), hR1.1]
      have e7 : iZ (n : Int) - 1 = iZ ((n - 1 : Nat) : Int) := by rw [i1, iZ_sub]; congr 1; omega
      unfold f_X12_undo
      rw [nm_s, e6, ieqF rfl i0 (by omega) (by omega) (by omega) (by omega) (by omega), nm_s, e7, i_si_same, m_rf3, m_rf0, g1', Option.bind_some, v6]
    · rw [g3.1 _ _ (by unfold FRow; omega), i_si_ne (Or.inr (by omega)), i_si_same]
    · exact NowRep.frG d2 G4 (hK (n - 1) (by omega)).1.1.1 (by intros; omega)
    · intro k hk
      have := g2 k hk
      rw [show 527 * 0 + k = k from by omega] at this
      rw [this, G3.1 _ _ (by omega)]
      exact hR1.2 (n - 1) k (by omega) hk
    · rw [G4.1 _ _ (by omega)]
      exact hR1.2 j k (by omega) hk
    · exact ((hS.frP d4 (by omega) (by omega) (by intros; omega) (by intros; omega)).frP G4 (by omega) (by omega) (by intros; omega) (by intros; omega)).step hSg
end Un
