/-! decompose, compose -/
section Re
variable {σ : MsSt} {w : Nat → Nat}
theorem c_rowOf2 (h : InvS σ w) {l : Nat} (hl : l < 4) {t : Int} (ht : t = 1 ∨ t = 2) : ∃ r s4, f_X10_rowOf σ 0 (iZ (l : Int)) (iZ t) = some (r, s4) ∧ (r = 444 ∨ r = 446) ∧ Rw cN s4 r 360 (rowL w l t) ∧ Fr FScr σ s4 := by
  obtain ⟨s4, a1, ⟨a2, a3, a4, a5⟩, a6⟩ := c_deriveL h (F := 441) (Or.inl rfl) hl
  have hF4 := fm_scr (F := 441) (Or.inl rfl) a6
  obtain ⟨r0, r1, r2, r3, r4, r5, r6⟩ := fm_refs (F := 441) (Or.inl rfl)
  unfold f_X10_rowOf
  rw [x_rf1, lineAt_s (a := 3) (Or.inl rfl) hl, Option.bind_some, x_rf6, a1]
  rcases ht with rfl | rfl
  · refine ⟨444, s4, ?_, Or.inl rfl, a3.1, hF4⟩
    rw [if_neg (by decide), Option.bind_some, if_pos (by decide), r2]
  · refine ⟨446, s4, ?_, Or.inr rfl, a4, hF4⟩
    rw [if_neg (by decide), Option.bind_some, if_neg (by decide), r3]
theorem rw_class {p n b : Nat} {H : Nat → Nat → Nat} {S : Nat → Nat} (h : InvM σ w p n H b S) {l : Nat} {t : Int} (hl : l < 4) (ht : t = 1 ∨ t = 2) (h60 : (rowL w l t).length ≤ 60) : ∃ s0 s1 σ1 p', f_X10_rewrite σ 0 (iZ (l : Int)) (iZ t) = some (iZ ((rowL w l t).length : Int), σ1) ∧ Fr FScr σ s0 ∧ HC s1 p' (pN n) (pH n H w) ∧ Fr (In 285 427) s0 s1 ∧ NowRep s1 3 w ∧ Rw cN σ1 (3 + 123 + 2 * l) 60 (rowL w l t) ∧ Fr (In (3 + 123 + 2 * l) (3 + 123 + 2 * l + 2)) s1 σ1 := by
  have h40 := h.1.1.1.1
  obtain ⟨r, s0, a1, a2, a3, a4⟩ := c_rowOf2 h.1 hl ht
  have h0 := h.fr a4
  obtain ⟨s1, p', b1, b2, b3⟩ := c_record h0.1.1 h0.1.2.1 h0.2.1
  have hN1 := h0.1.2.1.away b3 h40 (by omega)
  have hR1 : Rw cN s1 r 360 (rowL w l t) := a3.away b3 (by omega)
  obtain ⟨σ1, c1, c2, c3⟩ := takeOver_s (r := 3 + 123 + 2 * l) (sc_line (a := 3) (Or.inl rfl) hl).2 hR1 (by omega) h60
  have hR2 : Rw cN σ1 r 360 (rowL w l t) := hR1.away c3 (by omega)
  refine ⟨s0, s1, σ1, p', ?_, a4, b2, b3, hN1, c2, c3⟩
  unfold f_X10_rewrite
  rw [a1, b2_s, iltF i60 a3.cnt (by omega) (by omega) (by omega), x_rf4, x_rf1, b1, Option.bind_some, lineAt_s (a := 3) (Or.inl rfl) hl, Option.bind_some, c1, Option.bind_some, hR2.cnt]
theorem rw_big {p n b : Nat} {H : Nat → Nat → Nat} {S : Nat → Nat} (h : InvM σ w p n H b S) {l : Nat} {t : Int} (hl : l < 4) (ht : t = 1 ∨ t = 2) (h60 : ¬ (rowL w l t).length ≤ 60) : ∃ s0, f_X10_rewrite σ 0 (iZ (l : Int)) (iZ t) = some (-2, s0) ∧ Fr FScr σ s0 := by
  have hlen := (rowL_ok h.1.1 hl t).1
  obtain ⟨r, s0, a1, a2, a3, a4⟩ := c_rowOf2 h.1 hl ht
  refine ⟨s0, ?_, a4⟩
  unfold f_X10_rewrite
  rw [a1, b2_s, iltT i60 a3.cnt (by omega) (by omega) (by omega)]
theorem m_formsM (hW : WF w) (hw : Mw σ 494 w) {l : Nat} (hl : l < 4) : ∃ s4, f_X12_layForms σ 493 (iZ (l : Int)) = some s4 ∧ CmS s4 (cmp w (spN w) (w 0) (dF w (ln w l))) ∧ Fr (fun a k => FLay a k ∨ FCmp a k) σ s4 := by
  obtain ⟨n1, n2, n3, n4⟩ := lnok hW hl
  obtain ⟨s3, b1, b2, b3⟩ := m_layDecomposed hW hl hw
  have h3 : Mw s3 494 w := hw.fr b3 (by unfold FLay; intros; omega)
  obtain ⟨s4, c1, c2, c3⟩ := m_layComposed hW.1 rfl h3 b2 (fun y hy => ⟨(n1 y hy).1, (n1 y hy).2.2⟩) n2
  refine ⟨s4, ?_, c2, (b3.mono fun a k q => Or.inl q).trans (c3.mono fun a k q => Or.inr q)⟩
  unfold f_X12_layForms
  rw [b1, Option.bind_some, c1]
  rfl
/-- the row that the reference makes the line of -/
def frC (t : Int) : Nat := if t = 1 then 501 else 502
theorem frC_ok (t : Int) : (frC t ≠ 494 ∧ frC t ≠ 497 ∧ frC t ≠ 493) ∧ ms_ln (frC t) = 361 := by
  unfold frC
  split
  · exact ⟨by omega, m_ln.2.2.2.2.2.2.2.1⟩
  · exact ⟨by omega, m_ln.2.2.2.2.2.2.2.2.1⟩
theorem m_layT (hW : WF w) (hw : Mw σ 494 w) {l : Nat} {t : Int} (hl : l < 4) (ht : t = 1 ∨ t = 2) : ∃ s4, (if t = 1 then f_X12_layDecomposed σ 493 (iZ (l : Int)) else f_X12_layForms σ 493 (iZ (l : Int))) = some s4 ∧ Aw s4 (frC t) (rowL w l t) ∧ ms_i s4 493 (if t = 1 then 11 else 15) = iZ ((rowL w l t).length : Int) ∧ Fr (fun a k => FLay a k ∨ FCmp a k) σ s4 := by
  rcases ht with rfl | rfl
  · obtain ⟨s3, b1, b2, b3⟩ := m_layDecomposed hW hl hw
    exact ⟨s3, by rw [if_pos rfl, b1], b2.1, b2.2.1, b3.mono fun a k q => Or.inl q⟩
  · obtain ⟨s3, b1, b2, b3⟩ := m_formsM hW hw hl
    exact ⟨s3, by rw [if_neg (by decide), b1], b2.1, b2.2.2, b3⟩
theorem m_become {c n l : Nat} {L : List Nat} {H : Nat → Nat → Nat} (hl : l < 4) (hL : L.length ≤ 60) (hc : c ≠ 494 ∧ c ≠ 497 ∧ c ≠ 493) (hc1 : L.length ≤ ms_ln c) (hc2 : ms_ln c ≤ 100000) (h : Mw σ 494 w) (hA : Aw σ c L) (hH : HR σ n H) (hn : n ≤ 10) : ∃ σ' v, f_X12_become σ 493 (iZ (l : Int)) c (iZ (L.length : Int)) = some (iZ (L.length : Int), σ') ∧ HR σ' (pN n) (pH n H w) ∧ Mw σ' 494 v ∧ LU w l L v ∧ Fr FWr σ σ' := by
  obtain ⟨σ', v, a1, a2⟩ := m_write hl hL hc hc1 hc2 h hA hH hn
  refine ⟨σ', v, ?_, a2⟩
  unfold f_X12_become
  rw [iltF i60 rfl (by omega) (by omega) (by omega), a1, Option.bind_some]
theorem m_becomeB {c l : Nat} {L : List Nat} (hL : ¬ L.length ≤ 60) (h2 : L.length < 1000) : f_X12_become σ 493 (iZ (l : Int)) c (iZ (L.length : Int)) = some (-2, σ) := by
  unfold f_X12_become
  rw [iltT i60 rfl (by omega) (by omega) (by omega)]
theorem q_rew {p n b : Nat} {H : Nat → Nat → Nat} {S : Nat → Nat} (h : InvM σ w p n H b S) {l : Nat} {t : Int} (hl : l < w 1) (ht : t = 1 ∨ t = 2) {fc : Option ((Int32 ⊕ Nat) × MsSt)} {fm : MsSt → Option (Int32 × MsSt)}
    (hc : ∀ v s, f_X10_rewrite σ 0 (iZ (l : Int)) (iZ t) = some (v, s) → fc = some (.inl v, s))
    (hm : ∀ s s4 v s5, Mw s 494 w → (if t = 1 then f_X12_layDecomposed (ms_si s 493 7 0) 493 (iZ (l : Int)) else f_X12_layForms (ms_si s 493 7 0) 493 (iZ (l : Int))) = some s4 → f_X12_become s4 493 (iZ (l : Int)) (frC t) (ms_i s4 493 (if t = 1 then 11 else 15)) = some (v, s5) → fm s = some (v, s5)) : MO σ w b S fc fm := by
  have h4 := h.1.1.2.2.1
  have hl4 : l < 4 := by omega
  have hW := h.1.1
  obtain ⟨k1, k2⟩ := rowL_ok hW hl4 t
  obtain ⟨k3, k4⟩ := frC_ok t
  by_cases g : (rowL w l t).length ≤ 60
  · obtain ⟨s0, s1, σ1, p', a1, a2, a3, a4, a5, a6, a7⟩ := rw_class h hl4 ht g
    have G1 : Fr (fun a k => FScr a k ∨ (3 ≤ a ∧ a < 139) ∨ (285 ≤ a ∧ a < 427)) σ σ1 := ((a2.mono fun a k q => Or.inl q).trans (a4.mono fun a k q => Or.inr (Or.inr ⟨q.1, q.2⟩))).trans (a7.mono fun a k q => Or.inr (Or.inl (by have q1 := q.1; have q2 := q.2; omega)))
    have hM1 := h.1.2.2.fr G1 (by unfold FScr; intros; omega)
    have hR1 := h.2.2.1.frP G1 (by unfold FScr; omega) (by unfold FScr; intros; omega)
    have hM7 : Mw (ms_si σ1 493 7 0) 494 w := hM1.fr (Fr.si (P := fun a _ => a = 493) _ _ rfl) (by intros; omega)
    have hR7 := hR1.frP (Fr.si (P := fun a k => a = 493 ∧ k = 7) σ1 (0 : Int32) ⟨rfl, rfl⟩) (by omega) (by intros; omega)
    obtain ⟨s4, b1, b2, b3, b4⟩ := m_layT hW hM7 hl4 ht
    obtain ⟨σ2, u, e1, e2, e3, e4, e5⟩ := m_become (n := n) (H := H) hl4 g k3 (by omega) (by omega) (hM7.fr b4 (by unfold FLay FCmp; intros; omega)) b2 (hR7.frP b4 (by unfold FLay FCmp; omega) (by unfold FLay FCmp; intros; omega)) h.2.1.2.2.2.1
    have Fm : Fr FRef σ1 σ2 := (((fr7 σ1 0).mono fun a k q => Or.inl q).trans (b4.mono fun a k q => by unfold FLay FCmp at q; show FRef a k; unfold FRef FScr; omega)).trans (e5.mono fun a k q => by unfold FWr at q; show FRef a k; unfold FRef; omega)
    refine MO.line (σ1 := σ1) (σ2 := σ2) h a2 a3 a4 (a7.mono fun a k q => Or.inr (by have q1 := q.1; have q2 := q.2; omega)) (e4.now hl4 hW a5 a7 a6) e2 e3 Fm (e4.wf hW hl g k2) (e4.same hl4) ?_ (hc _ _ a1) (hm σ1 s4 _ σ2 hM1 b1 (by rw [b3]; exact e1))
    rw [e5.1 _ _ (by unfold FWr; omega), b4.1 _ _ (by unfold FLay FCmp; omega), i_si_same]
  · obtain ⟨s0, a1, a2⟩ := rw_big h hl4 ht g
    have hM0 := (h.fr a2).1.2.2
    have hM7 : Mw (ms_si s0 493 7 0) 494 w := hM0.fr (Fr.si (P := fun a _ => a = 493) _ _ rfl) (by intros; omega)
    obtain ⟨s4, b1, b2, b3, b4⟩ := m_layT hW hM7 hl4 ht
    refine MO.ref h (σ1 := s0) (σ2 := s4) a2 ((fr7 s0 0).trans (b4.mono fun a k q => by unfold FLay FCmp at q; unfold FScr; omega)) ?_ (hc _ _ a1) (hm s0 s4 _ s4 hM0 b1 (by rw [b3]; exact m_becomeB g (by omega)))
    rw [b4.1 _ _ (by unfold FLay FCmp; omega), i_si_same]
theorem q_decompose {p n b : Nat} {H : Nat → Nat → Nat} {S : Nat → Nat} (h : InvM σ w p n H b S) (x : Int32) : MO σ w b S (f_X10_decompose σ 0 x) (fun s => f_X12_decompose s 493 x) := by
  obtain ⟨z, z1, z2, rfl⟩ := iZ_of x
  have h4 := h.1.1.2.2.1
  by_cases q : 0 ≤ z ∧ z ≤ (w 1 : Int) - 1
  · obtain ⟨l, rfl⟩ : ∃ l : Nat, z = (l : Int) := ⟨z.toNat, by omega⟩
    refine q_rew h (l := l) (t := 1) (by omega) (Or.inl rfl) (fun v s e => ?_) (fun s s4 v s5 hM e1 e2 => ?_)
    · have e' : f_X10_rewrite σ 0 (iZ (l : Int)) 1 = some (v, s) := e
      unfold f_X10_decompose
      rw [needLine_s h.1 z1 z2, btT q, e', b2_s]
    · have hn := m_noLine hM h4 (z := (l : Int)) (by omega) (by omega)
      rw [lnE0 q] at hn
      rw [if_pos rfl] at e1 e2
      have e2' : f_X12_become s4 493 (iZ (l : Int)) 501 (ms_i s4 493 11) = some (v, s5) := e2
      show f_X12_decompose s 493 (iZ (l : Int)) = _
      unfold f_X12_decompose
      rw [hn, b2_s, if_pos rfl, e1, Option.bind_some, m_rf10, e2', b2_s]
  · refine MO.bad h 0 1 rfl (Fr.refl _ _) (Fr.refl _ _) ?_ ?_
    · unfold f_X10_decompose
      rw [needLine_s h.1 z1 z2, btF q]
    · show f_X12_decompose σ 493 (iZ z) = _
      unfold f_X12_decompose
      rw [m_noLineF h.1 z1 z2 q, b2_s, if_neg (by decide)]
theorem q_compose {p n b : Nat} {H : Nat → Nat → Nat} {S : Nat → Nat} (h : InvM σ w p n H b S) (x : Int32) : MO σ w b S (f_X10_compose σ 0 x) (fun s => f_X12_compose s 493 x) := by
  obtain ⟨z, z1, z2, rfl⟩ := iZ_of x
  have h4 := h.1.1.2.2.1
  by_cases q : 0 ≤ z ∧ z ≤ (w 1 : Int) - 1
  · obtain ⟨l, rfl⟩ : ∃ l : Nat, z = (l : Int) := ⟨z.toNat, by omega⟩
    refine q_rew h (l := l) (t := 2) (by omega) (Or.inr rfl) (fun v s e => ?_) (fun s s4 v s5 hM e1 e2 => ?_)
    · have e' : f_X10_rewrite σ 0 (iZ (l : Int)) 2 = some (v, s) := e
      unfold f_X10_compose
      rw [needLine_s h.1 z1 z2, btT q, e', b2_s]
    · have hn := m_noLine hM h4 (z := (l : Int)) (by omega) (by omega)
      rw [lnE0 q] at hn
      rw [if_neg (by decide)] at e1 e2
      have e2' : f_X12_become s4 493 (iZ (l : Int)) 502 (ms_i s4 493 15) = some (v, s5) := e2
      show f_X12_compose s 493 (iZ (l : Int)) = _
      unfold f_X12_compose
      rw [hn, b2_s, if_pos rfl, e1, Option.bind_some, m_rf13, e2', b2_s]
  · refine MO.bad h 0 1 rfl (Fr.refl _ _) (Fr.refl _ _) ?_ ?_
    · unfold f_X10_compose
      rw [needLine_s h.1 z1 z2, btF q]
    · show f_X12_compose σ 493 (iZ z) = _
      unfold f_X12_compose
      rw [m_noLineF h.1 z1 z2 q, b2_s, if_neg (by decide)]
end Re
