/-! query -/
section Q9
variable {σ τ : MsSt} {B w : Nat → Nat} {E : Nat}
def finQ (l2 : Int32) (s9 : MsSt) : Option (Int32 × MsSt) := ms_b2 (f_X12_finish s9 493) fun v10 s11 => if v10 = 0 then f_X12_query_126 ms_fuel s11 493 l2 0 0 else some (((-1000000000) - (ms_i s11 493 32)), s11)
def tailQ (l2 : Int32) (s8 : MsSt) : Option (Int32 × MsSt) := if (ms_i s8 493 32) = 0 then if (ms_i s8 493 31) = 0 then f_X12_query_96 s8 493 l2 493 else f_X12_query_101 s8 493 l2 0 493 else f_X12_query_96 s8 493 l2 493
theorem tailQ_s {l2 : Int32} {s8 : MsSt} : tailQ l2 s8 = (f_X12_readAll_82 s8 493).bind (finQ l2) := by
  unfold tailQ f_X12_readAll_82 f_X12_query_96 f_X12_query_101
  by_cases g : ms_i s8 493 32 = 0
  · rw [if_pos g, if_pos g]
    by_cases g2 : ms_i s8 493 31 = 0
    · rw [if_pos g2, if_pos g2]
      cases f_X12_check s8 493 1 1 <;> rfl
    · rw [if_neg g2, if_neg g2]
      cases f_X12_check s8 493 0 1 <;> rfl
  · rw [if_neg g, if_neg g]
    cases f_X12_check s8 493 1 1 <;> rfl
def R46 (l2 : Int32) (t : MsSt) : Option (Int32 × MsSt) := (f_X12_advance t 493).bind fun s7 => (f_X12_compileTest (rec_X12_compileFactor 7) s7 493).bind fun s8 => tailQ l2 s8
theorem InvS.frZ {σ' : MsSt} {P : Nat → Nat → Prop} (h : InvS σ w) (hF : Fr P σ σ') (k1 : ∀ a k, 3 ≤ a → a < 139 → ¬ P a k) (k2 : ∀ k, ¬ P 494 k) : InvS σ' w := by
  obtain ⟨a1, a2, a3⟩ := h
  exact ⟨a1, a2.frG hF a1.1.1 k1, a3.fr hF k2⟩
def FQr : Nat → Nat → Prop := fun a k => FQp a k ∨ (a = 493 ∧ (k = 27 ∨ k = 34))
/-- what both answer -/
def AnsQ (s7 τ τ' : MsSt) (a b : Int32) : Prop := (okT s7 → b = a ∧ ms_i τ' 493 34 = ms_i s7 1 8) ∧ (¬ okT s7 → b = (-1000000000) - ms_i s7 1 7 ∧ ms_i τ' 493 34 = ms_i s7 1 8) ∧ ms_i τ' 493 27 = 0 ∧ LJ τ τ' ∧ ∀ a k, ¬ FQr a k → ms_i τ' a k = ms_i τ a k
theorem s_q46 (hS : Sim σ τ B E) (hE : E ≤ 200) (hQ : QE σ w) (h35 : ms_i τ 493 35 = 0) (hI : InvS τ w) {v l2 : Int32} (hv : okT σ → (v = 0 ↔ ¬ l2 = 0)) {s : Nat} (hC : okT σ → OkQ σ τ E [] s) : ∃ a s7 b τ', f_X4_readQuery_46 σ 276 v = some (a, s7) ∧ R46 l2 τ = some (b, τ') ∧ Fr FQc σ s7 ∧ AnsQ s7 τ τ' a b := by
  obtain ⟨k2, k60, klt⟩ := qL_ok hQ.1.1
  obtain ⟨s1, t1, a1, a2, a3, a4, a5, a6⟩ := s_advance hS
  have hQ1 : QE s1 w := hQ.fr a5 (fun a k g => Or.inl g)
  obtain ⟨s', hs'⟩ : ∃ s' : Nat, okT s1 → OkQ s1 t1 E [] s' := by
    by_cases hk : okT σ
    · obtain ⟨s', p1, p2, p3⟩ := (hC hk).adv hE hS hk a1 a6 (by unfold FTm; omega) (by unfold FTm; intros; omega)
      exact ⟨s', fun _ => p1⟩
    · exact ⟨0, fun g => absurd (a4.mp g) hk⟩
  obtain ⟨s2, t2, h, b1, b2, b3, b4, b5, b6, b7⟩ := par_test hE (par_rec hE 6 0 rfl) s1 t1 [] s' a3 hQ1 ((a6.1 _ _ (by unfold FTm; omega)).trans h35) (fun g => ⟨hs' g, Nat.zero_le _⟩)
  have b1' : f_X4_readTest (rec_X4_readFactor 7) s1 276 0 = some (h, s2) := b1
  have b2' : f_X12_compileTest (rec_X12_compileFactor 7) t1 493 = some t2 := b2
  obtain ⟨s3, t3, c1, c2, c3, c4, c5, c6⟩ := s_end b3
  obtain ⟨a, ha⟩ := ans_tot (σ := s3) v h
  have hcls : f_X4_readQuery_46 σ 276 v = ansC s3 v h := by
    unfold f_X4_readQuery_46 ansC
    rw [z_rf0, a1, Option.bind_some, b1', b2_s, c1, Option.bind_some]
  have F : Fr FQc σ s3 := ((a5.mono fun a k g => Or.inl g).trans b6).trans (c5.mono fun a k g => Or.inl g)
  have G : Fr FQp τ t3 := ((a6.mono fun a k g => Or.inl g).trans b7).trans (c6.mono fun a k g => Or.inl g)
  have href : R46 l2 τ = finQ l2 t3 := by
    unfold R46
    rw [a2, Option.bind_some, b2', Option.bind_some, tailQ_s, c2, Option.bind_some]
  by_cases hk : okT s3
  · have h32 : ms_i t3 493 32 = 0 := c3.m0.mpr hk
    obtain ⟨z1, c, s'', f, z2, z3, z4, z5⟩ := b4 (c4 hk)
    have H : Fr (fun a k => a = 493 ∧ (k = 27 ∨ k = 34)) t3 (ms_si (ms_si t3 493 27 0) 493 34 (-1)) := (Fr.si _ _ ⟨rfl, Or.inl rfl⟩).trans (Fr.si _ _ ⟨rfl, Or.inr rfl⟩)
    have hE2 := z2.2.1
    have z2c := z2.2.2.2
    rw [List.nil_append] at z2c
    have z2n : ms_i t2 493 40 = iZ (c.length : Int) := z2.2.2.1
    have hI4 : InvS (ms_si (ms_si t3 493 27 0) 493 34 (-1)) w := (hI.frZ G (by unfold FQp FTm; intros; omega) (by unfold FQp FTm; intros; omega)).frZ H (by intros; omega) (by intros; omega)
    obtain ⟨b, τ', d1, ⟨d2, dj⟩, d3, d4⟩ := m_places (l2 := l2) z4 hI4 (by rw [H.1 _ _ (by omega), c6.1 _ _ (by unfold FTm; omega)]; exact z2n) (by omega) ((z2c.eq _ _ fun k _ => c6.1 _ _ (by unfold FTm; omega)).eq _ _ fun k _ => H.1 _ _ (by omega))
    have hab : b = a := by
      by_cases q : l2 = 0
      · have hv0 : ¬ v = 0 := fun g => (hv (a4.mp z1)).mp g q
        rw [ans_many hv0 z5 k60] at ha
        rw [d3 q]
        exact (Prod.mk.inj (Option.some.inj ha)).1
      · have hv0 : v = 0 := (hv (a4.mp z1)).mpr q
        obtain ⟨d5, d6⟩ := d4 q
        rcases ans_first (σ := s3) hv0 z5 k60 with ⟨p, p1, p2, p3, p4⟩ | ⟨p1, p2⟩
        · rw [p4] at ha
          rw [d5 p p1 p2 p3]
          exact (Prod.mk.inj (Option.some.inj ha)).1
        · rw [p2] at ha
          rw [d6 p1]
          exact (Prod.mk.inj (Option.some.inj ha)).1
    obtain ⟨st, nx, kd, o1, o2, o3⟩ := c3.good hk
    refine ⟨a, s3, b, τ', hcls.trans ha, ?_, F, ⟨fun _ => ⟨hab, ?_⟩, fun g => absurd hk g, ?_, (LJ.of (H.2.trans G.2)).trans dj, fun x k hx => ?_⟩⟩
    · rw [href]
      unfold finQ
      rw [m_finOk h32, b2_s, if_pos rfl, d1]
    · rw [i_other d2, i_si_same, o2.2.2.2.2.2.1]
      rfl
    · rw [i_other d2, i_si_ne (Or.inr (by omega)), i_si_same]
    · unfold FQr at hx
      rw [i_other d2, H.1 _ _ (fun g => hx (Or.inr g)), G.1 _ _ (fun g => hx (Or.inl g))]
  · obtain ⟨c, p', o1, o2, o3, o4, ⟨o5, o6, o7⟩, o8, o9, -⟩ := c3.bad hk
    have hc0 := iZ_ne0 o1 o2
    have H : Fr (fun a k => a = 493 ∧ (k = 27 ∨ k = 34)) t3 (ms_si (ms_si t3 493 27 0) 493 34 (iZ (p' : Int))) := (Fr.si _ _ ⟨rfl, Or.inl rfl⟩).trans (Fr.si _ _ ⟨rfl, Or.inr rfl⟩)
    refine ⟨a, s3, (-1000000000) - iZ (c : Int), ms_si (ms_si t3 493 27 0) 493 34 (iZ (p' : Int)), hcls.trans ha, ?_, F, ⟨fun g => absurd g hk, fun _ => ⟨by rw [o6], by rw [i_si_same, o7]⟩, by rw [i_si_ne (Or.inr (by omega)), i_si_same], LJ.of (H.2.trans G.2), fun x k hx => ?_⟩⟩
    · rw [href]
      unfold finQ
      rw [m_finBad o8 o9 hc0, b2_s, if_neg hc0, H.1 _ _ (by omega), o8]
    · unfold FQr at hx
      rw [H.1 _ _ (fun g => hx (Or.inr g)), G.1 _ _ (fun g => hx (Or.inl g))]
def RQ (τ : MsSt) (x : Int32) : Option (Int32 × MsSt) := ms_nm (ms_si τ 493 40 0) fun s3 => (f_X12_startText s3 493 x).bind fun s4 => (f_X12_isWord s4 493 645).bind fun v5 => if v5 = 0 then (f_X12_isWord s4 493 646).bind fun v16 => if v16 = 0 then f_X12_query_69 s4 493 v5 0 493 else f_X12_query_64 s4 493 v5 493 else f_X12_query_64 s4 493 v5 493
theorem q69 {t : MsSt} {l2 t0 : Int32} : f_X12_query_69 t 493 l2 t0 493 = (f_X12_check t 493 t0 1).bind (R46 l2) := rfl
theorem c_query (hI : InvS σ w) (hE : E ≤ 200) (hB : ∀ k, k < E → B k < 256 ∧ ms_i σ 2 k = iZ (sB (B k))) (hM : ∀ k, k < E → ms_i σ 512 k = iZ (B k : Int)) : ∃ a s7, f_X4_readQuery σ 276 (iZ (E : Int)) = some (a, s7) ∧ Fr (fun a k => FTc a k ∨ (277 ≤ a ∧ a < 285)) σ s7 ∧ ∀ τ, (∀ k, k < E → ms_i τ 512 k = iZ (B k : Int)) → InvS τ w → ∃ b τ', RQ τ (iZ (E : Int)) = some (b, τ') ∧ AnsQ s7 τ τ' a b := by
  obtain ⟨st, nx, kd, t1, t2, -⟩ := tk_ex B (Nat.zero_le E)
  obtain ⟨s1, a1, a2, a3, a4⟩ := c_tell hI
  obtain ⟨s2, b1, b2, b3⟩ := c_tokens (σ := s1) (B := B) (by omega) (fun k hk => ⟨(hB k hk).1, (a4.at (by omega) _).trans (hB k hk).2⟩) t1 t2
  have F2 : Fr (fun a k => FTc a k ∨ (277 ≤ a ∧ a < 285)) σ s2 := (a4.mono fun a k g => Or.inr ⟨g.1, by have := g.2; omega⟩).trans (b3.mono fun a k g => Or.inl g)
  have hQ1 : QE s1 w := ⟨hI.fr (a4.mono fun a k g => by have g1 := g.1; have g2 := g.2; unfold FScr; omega), a2, a3⟩
  have hQ2 : QE s2 w := hQ1.fr b3 (fun a k g => Or.inl g)
  have hk : okT s2 := b2.2.2.2.2.1
  have joint : ∀ τ, (∀ k, k < E → ms_i τ 512 k = iZ (B k : Int)) → InvS τ w → ∃ a s7 b τ', f_X4_readQuery σ 276 (iZ (E : Int)) = some (a, s7) ∧ RQ τ (iZ (E : Int)) = some (b, τ') ∧ Fr FQc s2 s7 ∧ AnsQ s7 τ τ' a b := by
    intro τ hτ hIτ
    have G0 : Fr (fun a k => a = 493 ∧ k = 40) τ (ms_si τ 493 40 0) := Fr.si _ _ ⟨rfl, rfl⟩
    obtain ⟨u, d1, d2, d3, d4⟩ := m_start (τ := ms_si τ 493 40 0) (B := B) (by omega) (fun k hk => ⟨(hB k hk).1, (G0.1 _ _ (by omega)).trans (hτ k hk)⟩) t1 t2
    have S : Sim s2 u B E := Or.inl ⟨st, nx, kd, t2, b2, d2⟩
    have hIu : InvS u w := (hIτ.frZ G0 (by intros; omega) (by intros; omega)).frZ d3 (by intros; omega) (by intros; omega)
    have hst : st ≤ E := by have := t2.1; have := t2.2.1; omega
    have hO : OkQ s2 u E [] st := ⟨b2.2.1, hst, (d3.1 _ _ (by omega)).trans (i_si_same _ _ _ _), trivial⟩
    obtain ⟨bm, m1, m2, -, m3⟩ := s_word S str_many.1 str_many.2
    obtain ⟨bf, f1, f2, -, f3⟩ := s_word S str_first.1 str_first.2
    have em := m3 st nx kd t2 b2 d2
    have ef := f3 st nx kd t2 b2 d2
    have hboth : ¬ (bm = true ∧ bf = true) := by
      rintro ⟨g1, g2⟩
      rw [em] at g1
      rw [ef] at g2
      unfold wdB at g1 g2
      have h1 := of_decide_eq_true (Bool.and_eq_true_iff.mp g1).1
      have h2 := of_decide_eq_true (Bool.and_eq_true_iff.mp g2).1
      have h3 := h1.2
      have h4 := h2.2
      simp only [List.length_cons, List.length_nil] at h3 h4
      omega
    have frI : ∀ u' (t' : MsSt), (∀ a k, ¬ FQr a k → ms_i t' a k = ms_i u' a k) → (∀ a k, ¬ FQr a k → ms_i u' a k = ms_i τ a k) → ∀ a k, ¬ FQr a k → ms_i t' a k = ms_i τ a k := fun u' t' h1 h2 a k g => (h1 a k g).trans (h2 a k g)
    have uI : ∀ a k, ¬ FQr a k → ms_i u a k = ms_i τ a k := fun a k g => by
      unfold FQr FQp FTm at g
      rw [d3.1 _ _ (by omega), G0.1 _ _ (by omega)]
    have hRQ : RQ τ (iZ (E : Int)) = if bf = true then R46 (b01 (bf = true)) u else if bm = true then R46 (b01 (bf = true)) u else (f_X12_check u 493 0 1).bind (R46 (b01 (bf = true))) := by
      unfold RQ
      rw [nm_s, d1, Option.bind_some, f2, Option.bind_some, ib01]
      by_cases q : bf = true
      · rw [if_pos q, if_pos q]
        unfold f_X12_query_64
        rw [q69, m_check1, Option.bind_some]
      · rw [if_neg q, if_neg q, m2, Option.bind_some, ib01]
        by_cases q2 : bm = true
        · rw [if_pos q2, if_pos q2]
          unfold f_X12_query_64
          rw [q69, m_check1, Option.bind_some]
        · rw [if_neg q2, if_neg q2, q69]
    have hCls : f_X4_readQuery σ 276 (iZ (E : Int)) = if bm = true then f_X4_readQuery_46 s2 276 (b01 (bm = true)) else if bf = true then f_X4_readQuery_46 s2 276 (b01 (bm = true)) else (f_X9_fail s2 1 1).bind fun s11 => f_X4_readQuery_46 s11 276 (b01 (bm = true)) := by
      unfold f_X4_readQuery
      rw [a1, Option.bind_some, z_rf0, b1, Option.bind_some, m1, Option.bind_some, ib01]
      by_cases q : bm = true
      · rw [if_pos q, if_pos q]
      · rw [if_neg q, if_neg q, f1, Option.bind_some, ib01]
    by_cases q : bm = true ∨ bf = true
    · obtain ⟨a, s7, b, τ', e1, e2, e3, e4, e5, e6, ej, e7⟩ := s_q46 (v := b01 (bm = true)) (l2 := b01 (bf = true)) S hE hQ2 d4 hIu (fun _ => by
        rcases q with q | q
        · have : ¬ bf = true := fun g => hboth ⟨q, g⟩
          rw [b01T q, b01F this]
          exact ⟨fun g => absurd g (by decide), fun g => absurd rfl g⟩
        · have : ¬ bm = true := fun g => hboth ⟨g, q⟩
          rw [b01T q, b01F this]
          exact ⟨fun _ => by decide, fun _ => rfl⟩) (fun _ => hO)
      refine ⟨a, s7, b, τ', ?_, ?_, e3, e4, e5, e6, (LJ.of (d3.2.trans G0.2)).trans ej, frI u τ' e7 uI⟩
      · rw [hCls]
        rcases q with q | q
        · rw [if_pos q, e1]
        · rw [if_neg (fun g => hboth ⟨g, q⟩), if_pos q, e1]
      · rw [hRQ]
        rcases q with q | q
        · rw [if_neg (fun g => hboth ⟨q, g⟩), if_pos q, e2]
        · rw [if_pos q, e2]
    · have q1 : ¬ bm = true := fun g => q (Or.inl g)
      have q2 : ¬ bf = true := fun g => q (Or.inr g)
      obtain ⟨s3, u3, g1, g2, g3, g4, g5, g6⟩ := s_fail S (c := 1) (by omega) (by omega)
      have g1' : f_X9_fail s2 1 1 = some s3 := g1
      have g2' : f_X12_check u 493 0 1 = some u3 := g2
      obtain ⟨a, s7, b, τ', e1, e2, e3, e4, e5, e6, ej, e7⟩ := s_q46 (v := b01 (bm = true)) (l2 := b01 (bf = true)) (s := 0) g3 hE (hQ2.fr g5 (fun a k g => Or.inl g)) ((g6.1 _ _ (by unfold FTm; omega)).trans d4) (hIu.frZ g6 (by unfold FTm; intros; omega) (by unfold FTm; intros; omega)) (fun g => absurd g g4) (fun g => absurd g g4)
      refine ⟨a, s7, b, τ', ?_, ?_, (g5.mono fun a k g => Or.inl g).trans e3, e4, e5, e6, (LJ.of (g6.2.trans (d3.2.trans G0.2))).trans ej, frI u τ' (fun a k g => (e7 a k g).trans (g6.1 _ _ (fun x => g (Or.inl (Or.inl x))))) uI⟩
      · rw [hCls, if_neg q1, if_neg q2, g1', Option.bind_some, e1]
      · rw [hRQ, if_neg q2, if_neg q1, g2', Option.bind_some, e2]
  obtain ⟨a, s7, b0, τ0, c1, -, c3, -⟩ := joint σ hM hI
  refine ⟨a, s7, c1, F2.trans (c3.mono fun a k g => by rcases g with g | g; exact Or.inl g; exact Or.inr (by omega)), fun τ hτ hIτ => ?_⟩
  obtain ⟨a', s7', b, τ', d1, d2, d3, d4⟩ := joint τ hτ hIτ
  have e := Prod.mk.inj (Option.some.inj (d1.symm.trans c1))
  obtain ⟨e1, e2⟩ := e
  subst e1
  subst e2
  exact ⟨b, τ', d2, d4⟩
end Q9
