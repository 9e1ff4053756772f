/-! query: a value -/
section Q3
variable {σ τ : MsSt} {B w : Nat → Nat} {E : Nat}
def pw : Nat → List Nat
  | 0 => [112, 108, 97, 99, 101]
  | 1 => [115, 105, 103, 110]
  | 2 => [107, 105, 110, 100]
  | 3 => [99, 108, 97, 115, 115]
  | 4 => [112, 97, 114, 116, 115]
  | _ => [99, 108, 117, 115, 116, 101, 114]
theorem str_p : ∀ i, i < 6 → StrIs (622 + i) (pw i) ∧ StrIs (635 + i) (pw i) := by
  unfold StrIs
  decide +kernel
theorem str_many : StrIs 619 [109, 97, 110, 121] ∧ StrIs 646 [109, 97, 110, 121] := by unfold StrIs; decide +kernel
theorem str_first : StrIs 620 [102, 105, 114, 115, 116] ∧ StrIs 645 [102, 105, 114, 115, 116] := by unfold StrIs; decide +kernel
theorem str_not : StrIs 621 [110, 111, 116] ∧ StrIs 647 [110, 111, 116] := by unfold StrIs; decide +kernel
theorem str_and : StrIs 628 [97, 110, 100] ∧ StrIs 648 [97, 110, 100] := by unfold StrIs; decide +kernel
theorem str_or : StrIs 629 [111, 114] ∧ StrIs 649 [111, 114] := by unfold StrIs; decide +kernel
theorem p_tab : ms_ln 514 = 6 ∧ ∀ i, i < 6 → ms_rf 514 i = 635 + i := by decide +kernel
def bq (σ : MsSt) (i : Nat) : Bool := decide (f_X9_isWord σ 1 (622 + i) = some 1)
theorem s_props (h : Sim σ τ B E) {i : Nat} (hi : i < 6) : f_X9_isWord σ 1 (622 + i) = some (b01 (bq σ i = true)) ∧ f_X12_isWord τ 493 (635 + i) = some (b01 (bq σ i = true)) ∧ (bq σ i = true → okT σ) := by
  obtain ⟨b, u1, u2, u3, -⟩ := s_word h (str_p i hi).1 (str_p i hi).2
  have e : bq σ i = b := by
    unfold bq
    rw [u1]
    cases b <;> decide
  rw [e]
  exact ⟨u1, u2, u3⟩
theorem m_prop (h : Sim σ τ B E) : ∃ j : Nat, j ≤ 6 ∧ f_X12_compileValue_30 ms_fuel τ 493 0 = f_X12_compileValue_58 τ 493 (iZ (j : Int)) ∧ (∀ t, t < j → bq σ t = false) ∧ (j < 6 → bq σ j = true) := by
  have gen : ∀ d i n, i + d = 6 → d < n → (∀ t, t < i → bq σ t = false) → ∃ j : Nat, j ≤ 6 ∧ f_X12_compileValue_30 n τ 493 (iZ (i : Int)) = f_X12_compileValue_58 τ 493 (iZ (j : Int)) ∧ (∀ t, t < j → bq σ t = false) ∧ (j < 6 → bq σ j = true) := by
    intro d
    induction d with
    | zero =>
      intro i n hi hn hb
      obtain ⟨m, rfl⟩ : ∃ m, n = m + 1 := ⟨n - 1, by omega⟩
      refine ⟨i, by omega, ?_, hb, fun g => absurd g (by omega)⟩
      show (if iZ (i : Int) < Int32.ofNat (ms_ln (ms_rf 493 37)) then _ else _) = _
      rw [m_rf37, p_tab.1, iltF rfl (iZ_nat 6) (by omega) (by omega) (by omega)]
    | succ d ih =>
      intro i n hi hn hb
      obtain ⟨m, rfl⟩ : ∃ m, n = m + 1 := ⟨n - 1, by omega⟩
      obtain ⟨u1, u2, u3⟩ := s_props h (i := i) (by omega)
      have hst : f_X12_compileValue_30 (m + 1) τ 493 (iZ (i : Int)) = if bq σ i = true then f_X12_compileValue_58 τ 493 (iZ (i : Int)) else f_X12_compileValue_30 m τ 493 (iZ ((i + 1 : Nat) : Int)) := by
        have l6 := p_tab.1
        show (if iZ (i : Int) < Int32.ofNat (ms_ln (ms_rf 493 37)) then _ else _) = _
        rw [m_rf37, l6, iltT rfl (iZ_nat 6) (by omega) (by omega) (by omega), ala_iZ (by omega) (by omega), p_tab.2 i (by omega), Option.bind_some, u2, Option.bind_some, ib01, i1, iZ_add]
        rfl
      by_cases g : bq σ i = true
      · exact ⟨i, by omega, by rw [hst, if_pos g], hb, fun _ => g⟩
      · obtain ⟨j, j1, j2, j3⟩ := ih (i + 1) m (by omega) (by omega) (fun t ht => by
          by_cases q : t = i
          · rw [q]; exact Bool.eq_false_iff.mpr g
          · exact hb t (by omega))
        exact ⟨j, j1, by rw [hst, if_neg g, j2], j3⟩
  exact gen 6 0 ms_fuel (by omega) (show 6 < 100000 by omega) (fun t ht => absurd ht (by omega))
theorem c_prop (h : Sim σ τ B E) {j : Nat} (hj : j ≤ 6) (h1 : ∀ t, t < j → bq σ t = false) (h2 : j < 6 → bq σ j = true) : f_X4_propertyAhead σ 276 = some (iZ (if j < 6 then (j : Int) else -1)) := by
  have u : ∀ i, i < 6 → f_X9_isWord σ 1 (622 + i) = some (b01 (bq σ i = true)) := fun i hi => (s_props h hi).1
  have u0 : f_X9_isWord σ 1 622 = some (b01 (bq σ 0 = true)) := u 0 (by omega)
  have u1 : f_X9_isWord σ 1 623 = some (b01 (bq σ 1 = true)) := u 1 (by omega)
  have u2 : f_X9_isWord σ 1 624 = some (b01 (bq σ 2 = true)) := u 2 (by omega)
  have u3 : f_X9_isWord σ 1 625 = some (b01 (bq σ 3 = true)) := u 3 (by omega)
  have u4 : f_X9_isWord σ 1 626 = some (b01 (bq σ 4 = true)) := u 4 (by omega)
  have u5 : f_X9_isWord σ 1 627 = some (b01 (bq σ 5 = true)) := u 5 (by omega)
  have nf : ∀ t, t < j → ¬ bq σ t = true := fun t ht => Bool.eq_false_iff.mp (h1 t ht)
  unfold f_X4_propertyAhead
  rw [z_rf0, u0, Option.bind_some]
  by_cases g0 : j = 0
  · subst g0
    rw [ibT (h2 (by omega))]; rfl
  · rw [ibF (nf 0 (by omega)), u1, Option.bind_some]
    by_cases g1 : j = 1
    · subst g1
      rw [ibT (h2 (by omega))]; rfl
    · rw [ibF (nf 1 (by omega)), u2, Option.bind_some]
      by_cases g2 : j = 2
      · subst g2
        rw [ibT (h2 (by omega))]; rfl
      · rw [ibF (nf 2 (by omega)), u3, Option.bind_some]
        by_cases g3 : j = 3
        · subst g3
          rw [ibT (h2 (by omega))]; rfl
        · rw [ibF (nf 3 (by omega)), u4, Option.bind_some]
          by_cases g4 : j = 4
          · subst g4
            rw [ibT (h2 (by omega))]; rfl
          · rw [ibF (nf 4 (by omega)), u5, Option.bind_some]
            by_cases g5 : j = 5
            · subst g5
              rw [ibT (h2 (by omega))]; rfl
            · rw [ibF (nf 5 (by omega)), if_neg (by omega)]; rfl
def FVc (r : Nat) : Nat → Nat → Prop := fun a k => FTc a k ∨ (r ≤ a ∧ a < r + 2)
theorem QE.fr {σ' : MsSt} {P : Nat → Nat → Prop} (h : QE σ w) (hF : Fr P σ σ') (hp : ∀ a k, P a k → FTc a k ∨ (281 ≤ a ∧ a < 285)) : QE σ' w := by
  obtain ⟨a1, a2, a3⟩ := h
  have hF' : Fr (fun a k => FTc a k ∨ (281 ≤ a ∧ a < 285)) σ σ' := hF.mono hp
  exact ⟨a1.fr (hF'.mono fun a k g => by unfold FTc at g; unfold FScr; omega), a2.fr hF' (by unfold FTc; omega) (by unfold FTc; intros; omega), a3.fr hF' (by unfold FTc; omega) (by unfold FTc; intros; omega)⟩
theorem s_value {r : Nat} (hr : r = 281 ∨ r = 283) (hS : Sim σ τ B E) (hE : E ≤ 200) (hQ : QE σ w) {C : List Int} {s : Nat} (hC : okT σ → OkQ σ τ E C s ∧ C.length ≤ s) : ∃ σ' τ' V, f_X4_readValue σ 276 r = some σ' ∧ f_X12_compileValue τ 493 = some τ' ∧ Sim σ' τ' B E ∧ Rw cI σ' r 60 (upTo V (qL w).length) ∧ (okT σ' → okT σ ∧ (∀ k, k < (qL w).length → 0 ≤ V k ∧ V k < 100000) ∧ ∃ (c : List Int) (s' : Nat), OkQ σ' τ' E (C ++ c) s' ∧ s + c.length ≤ s' ∧ RunsV w c (fun k => jZ (V k))) ∧ Fr (FVc r) σ σ' ∧ Fr FQm τ τ' := by
  obtain ⟨k2, k60, klt⟩ := qL_ok hQ.1.1
  have hrow : RowAt r 60 := by rcases hr with rfl | rfl; exact z_row.2.2.1; exact z_row.2.2.2
  obtain ⟨s1, a1, a2, a3⟩ := clear_s (e := cI) (σ := σ) hrow
  have inF : ∀ {t t' : MsSt}, Fr (In r (r + 2)) t t' → Fr (FVc r) t t' := fun h => h.mono fun a k g => Or.inr ⟨g.1, g.2⟩
  have ftF : ∀ {t t' : MsSt}, Fr FTc t t' → Fr (FVc r) t t' := fun h => h.mono fun a k g => Or.inl g
  have gtF : ∀ {t t' : MsSt}, Fr FTm t t' → Fr FQm t t' := fun h => h.mono fun a k g => Or.inl g
  have emF : ∀ {t t' : MsSt}, Fr (fun a k => a = 515 ∨ (a = 493 ∧ k = 40)) t t' → Fr FQm t t' := fun h => h.mono fun a k g => by rcases g with g | g; exact Or.inr (Or.inl g); exact Or.inr (Or.inr ⟨g.1, Or.inr g.2⟩)
  have vQ : ∀ a k, FVc r a k → FTc a k ∨ (281 ≤ a ∧ a < 285) := fun a k g => by
    rcases g with g | g
    · exact Or.inl g
    · exact Or.inr (by omega)
  have rowS : ∀ {t t' u : MsSt}, Sim t u B E → Fr (In r (r + 2)) t t' → Sim t' u B E := fun h hF => h.fr hF (Fr.refl (fun _ _ => False) _) (by intro k _ g; have g1 := g.1; have g2 := g.2; omega) (by intro k g; have g1 := g.1; have g2 := g.2; omega) (by intros; exact id) (by intros; exact id)
  have rowK : ∀ {t t' : MsSt}, Fr (In r (r + 2)) t t' → (okT t' ↔ okT t) := fun {t t'} hF => by
    unfold okT
    rw [hF.at (by omega)]
  have S1 := rowS hS a3
  have K1 := rowK a3
  have hQ1 : QE s1 w := hQ.fr (inF a3) vQ
  have hC1 : okT s1 → OkQ s1 τ E C s ∧ C.length ≤ s := fun o => ⟨(hC (K1.mp o)).1.fr a3 (Fr.refl (fun _ _ => False) _) (by intro g; have g1 := g.1; have g2 := g.2; omega) id (by intros; exact id), (hC (K1.mp o)).2⟩
  unfold f_X4_readValue
  rw [a1, Option.bind_some, z_rf0]
  by_cases hk : okT s1
  · obtain ⟨st, nx, kd, q1, q2, q3⟩ := S1.good hk
    have h32 : ms_i τ 493 32 = 0 := S1.m0.mpr hk
    have hkd := q1.2.2.1
    obtain ⟨hO, hCs⟩ := hC1 hk
    have hsE := hO.2.1
    by_cases g : kd = 2
    · subst g
      have c5 : ms_i s1 1 5 = 2 := q2.2.2.2.1
      have m31 : ms_i τ 493 31 = 2 := q3.2.2.2.1
      obtain ⟨x, y, s2, t2, b1, b2, b3, b4, b5, b6⟩ := s_number S1 (lo := 0) (hi := 9999) (by omega) (by omega)
      have b1' : f_X9_takeNumber s1 1 0 9999 = some (x, s2) := b1
      have b2' : f_X12_readNumber τ 493 0 9999 = some (y, t2) := b2
      obtain ⟨X, X1, X2, rfl⟩ := iZ_of x
      have R2 : Rw cI s2 r 60 ([] : List Int) := a2.fr b5 (by unfold FTc; omega) (by unfold FTc; intros; omega)
      obtain ⟨s3, c1, c2, c3⟩ := c_fill hr hQ1.2.1 k60 R2 (b5.mono fun a k g => by unfold FTc at g; omega) X
      have S3 := rowS b3 c3
      by_cases hk2 : okT s2
      · obtain ⟨-, v, v1, v2, v3, v4⟩ := b4 hk2
        have eX : X = (v : Int) := by
          rw [iZ_eq (by omega) (by omega) (by omega) (by omega)] at v1
          exact v1
        obtain ⟨s', p1, p2, p3⟩ := hO.adv hE S1 hk (num_pos S1 hk b1' hk2) b6 (by unfold FTm; omega) (by unfold FTm; intros; omega)
        have p4 := p3 (by rw [c5]; decide)
        have p5 := p1.2.1
        obtain ⟨t3, d1, d2, d3⟩ := m_emitOk p1 (b3.m0.mpr hk2) (by omega) (v : Int)
        refine ⟨s3, t3, fun _ => X, ?_, ?_, S3.fr (Fr.refl (fun _ _ => False) _) d3 (by intros; exact id) (by intros; exact id) (by intros; omega) (by intros; omega), c2, fun _ => ⟨K1.mp hk, fun k hk' => ⟨show (0 : Int) ≤ X by omega, show X < 100000 by omega⟩, [(v : Int)], s', d2.fr c3 (Fr.refl (fun _ _ => False) _) (by intro g; have g1 := g.1; have g2 := g.2; omega) id (by intros; exact id), p4, ?_⟩, ((inF a3).trans (ftF b5)).trans (inF c3), (gtF b6).trans (emF d3)⟩
        · rw [if_pos c5, b1', b2_s, c1]
        · unfold f_X12_compileValue
          rw [if_pos h32, if_pos m31, b2', b2_s, v2, d1, Option.bind_some]
        · rw [eX]
          exact rv_num (by omega)
      · refine ⟨s3, t2, fun _ => X, ?_, ?_, S3, c2, fun o => absurd ((rowK c3).mp o) hk2, ((inF a3).trans (ftF b5)).trans (inF c3), gtF b6⟩
        · rw [if_pos c5, b1', b2_s, c1]
        · unfold f_X12_compileValue
          rw [if_pos h32, if_pos m31, b2', b2_s, m_emitBad (fun g => hk2 (b3.m0.mp g)), Option.bind_some]
    · have c5 : ¬ ms_i s1 1 5 = 2 := by
        rw [q2.2.2.2.1]
        intro e
        have e' : iZ (kd : Int) = iZ 2 := e
        rw [iZ_eq (by omega) (by omega) (by omega) (by omega)] at e'
        omega
      have m31 : ¬ ms_i τ 493 31 = 2 := by
        rw [q3.2.2.2.1]
        intro e
        have e' : iZ (kd : Int) = iZ 2 := e
        rw [iZ_eq (by omega) (by omega) (by omega) (by omega)] at e'
        omega
      obtain ⟨j, j1, j2, j3, j4⟩ := m_prop S1
      have hp := c_prop S1 j1 j3 j4
      rw [if_neg c5, hp, Option.bind_some]
      by_cases gj : j < 6
      · obtain ⟨s2, c1, c2, c3⟩ := c_fillP hr hQ1 a2 (i := (j : Int)) (by omega) (by omega)
        have S2 := rowS S1 c3
        obtain ⟨t1, d1, d2, d3⟩ := m_emitOk hO h32 (by
          have hw : f_X9_isWord s1 1 (622 + j) = some 1 := by rw [(s_props S1 gj).1, b01T (j4 gj)]
          have hne := word_kd hw
          have : kd ≠ 0 := fun q => hne (by rw [q2.2.2.2.1, q]; rfl)
          have h1 := q1.2.2.2.2.2.2 this
          have h2 := q1.2.1
          have es : s = st := by
            have := hO.1.symm.trans q2.2.1
            rw [iZ_eq (by omega) (by omega) (by omega) (by omega)] at this
            omega
          omega) (-1 - (j : Int))
        have S2' : Sim s2 t1 B E := S2.fr (Fr.refl (fun _ _ => False) _) d3 (by intros; exact id) (by intros; exact id) (by intros; omega) (by intros; omega)
        obtain ⟨s3, t3, f1, f2, f3, f4, f5, f6⟩ := s_advance S2'
        have K2 := rowK c3
        have d2' : OkQ s2 t1 E (C ++ [-1 - (j : Int)]) s := d2.fr c3 (Fr.refl (fun _ _ => False) _) (by intro g; have g1 := g.1; have g2 := g.2; omega) id (by intros; exact id)
        obtain ⟨s', p1, p2, p3⟩ := d2'.adv hE S2' (K2.mpr hk) f1 f6 (by unfold FTm; omega) (by unfold FTm; intros; omega)
        have p4 := p3 (by
          rw [c3.at (by omega)]
          exact word_kd (id := 622 + j) (by rw [(s_props S1 gj).1, b01T (j4 gj)]))
        refine ⟨s3, t3, fun p => (pv w p (j : Int) : Int), ?_, ?_, f3, c2.fr f5 (by unfold FTc; omega) (by unfold FTc; intros; omega), fun _ => ⟨K1.mp hk, fun k hk' => ⟨show (0 : Int) ≤ (pv w k (j : Int) : Int) by omega, show (pv w k (j : Int) : Int) < 100000 by have := pv_bd hQ.1.1 hk' (i := (j : Int)); omega⟩, [-1 - (j : Int)], s', p1, p4, rv_prop gj⟩, ((inF a3).trans (inF c3)).trans (ftF f5), (emF d3).trans (gtF f6)⟩
        · rw [if_pos gj, ieqF (x := iZ (j : Int)) (y := -1) (a := (j : Int)) (b := -1) rfl rfl (by omega) (by omega) (by omega) (by omega) (by omega), c1, f1, Option.bind_some]
        · have e : (-1 : Int32) - iZ (j : Int) = iZ (-1 - (j : Int)) := by rw [show (-1 : Int32) = iZ (-1) from rfl, iZ_sub]
          unfold f_X12_compileValue
          rw [if_pos h32, if_neg m31, j2]
          unfold f_X12_compileValue_58 f_X12_compileValue_73
          rw [m_rf37, p_tab.1, iltT rfl (iZ_nat 6) (by omega) (by omega) (by omega), m_check1, Option.bind_some, e, d1, Option.bind_some, f2, Option.bind_some]
      · have ej : j = 6 := by omega
        obtain ⟨s2, t2, b1, b2, b3, b4, b5, b6⟩ := s_fail S1 (c := 1) (by omega) (by omega)
        have b1' : f_X9_fail s1 1 1 = some s2 := b1
        have b2' : f_X12_check τ 493 0 1 = some t2 := b2
        have hQ2 : QE s2 w := hQ1.fr (ftF b5) vQ
        have R2 : Rw cI s2 r 60 ([] : List Int) := a2.fr b5 (by unfold FTc; omega) (by unfold FTc; intros; omega)
        obtain ⟨s3, c1, c2, c3⟩ := c_fillP hr hQ2 R2 (i := -1) (by omega) (by omega)
        have c1' : f_X4_readValue_72 ms_fuel s2 276 r (-1) 0 = (f_X9_advance s3 1).bind (fun s => some s) := c1
        have S3 := rowS b3 c3
        obtain ⟨s4, t4, f1, f2, f3, f4, f5, f6⟩ := s_advance S3
        have hk3 : ¬ okT s3 := fun o => b4 ((rowK c3).mp o)
        have hh : ¬ ms_i t2 493 32 = 0 := fun g => b4 (b3.m0.mp g)
        refine ⟨s4, t4, fun p => (pv w p (-1) : Int), ?_, ?_, f3, c2.fr f5 (by unfold FTc; omega) (by unfold FTc; intros; omega), fun o => absurd (f4.mp o) hk3, (((inF a3).trans (ftF b5)).trans (inF c3)).trans (ftF f5), (gtF b6).trans (gtF f6)⟩
        · rw [if_neg gj, show iZ (-1) = (-1 : Int32) from rfl, if_pos rfl, b1', Option.bind_some, c1', f1, Option.bind_some]
        · unfold f_X12_compileValue
          rw [if_pos h32, if_neg m31, j2]
          unfold f_X12_compileValue_58 f_X12_compileValue_73
          rw [m_rf37, p_tab.1, iltF rfl (iZ_nat 6) (by omega) (by omega) (by omega), b2', Option.bind_some, m_emitBad hh, Option.bind_some, f2, Option.bind_some]
  · have h0 : ms_i s1 1 5 = 0 := bad_kd S1 hk
    have h32 : ¬ ms_i τ 493 32 = 0 := fun g => hk (S1.m0.mp g)
    have c5 : ¬ ms_i s1 1 5 = 2 := by rw [h0]; decide
    have nb : ∀ t, t < 6 → bq s1 t = false := fun t ht => Bool.eq_false_iff.mpr fun g => hk ((s_props S1 ht).2.2 g)
    have hp : f_X4_propertyAhead s1 276 = some (-1) := by
      rw [c_prop S1 (Nat.le_refl 6) nb (fun g => absurd g (by omega)), if_neg (by omega)]
      rfl
    obtain ⟨s2, tx, b1, bx, b3, b4, b5, b6⟩ := s_fail S1 (c := 1) (by omega) (by omega)
    have b1' : f_X9_fail s1 1 1 = some s2 := b1
    obtain ⟨-, s2', g1, g2⟩ := s_stuck b3 b4
    subst g2
    obtain ⟨x, y, u2, t2, n1, n2, n3, n4, n5, n6⟩ := s_number S1 (lo := 0) (hi := 9999) (by omega) (by omega)
    have n1' : f_X9_takeNumber s1 1 0 9999 = some (x, u2) := n1
    have n2' : f_X12_readNumber τ 493 0 9999 = some (y, t2) := n2
    have et : f_X9_takeNumber s1 1 0 9999 = some (ms_i s2' 1 6, s2') := by
      unfold f_X9_takeNumber
      rw [if_neg c5, b1', Option.bind_some, g1, Option.bind_some]
    have eu : u2 = s2' := (Prod.mk.inj (Option.some.inj (n1'.symm.trans et))).2
    subst eu
    have hQ2 : QE u2 w := hQ1.fr (ftF b5) vQ
    have R2 : Rw cI u2 r 60 ([] : List Int) := a2.fr b5 (by unfold FTc; omega) (by unfold FTc; intros; omega)
    obtain ⟨s3, c1, c2, c3⟩ := c_fillP hr hQ2 R2 (i := -1) (by omega) (by omega)
    have c1' : f_X4_readValue_72 ms_fuel u2 276 r (-1) 0 = (f_X9_advance s3 1).bind (fun s => some s) := c1
    have S3 := rowS n3 c3
    have hk3 : ¬ okT s3 := fun o => b4 ((rowK c3).mp o)
    obtain ⟨-, s4, f1, f2⟩ := s_stuck S3 hk3
    subst f2
    have hh : ¬ ms_i t2 493 32 = 0 := fun g => b4 (n3.m0.mp g)
    refine ⟨s4, t2, fun p => (pv w p (-1) : Int), ?_, ?_, S3, c2, fun o => absurd o hk3, ((inF a3).trans (ftF b5)).trans (inF c3), gtF n6⟩
    · rw [if_neg c5, hp, Option.bind_some, if_pos rfl, b1', Option.bind_some, c1', f1, Option.bind_some]
    · unfold f_X12_compileValue
      rw [if_neg h32, n2', b2_s, m_emitBad hh, Option.bind_some]
end Q3
