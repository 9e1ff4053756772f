/-! query: a factor, and how deep they lie -/
section Q7
variable {σ τ : MsSt} {B w : Nat → Nat} {E : Nat}
theorem not_b (b : Bool) : (1 : Int64) - (if b = true then 1 else 0) = if (!b) = true then 1 else 0 := by cases b <;> decide
theorem chk_bad (h32 : ¬ ms_i τ 493 32 = 0) (v c : Int32) : f_X12_check τ 493 v c = some τ := by
  unfold f_X12_check f_X12_flaw
  by_cases g : v = 0
  · rw [if_pos g, if_neg h32, Option.bind_some]
  · rw [if_neg g]
theorem adv_bad (h32 : ¬ ms_i τ 493 32 = 0) : f_X12_advance τ 493 = some τ := by
  unfold f_X12_advance
  rw [if_neg h32]
theorem exp_bad (h : Sim σ τ B E) (hk : ¬ okT σ) : f_X12_expect τ 493 41 = some τ := by
  have h32 : ¬ ms_i τ 493 32 = 0 := fun g => hk (h.m0.mp g)
  obtain ⟨b, u1, u2, u3⟩ := s_symbol h (c := 41) (by omega)
  have u2' : f_X12_isSymbol τ 493 41 = some (b01 (b = true)) := u2
  unfold f_X12_expect
  rw [u2', Option.bind_some, chk_bad h32, Option.bind_some, adv_bad h32, Option.bind_some]
theorem nest_fr {x : Int32} : Fr FQp τ (ms_si τ 493 35 x) := Fr.si _ _ (Or.inr (Or.inr ⟨rfl, Or.inl rfl⟩))
theorem nest_sim {x : Int32} (h : Sim σ τ B E) : Sim σ (ms_si τ 493 35 x) B E := h.fr (Fr.refl (fun _ _ => False) _) (Fr.si (P := fun a k => a = 493 ∧ k = 35) _ _ ⟨rfl, rfl⟩) (by intros; exact id) (by intros; exact id) (by intros; omega) (by intros; omega)
theorem nest_ok {x : Int32} {C : List Int} {s : Nat} (h : OkQ σ τ E C s) : OkQ σ (ms_si τ 493 35 x) E C s := h.fr (Fr.refl (fun _ _ => False) _) (Fr.si (P := fun a k => a = 493 ∧ k = 35) _ _ ⟨rfl, rfl⟩) id (by omega) (by intros; omega)
theorem s_enter {d s : Nat} {C : List Int} (hE : E ≤ 200) (hS : Sim σ τ B E) (hk : okT σ) (hd : ms_i τ 493 35 = iZ (d : Int)) (hd6 : d < 6) (hC : OkQ σ τ E C s) (hne : ms_i σ 1 5 ≠ 0) : ∃ s1 t1 s', f_X9_advance σ 1 = some s1 ∧ f_X12_enter τ 493 = some t1 ∧ Sim s1 t1 B E ∧ okT s1 ∧ ms_i t1 493 35 = iZ ((d + 1 : Nat) : Int) ∧ OkQ s1 t1 E C s' ∧ s + 1 ≤ s' ∧ Fr FTc σ s1 ∧ Fr FQp τ t1 := by
  have e : iZ (d : Int) + 1 = iZ ((d + 1 : Nat) : Int) := by rw [i1, iZ_add]; rfl
  obtain ⟨s1, t1, a1, a2, a3, a4, a5, a6⟩ := s_advance (nest_sim (x := iZ ((d + 1 : Nat) : Int)) hS)
  obtain ⟨s', p1, p2, p3⟩ := (nest_ok (x := iZ ((d + 1 : Nat) : Int)) hC).adv hE (nest_sim hS) hk a1 a6 (by unfold FTm; omega) (by unfold FTm; intros; omega)
  refine ⟨s1, t1, s', a1, ?_, a3, a4.mpr hk, (a6.1 _ _ (by unfold FTm; omega)).trans (i_si_same _ _ _ _), p1, p3 hne, a5, nest_fr.trans (a6.mono fun a k g => Or.inl g)⟩
  unfold f_X12_enter f_X12_enter_15
  rw [iltT (y := 6) (b := 6) hd rfl (by omega) (by omega) (by omega), m_check1, Option.bind_some, hd, e, nm_s, a2, Option.bind_some]
theorem s_enter6 (hS : Sim σ τ B E) (hd : ms_i τ 493 35 = iZ ((6 : Nat) : Int)) : ∃ s1 t1, f_X9_fail σ 1 3 = some s1 ∧ f_X12_enter τ 493 = some t1 ∧ Sim s1 t1 B E ∧ ¬ okT s1 ∧ ms_i t1 493 35 = iZ ((7 : Nat) : Int) ∧ Fr FTc σ s1 ∧ Fr FQp τ t1 := by
  obtain ⟨s1, t1, a1, a2, a3, a4, a5, a6⟩ := s_fail hS (c := 3) (by omega) (by omega)
  have a1' : f_X9_fail σ 1 3 = some s1 := a1
  have a2' : f_X12_check τ 493 0 3 = some t1 := a2
  have S2 := nest_sim (x := iZ ((7 : Nat) : Int)) a3
  have hd1 : ms_i t1 493 35 = iZ ((6 : Nat) : Int) := (a6.1 _ _ (by unfold FTm; omega)).trans hd
  have e : iZ ((6 : Nat) : Int) + 1 = iZ ((7 : Nat) : Int) := by rw [i1, iZ_add]; rfl
  refine ⟨s1, ms_si t1 493 35 (iZ ((7 : Nat) : Int)), a1', ?_, S2, a4, i_si_same _ _ _ _, a5, (a6.mono fun a k g => Or.inl g : Fr FQp τ t1).trans nest_fr⟩
  unfold f_X12_enter f_X12_enter_15
  rw [iltF (y := 6) (b := 6) hd rfl (by omega) (by omega) (by omega), a2', Option.bind_some, hd1, e, nm_s, adv_bad (fun g => a4 (S2.m0.mp g)), Option.bind_some]
theorem par_factor {d : Nat} {rC rT : MsSt → Nat → Int32 → Option (Int64 × MsSt)} {rM rN : MsSt → Nat → Option MsSt} (hE : E ≤ 200) (hd6 : d ≤ 6) (hF : d < 6 → Par w B E (d + 1) (fun σ => rC σ 276 (iZ ((d + 1 : Nat) : Int))) (fun τ => rM τ 493)) (hT : d < 6 → Par w B E (d + 1) (fun σ => rT σ 276 (iZ ((d + 1 : Nat) : Int))) (fun τ => rN τ 493)) : Par w B E d (fun σ => f_X4_readFactor rC rT σ 276 (iZ (d : Int))) (fun τ => f_X12_compileFactor rM rN τ 493) := by
  intro σ τ C s hS hQ hd hC
  obtain ⟨k2, k60, klt⟩ := qL_ok hQ.1.1
  obtain ⟨bn, u1, u2, u3, -⟩ := s_word hS str_not.1 str_not.2
  obtain ⟨bp, v1, v2, v3⟩ := s_symbol hS (c := 40) (by omega)
  have v1' : f_X9_isSymbol σ 1 40 = some (b01 (bp = true)) := v1
  have v2' : f_X12_isSymbol τ 493 40 = some (b01 (bp = true)) := v2
  have ed : iZ (d : Int) + 1 = iZ ((d + 1 : Nat) : Int) := by rw [i1, iZ_add]; rfl
  have ed' : iZ ((d + 1 : Nat) : Int) - 1 = iZ (d : Int) := by rw [i1, iZ_sub]; congr 1; omega
  have emF : ∀ {t t' : MsSt}, Fr (fun a k => a = 515 ∨ (a = 493 ∧ k = 40)) t t' → Fr FQp t t' := fun h => h.mono fun a k g => by rcases g with g | g; exact Or.inr (Or.inl g); exact Or.inr (Or.inr ⟨g.1, Or.inr g.2⟩)
  dsimp only
  unfold f_X4_readFactor f_X12_compileFactor
  rw [z_rf0, u1, Option.bind_some, u2, Option.bind_some]
  by_cases qn : bn = true
  · -- not
    have hk := u3 qn
    obtain ⟨hO, hCs⟩ := hC hk
    have hne := word_kd (id := 621) (by rw [u1, b01T qn])
    rw [ibT qn, ibT qn]
    unfold f_X4_readFactor_31
    by_cases gd : d < 6
    · obtain ⟨s1, t1, s', a1, a2, a3, a4, a5, a6, a7, a8, a9⟩ := s_enter hE hS hk hd gd hO hne
      have hQ1 : QE s1 w := hQ.fr a8 (fun a k g => Or.inl g)
      obtain ⟨s2, t2, h2, b1, b2, b3, b4, b5, b6, b7⟩ := hF gd s1 t1 C s' a3 hQ1 a5 (fun _ => ⟨a6, by omega⟩)
      dsimp only at b1 b2
      have h32 : ms_i t1 493 32 = 0 := a3.m0.mpr a4
      have hall : f_X4_allPlaces s1 276 = some ((((1 : Int64) <<< ((iZ ((qL w).length : Int)).toInt64 &&& 63))) - 1) := by
        unfold f_X4_allPlaces
        rw [z_rf2, hQ1.2.1.cnt]
      by_cases hk2 : okT s2
      · obtain ⟨z1, c2, s'', f2, z2, z3, z4, z5⟩ := b4 hk2
        have z6 := z2.2.1
        obtain ⟨t3, g1, g2, g3⟩ := m_emitOk z2 (b3.m0.mpr hk2) (by rw [List.length_append]; omega) (-23)
        have g1' : f_X12_emit t2 493 (-23) = some t3 := g1
        have hd3 : ms_i t3 493 35 = iZ ((d + 1 : Nat) : Int) := (g3.1 _ _ (by omega)).trans b5
        refine ⟨s2, ms_si t3 493 35 (iZ (d : Int)), ((((1 : Int64) <<< ((iZ ((qL w).length : Int)).toInt64 &&& 63))) - 1) &&& (h2 ^^^ (-1)), ?_, ?_, nest_sim (b3.fr (Fr.refl (fun _ _ => False) _) g3 (by intros; exact id) (by intros; exact id) (by intros; omega) (by intros; omega)), fun _ => ⟨hk, c2 ++ [-23], s'', fun k => !f2 k, ?_, ?_, (rv_not z4).congr fun k _ => not_b (f2 k), mk_not z5 k60⟩, i_si_same _ _ _ _, (a8.mono fun a k g => Or.inl g).trans b6, ((a9.trans b7).trans (emF g3)).trans nest_fr⟩
        · rw [iltT (y := 6) (b := 6) rfl rfl (by omega) (by omega) (by omega), z_rf0, a1, Option.bind_some, ibT qn, hall, Option.bind_some, ed, b1, b2_s]
        · unfold f_X12_compileFactor_25
          rw [a2, Option.bind_some, if_pos h32, b2, Option.bind_some, g1', Option.bind_some, hd3, ed', nm_s]
        · rw [← List.append_assoc]
          exact nest_ok g2
        · rw [List.length_append]
          show s + (c2.length + 1) ≤ s''
          omega
      · have hh : ¬ ms_i t2 493 32 = 0 := fun g => hk2 (b3.m0.mp g)
        refine ⟨s2, ms_si t2 493 35 (iZ (d : Int)), ((((1 : Int64) <<< ((iZ ((qL w).length : Int)).toInt64 &&& 63))) - 1) &&& (h2 ^^^ (-1)), ?_, ?_, nest_sim b3, fun g => absurd g hk2, i_si_same _ _ _ _, (a8.mono fun a k g => Or.inl g).trans b6, (a9.trans b7).trans nest_fr⟩
        · rw [iltT (y := 6) (b := 6) rfl rfl (by omega) (by omega) (by omega), z_rf0, a1, Option.bind_some, ibT qn, hall, Option.bind_some, ed, b1, b2_s]
        · unfold f_X12_compileFactor_25
          rw [a2, Option.bind_some, if_pos h32, b2, Option.bind_some, m_emitBad hh, Option.bind_some, b5, ed', nm_s]
    · have e6 : d = 6 := by omega
      subst e6
      obtain ⟨s1, t1, a1, a2, a3, a4, a5, a6, a7⟩ := s_enter6 hS hd
      have hh : ¬ ms_i t1 493 32 = 0 := fun g => a4 (a3.m0.mp g)
      refine ⟨s1, ms_si t1 493 35 (iZ ((6 : Nat) : Int)), 0, ?_, ?_, nest_sim a3, fun g => absurd g a4, i_si_same _ _ _ _, a6.mono fun a k g => Or.inl g, a7.trans nest_fr⟩
      · rw [iltF (y := 6) (b := 6) rfl rfl (by omega) (by omega) (by omega), z_rf0, a1, Option.bind_some]
      · unfold f_X12_compileFactor_25
        rw [a2, Option.bind_some, if_neg hh, m_emitBad hh, Option.bind_some, a5, ed', nm_s]
  · rw [ibF qn, ibF qn, v1', Option.bind_some, v2', Option.bind_some]
    by_cases qp : bp = true
    · -- in brackets
      have hk := v3 qp
      obtain ⟨hO, hCs⟩ := hC hk
      have hne := sym_kd (c := 40) (by rw [v1', b01T qp])
      rw [ibT qp, ibT qp]
      unfold f_X4_readFactor_31
      by_cases gd : d < 6
      · obtain ⟨s1, t1, s', a1, a2, a3, a4, a5, a6, a7, a8, a9⟩ := s_enter hE hS hk hd gd hO hne
        have hQ1 : QE s1 w := hQ.fr a8 (fun a k g => Or.inl g)
        obtain ⟨s2, t2, h2, b1, b2, b3, b4, b5, b6, b7⟩ := hT gd s1 t1 C s' a3 hQ1 a5 (fun _ => ⟨a6, by omega⟩)
        dsimp only at b1 b2
        have h32 : ms_i t1 493 32 = 0 := a3.m0.mpr a4
        obtain ⟨s3, t3, c1, c2, c3, c4, c5, c6⟩ := s_expect b3 (c := 41) (by omega)
        have c1' : f_X9_takeSymbol s2 1 41 = some s3 := c1
        have c2' : f_X12_expect t2 493 41 = some t3 := c2
        have hd3 : ms_i t3 493 35 = iZ ((d + 1 : Nat) : Int) := (c6.1 _ _ (by unfold FTm; omega)).trans b5
        refine ⟨s3, ms_si t3 493 35 (iZ (d : Int)), h2, ?_, ?_, nest_sim c3, fun ok => ?_, i_si_same _ _ _ _, ((a8.mono fun a k g => Or.inl g).trans b6).trans (c5.mono fun a k g => Or.inl g), ((a9.trans b7).trans (c6.mono fun a k g => Or.inl g)).trans nest_fr⟩
        · rw [iltT (y := 6) (b := 6) rfl rfl (by omega) (by omega) (by omega), z_rf0, a1, Option.bind_some, ibF qn, ed, b1, b2_s, c1', Option.bind_some]
        · unfold f_X12_compileFactor_68
          rw [a2, Option.bind_some, if_pos h32, b2, Option.bind_some, c2', Option.bind_some, hd3, ed', nm_s]
        · have hk2 := c4 ok
          obtain ⟨z1, cc, s'', f2, z2, z3, z4, z5⟩ := b4 hk2
          obtain ⟨s''', p1, p2, p3⟩ := z2.adv hE b3 hk2 (sym_pos b3 c1' ok) c6 (by unfold FTm; omega) (by unfold FTm; intros; omega)
          exact ⟨hk, cc, s''', f2, nest_ok p1, by omega, z4, z5⟩
      · have e6 : d = 6 := by omega
        subst e6
        obtain ⟨s1, t1, a1, a2, a3, a4, a5, a6, a7⟩ := s_enter6 hS hd
        have hh : ¬ ms_i t1 493 32 = 0 := fun g => a4 (a3.m0.mp g)
        refine ⟨s1, ms_si t1 493 35 (iZ ((6 : Nat) : Int)), 0, ?_, ?_, nest_sim a3, fun g => absurd g a4, i_si_same _ _ _ _, a6.mono fun a k g => Or.inl g, a7.trans nest_fr⟩
        · rw [iltF (y := 6) (b := 6) rfl rfl (by omega) (by omega) (by omega), z_rf0, a1, Option.bind_some]
        · unfold f_X12_compileFactor_68
          rw [a2, Option.bind_some, if_neg hh, exp_bad a3 a4, Option.bind_some, a5, ed', nm_s]
    · -- a comparison
      obtain ⟨σ', τ', h, a1, a2, a3, a4, a5, a6⟩ := s_comparison rM rN hS hE hQ hC
      rw [ibF qp, ibF qp]
      refine ⟨σ', τ', h, ?_, a2, a3, a4, (a6.1 _ _ (by unfold FQm FTm; omega)).trans hd, a5, a6.mono fun a k g => by unfold FQm FTm at g; unfold FQp FTm; omega⟩
      rw [a1, b2_s]
theorem par_rec (hE : E ≤ 200) : ∀ (j d : Nat), d + (j + 1) = 7 → Par w B E d (fun σ => rec_X4_readFactor (j + 1) σ 276 (iZ (d : Int))) (fun τ => rec_X12_compileFactor (j + 1) τ 493) := by
  intro j
  induction j with
  | zero =>
    intro d hd
    exact par_factor (rC := rec_X4_readFactor 0) (rT := f_X4_readTest (rec_X4_readFactor 0)) (rM := rec_X12_compileFactor 0) (rN := f_X12_compileTest (rec_X12_compileFactor 0)) hE (by omega) (fun g => absurd g (by omega)) (fun g => absurd g (by omega))
  | succ j ih =>
    intro d hd
    exact par_factor (rC := rec_X4_readFactor (j + 1)) (rT := f_X4_readTest (rec_X4_readFactor (j + 1))) (rM := rec_X12_compileFactor (j + 1)) (rN := f_X12_compileTest (rec_X12_compileFactor (j + 1))) hE (by omega) (fun g => ih (d + 1) (by omega)) (fun g => par_test hE (ih (d + 1) (by omega)))
end Q7
