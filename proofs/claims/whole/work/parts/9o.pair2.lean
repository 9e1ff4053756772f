/-! a pair is read, whole -/
section Pb
variable {σ τ : MsSt} {B w N : Nat → Nat} {E n : Nat}
theorem ShC.frq {σ' : MsSt} {m : Nat} (h : ShC σ n) (hF : Fr (FQ (140 + 2 + 3 * m)) σ σ') : ShC σ' n :=
  ⟨(hF.1 _ _ (by unfold FQ FTc; omega)).trans h.1, h.2.1, fun q hq => by
    obtain ⟨c, c1, c2⟩ := h.2.2 q hq
    refine ⟨c, c1, (hF.1 _ _ ?_).trans c2⟩
    rcases hq with ⟨s, hs, rfl⟩ | rfl <;> (unfold FQ FTc; omega)⟩
theorem sc_frq {σ' : MsSt} {P : Nat → Nat → Prop} (h : ScRep σ 140 w n) (hF : Fr P σ σ') (hp : ∀ a k, a = 140 ∨ (142 ≤ a ∧ a < 142 + 3 * n) → ¬ P a k) : ScRep σ' 140 w n :=
  ⟨(hF.1 _ _ (hp _ _ (Or.inl rfl))).trans h.1, fun s hs => (h.2 s hs).frD hF (fun b k b1 b2 => hp _ _ (by omega))⟩
theorem tk_any {q q1 : Nat} (hq : SgA q) (hq1 : SgA q1) (hne : q1 ≠ q) (hSh : ShC σ n) : ∃ s', f_X5_takeOver σ (q + 1) (q1 + 1) = some s' ∧ (∃ L : List Int, Rw cI s' (q + 1) 6 L) ∧ Fr (In (q + 1) (q + 1 + 2)) σ s' := by
  obtain ⟨-, r1, r2, r3⟩ := sgA_row hq
  obtain ⟨-, u1, u2, u3⟩ := sgA_row hq1
  obtain ⟨c, c1, c2⟩ := hSh.2.2 q1 hq1
  obtain ⟨L, l1, l2⟩ := row_any u1 c2 c1
  obtain ⟨s', a1, a2, a3⟩ := takeOver_s r1 l1 (by
    rcases hq with ⟨s, hs, rfl⟩ | rfl <;> rcases hq1 with ⟨t, ht, rfl⟩ | rfl <;> omega) (by omega)
  exact ⟨s', a1, ⟨L, a2⟩, a3⟩
theorem adp_any {q : Nat} (hq : SgA q) {L : List Int} (h : Rw cI σ (q + 1) 6 L) (x : Int32) : ∃ s', f_X7_addPart σ q x = some s' ∧ (∃ c : Nat, c ≤ 6 ∧ ms_i s' (q + 1) 1 = iZ (c : Int)) ∧ Fr (fun a j => (a = q ∧ j = 3) ∨ a = q + 1 ∨ a = q + 2) σ s' := by
  obtain ⟨r0, r1, r2, r3⟩ := sgA_row hq
  unfold f_X7_addPart
  rw [r0]
  by_cases g : L.length < 6
  · obtain ⟨s1, a1, a2, a3⟩ := add_s h g x.toInt
    have a1' : f_X5_add σ (q + 1) x = some s1 := by
      have e : iZ (cI x.toInt) = x := Int32.ofInt_toInt x
      rw [e] at a1
      exact a1
    refine ⟨ms_si s1 q 3 (ms_i s1 (q + 1) 1), by rw [a1', Option.bind_some, nm_s], ⟨L.length + 1, by omega, ?_⟩, (a3.mono fun a j g => by have g1 := g.1; have g2 := g.2; omega).trans (Fr.si _ _ (Or.inl ⟨rfl, rfl⟩))⟩
    rw [i_si_ne (Or.inl (by omega)), a2.cnt, List.length_append]
    rfl
  · have hl := h.2.1
    refine ⟨ms_si σ q 3 (ms_i σ (q + 1) 1), by rw [add_full h (by omega), Option.bind_some, nm_s], ⟨L.length, hl, ?_⟩, Fr.si _ _ (Or.inl ⟨rfl, rfl⟩)⟩
    rw [i_si_ne (Or.inl (by omega)), h.cnt]
theorem str_spare : StrIs 612 [115, 112, 97, 114, 101] ∧ StrIs 644 [115, 112, 97, 114, 101] := by unfold StrIs; decide +kernel
theorem m_acc {id : Nat} {b : Bool} (h : f_X12_isWord τ 493 id = some (b01 (b = true))) : (¬ b = true → f_X12_accept τ 493 id = some (0, τ)) ∧ (b = true → ms_i τ 493 32 = 0 → ∀ τ', f_X12_advance τ 493 = some τ' → f_X12_accept τ 493 id = some (1, τ')) := by
  unfold f_X12_accept
  rw [h, Option.bind_some]
  refine ⟨fun q => by rw [ibF q, bz_b, Option.bind_some, b01F q], fun q h32 τ' b2 => ?_⟩
  have b2' : f_X12_scan τ 493 = some τ' := by
    unfold f_X12_advance at b2
    rw [if_pos h32] at b2
    cases hh : f_X12_scan τ 493 with
    | none => rw [hh] at b2; cases b2
    | some t => rw [hh, Option.bind_some] at b2; exact b2
  rw [ibT q, b2', Option.bind_some, bz_b, Option.bind_some, b01T q]
theorem s_spare {q : Nat} (h : Sim σ τ B E) (hq : 142 ≤ q) : ∃ (sp : Nat) (s13 t13 : MsSt), sp ≤ 1 ∧ ((f_X9_isWord σ 1 612).bind fun v12 => if v12 = 0 then (f_X8_endSign σ 139).bind fun s13 => some s13 else ms_nm (ms_si σ q 13 1) fun s14 => (f_X9_advance s14 1).bind fun s15 => (f_X8_endSign s15 139).bind fun s16 => some s16) = ((f_X8_endSign s13 139).bind fun s => some s) ∧ f_X12_accept τ 493 644 = some (iZ (sp : Int), t13) ∧ Sim s13 t13 B E ∧ (okT s13 → okT σ) ∧ (ms_i σ q 13 = 0 → ms_i s13 q 13 = iZ (sp : Int)) ∧ Fr (fun a k => FTc a k ∨ (a = q ∧ k = 13)) σ s13 ∧ Fr FTm τ t13 := by
  obtain ⟨b, u1, u2, u3, -⟩ := s_word h str_spare.1 str_spare.2
  obtain ⟨m1, m2⟩ := m_acc u2
  rw [u1, Option.bind_some]
  by_cases g : b = true
  · have hk := u3 g
    have S2 : Sim (ms_si σ q 13 1) τ B E := h.fr (Fr.si (P := fun c _ => c = q) _ _ rfl) (Fr.refl (fun _ _ => False) _) (by intros; omega) (by intros; omega) (by intros; exact id) (by intros; exact id)
    obtain ⟨s13, t13, a1, a2, a3, a4, a5, a6⟩ := s_advance S2
    refine ⟨1, s13, t13, by omega, ?_, m2 g (h.m0.mpr hk) _ a2, a3, fun _ => hk, fun _ => ?_, (Fr.si (P := fun a k => FTc a k ∨ (a = q ∧ k = 13)) _ _ (Or.inr ⟨rfl, rfl⟩)).trans (a5.mono fun a k g => Or.inl g), a6⟩
    · rw [ibT g, nm_s, a1, Option.bind_some]
    · rw [ft_no a5 (by omega), i_si_same]
      rfl
  · exact ⟨0, σ, τ, by omega, by rw [ibF g], m1 g, h, id, fun h => h, Fr.refl _ _, Fr.refl _ _⟩
theorem s_pair {σ0 : MsSt} (ha : f_X9_advance σ0 1 = some σ) (hS : Sim σ τ B E) (hk : okT σ) (hD : DrR σ τ w N) (hSh : ShC σ (w 0)) (h39 : w 0 < 40) : ∃ σ' τ', f_X8_readPair σ0 139 = some σ' ∧ (f_X12_readPair τ 493 (iZ (w 0 : Int))).bind (fun s => f_X12_readSign_81 s 493) = some τ' ∧ Sim σ' τ' B E ∧ ShC σ' (w 0 + 1) ∧ (okT σ' → ∃ v N', DrR σ' τ' (asg w v) N') ∧ Fr FCd σ σ' ∧ Fr FMd τ τ' := by
  have l5 : ms_ln 495 = 527 := m_ln.2.1
  have hq : SgA (140 + 2 + 3 * w 0) := Or.inl ⟨w 0, h39, rfl⟩
  have hD0 := hD
  obtain ⟨⟨a0, a1⟩, a2, a3, a4, a5, a6, a7, a8, a9, rest⟩ := hD
  have ne : ∀ {s : MsSt} {a k j : Nat} {v : Int32}, j ≠ k → ms_i (ms_si s a k v) a j = ms_i s a j := fun h => i_si_ne (Or.inr h)
  have ne' : ∀ {s : MsSt} {a b k j : Nat} {v : Int32}, b ≠ a → ms_i (ms_si s a k v) b j = ms_i s b j := fun h => i_si_ne (Or.inl h)
  obtain ⟨x0, s4, t1, A1, A2, S1, K1, F1, G1⟩ := s_name hS hSh h39 (fun _ => ⟨a7 0 (by omega), a2, a3, a8⟩)
  obtain ⟨s5, B1, ⟨c1, c2, c3, c4⟩, R5, F5⟩ := c_begin (σ := s4) hq 2 x0
  have S5 : Sim s5 t1 B E := S1.fr F5 (Fr.refl (fun _ _ => False) _) (by intros; omega) (by intros; omega) (by intros; exact id) (by intros; exact id)
  have FB : Fr (fun a k => FTc a k ∨ a = 140 + 2 + 3 * w 0 ∨ (a = 140 + 2 + 3 * w 0 + 1 ∧ k = 1)) σ s5 := (F1.mono fun a k g => Or.inl g).trans (F5.mono fun a k g => Or.inr g)
  have Sh5 : ShC s5 (w 0) := by
    refine ⟨(FB.1 _ _ (by unfold FTc; omega)).trans a0, hSh.2.1, fun q hq' => ?_⟩
    obtain ⟨c, g1, g2⟩ := hSh.2.2 q hq'
    by_cases qe : q = 140 + 2 + 3 * w 0
    · refine ⟨0, by omega, ?_⟩
      rw [qe, R5.cnt]
      rfl
    · refine ⟨c, g1, ?_⟩
      have hd : q + 1 ≠ 140 + 2 + 3 * w 0 ∧ q + 1 ≠ 140 + 2 + 3 * w 0 + 1 ∧ q + 1 ≠ 140 + 2 + 3 * w 0 + 2 := by
        rcases hq' with ⟨s, hs, rfl⟩ | rfl <;> omega
      have hr := sgA_row hq'
      rw [FB.1 _ _ (by unfold FTc; omega)]
      exact g2
  have Sc5 : ScRep s5 140 w (w 0) := sc_frq ⟨a0, a1⟩ FB (by unfold FTc; intros; omega)
  have Nc5 : NmC s5 140 N (w 0) := fun s hs => (FB.1 _ _ (by unfold FTc; omega)).trans (a2 s hs)
  have M1 : Mw t1 495 w := a7.fr G1 (by unfold FTm; intros; omega)
  have Dm : ∀ s t, Fr (FQ (140 + 2 + 3 * w 0)) s5 s → Fr FTm t1 t → okT s5 → DrM s t w N := by
    intro s t hF hG ho
    obtain ⟨-, N', n1, n2, n3, n4⟩ := K1 ((ok_fr F5 (by omega)).mp ho)
    refine ⟨sc_frq Sc5 hF (by unfold FQ FTc; intros; omega), a9, M1.fr hG (by unfold FTm; intros; omega), fun r hr => (hF.1 _ _ (by unfold FQ FTc; omega)).trans (Nc5 r hr), a3, fun r k hr hk => ?_⟩
    rw [gt_no hG (by omega), n3 r k (by omega) hk, n1 _ (by omega)]
  obtain ⟨z1, y1, s6, t2, d1, d2, S6, K6, z11, z12, F6, G6⟩ := s_first S5 Sh5 (Dm s5 t1 (Fr.refl _ _) (Fr.refl _ _))
  have S7 : Sim (ms_si s6 (140 + 2 + 3 * w 0) 11 (iZ z1)) t2 B E := S6.fr (Fr.si (P := fun c _ => c = 140 + 2 + 3 * w 0) _ _ rfl) (Fr.refl (fun _ _ => False) _) (by intros; omega) (by intros; omega) (by intros; exact id) (by intros; exact id)
  have FA7 : Fr (FQ (140 + 2 + 3 * w 0)) s5 (ms_si s6 (140 + 2 + 3 * w 0) 11 (iZ z1)) := (fq_n F6).trans (fq_s _ _)
  obtain ⟨z2, y2, s8, t3, d3, d4, S8, K8, z21, z22, F8, G8⟩ := s_second S7 (Sh5.frq FA7) (z1 := z1) (y1 := y1) z11 z12 (fun ho => by
    obtain ⟨o5, p1, p2, -⟩ := K6 ((ok_si (by omega)).mp ho)
    exact ⟨Dm _ _ FA7 G6 o5, p2, p1⟩)
  have S9 : Sim (ms_si s8 (140 + 2 + 3 * w 0) 12 (iZ z2)) t3 B E := S8.fr (Fr.si (P := fun c _ => c = 140 + 2 + 3 * w 0) _ _ rfl) (Fr.refl (fun _ _ => False) _) (by intros; omega) (by intros; omega) (by intros; exact id) (by intros; exact id)
  have FA : Fr (FQ (140 + 2 + 3 * w 0)) s5 (ms_si s8 (140 + 2 + 3 * w 0) 12 (iZ z2)) := (FA7.trans (fq_n F8)).trans (fq_s _ _)
  have e11 : ms_i (ms_si s8 (140 + 2 + 3 * w 0) 12 (iZ z2)) (140 + 2 + 3 * w 0) 11 = iZ z1 := by rw [ne (by omega), ft_no F8 (by omega), i_si_same]
  have hq1 : ∃ q1, f_X6_told (ms_si s8 (140 + 2 + 3 * w 0) 12 (iZ z2)) 140 (iZ z1) = some q1 ∧ SgA q1 ∧ q1 ≠ 140 + 2 + 3 * w 0 ∧ (0 ≤ z1 → q1 = 140 + 2 + 3 * z1.toNat) := by
    by_cases g : z1 = -1
    · subst g
      exact ⟨140 + 131, told_none (Or.inr rfl), Or.inr rfl, by omega, fun h => by omega⟩
    · obtain ⟨s, rfl⟩ : ∃ s : Nat, z1 = (s : Int) := ⟨z1.toNat, by omega⟩
      exact ⟨_, told_s (a := 140) (Or.inr rfl) (by omega), Or.inl ⟨s, by omega, rfl⟩, by omega, fun _ => rfl⟩
  obtain ⟨q1, hq1a, hq1b, hq1c, hq1d⟩ := hq1
  obtain ⟨s10, T1, ⟨L, T2⟩, T3⟩ := tk_any hq hq1b hq1c (Sh5.frq FA)
  have e12 : ms_i s10 (140 + 2 + 3 * w 0) 12 = iZ z2 := by rw [T3.at (by omega), i_si_same]
  obtain ⟨s11, P1, ⟨c11, P2, P3⟩, P4⟩ := adp_any hq T2 (iZ z2)
  have FP : Fr (fun a k => (a = 140 + 2 + 3 * w 0 ∧ k = 3) ∨ a = 140 + 2 + 3 * w 0 + 1 ∨ a = 140 + 2 + 3 * w 0 + 2) (ms_si s8 (140 + 2 + 3 * w 0) 12 (iZ z2)) s11 := (T3.mono fun a k g => by have g1 := g.1; have g2 := g.2; omega).trans P4
  have S11 : Sim s11 t3 B E := S9.fr FP (Fr.refl (fun _ _ => False) _) (by intros; omega) (by intros; omega) (by intros; exact id) (by intros; exact id)
  obtain ⟨sp, s13, t13, sp1, U1, U2, S13, K13, U3, F13, G13⟩ := s_spare (q := 140 + 2 + 3 * w 0) S11 (by omega)
  have Mt : ∀ k, ms_i t13 495 k = ms_i τ 495 k := fun k => by rw [gt_no G13 (by omega), gt_no G8 (by omega), gt_no G6 (by omega), G1.1 _ _ (by unfold FTm; omega)]
  -- the reference's row then
  have S14 : Sim s13 (ms_si (ms_si (ms_si (ms_si t13 495 (247 + 7 * w 0 + 0) 2) 495 (247 + 7 * w 0 + 3) y1) 495 (247 + 7 * w 0 + 4) y2) 495 (247 + 7 * w 0 + 5) (iZ (sp : Int))) B E := S13.fr (Fr.refl (fun _ _ => False) _) ((((Fr.si (P := fun c _ => c = 495) _ _ rfl).trans (Fr.si _ _ rfl)).trans (Fr.si _ _ rfl)).trans (Fr.si _ _ rfl)) (by intros; exact id) (by intros; exact id) (by intros; omega) (by intros; omega)
  have e4 : ms_i s5 140 4 = iZ (w 0 : Int) := (FB.1 _ _ (by unfold FTc; omega)).trans a0
  have F13' : ∀ {a k}, a ≠ 1 → ¬ (a = 140 + 2 + 3 * w 0 ∧ k = 13) → ms_i s13 a k = ms_i s11 a k := fun g1 g2 => F13.1 _ _ (by unfold FTc; omega)
  have e13 : ms_i s13 140 4 = iZ (w 0 : Int) := by
    rw [F13' (by omega) (by omega), FP.1 _ _ (by omega), FA.1 _ _ (by unfold FQ FTc; omega)]
    exact e4
  have m14 : ms_i (ms_si (ms_si (ms_si (ms_si t13 495 (247 + 7 * w 0 + 0) 2) 495 (247 + 7 * w 0 + 3) y1) 495 (247 + 7 * w 0 + 4) y2) 495 (247 + 7 * w 0 + 5) (iZ (sp : Int))) 495 0 = iZ (w 0 : Int) := by
    rw [ne (by omega), ne (by omega), ne (by omega), ne (by omega), Mt]
    exact a7 0 (by omega)
  obtain ⟨σ', τ', B3, B4, S15, K15, e15, m15, F15, G15⟩ := s_endSign S14 e13 m14
  have A1' : f_X8_takeName σ 139 = some (x0, s4) := A1
  have ad : ∀ (t : MsSt) (f : Nat) (y : Int32), f < 7 → ms_ast t 495 (iZ (247 + 7 * (w 0 : Int) + (f : Int))) y = some (ms_si t 495 (247 + 7 * w 0 + f) y) := fun t f y hf => ast_z (by omega) (by omega) (by omega)
  have FE : Fr FCd σ σ' := ((((FB.mono fun a k g => by rcases g with g | g; exact Or.inl g; exact Or.inr (by omega)).trans (FA.mono fun a k g => by rcases g with g | g; exact Or.inl g; exact Or.inr (by omega))).trans (FP.mono fun a k g => Or.inr (by omega))).trans (F13.mono fun a k g => by rcases g with g | g; exact Or.inl g; exact Or.inr (by omega))).trans (F15.mono fun a k g => by rcases g with g | g; exact Or.inl g; exact Or.inr (by omega))
  have hrow : ∀ q, SgA q → ms_i σ' (q + 1) 1 = ms_i s11 (q + 1) 1 := fun q hq' => by
    have hr := sgA_row hq'
    have hd : q + 1 ≠ 140 + 2 + 3 * w 0 := by rcases hq' with ⟨s, hs, rfl⟩ | rfl <;> omega
    rw [F15.1 _ _ (by unfold FTc; omega), F13' (by omega) (by omega)]
  refine ⟨σ', τ', ?_, ?_, S15, ⟨e15, by omega, fun q hq' => ?_⟩, fun hok => ?_, FE, ?_⟩
  · unfold f_X8_readPair f_X8_beginSign
    rw [y_rf0, y_rf1, ha, Option.bind_some, a0, told_s (a := 140) (Or.inr rfl) (by omega), Option.bind_some, A1', b2_s, B1, Option.bind_some, b2_s, d1, b2_s, nm_s, i_si_same, d3, b2_s, nm_s, e11, hq1a, Option.bind_some, (sgA_row hq).1, (sgA_row hq1b).1, T1, Option.bind_some, e12, P1, Option.bind_some, U1, B3, Option.bind_some]
  · have ad0 : ∀ t y, ms_ast t 495 (iZ (247 + 7 * (w 0 : Int))) y = some (ms_si t 495 (247 + 7 * w 0 + 0) y) := fun t y => ast_z (by omega) (by omega) (by omega)
    have ad3 : ∀ t y, ms_ast t 495 (iZ (247 + 7 * (w 0 : Int) + 3)) y = some (ms_si t 495 (247 + 7 * w 0 + 3) y) := fun t y => ad t 3 y (by omega)
    have ad4 : ∀ t y, ms_ast t 495 (iZ (247 + 7 * (w 0 : Int) + 4)) y = some (ms_si t 495 (247 + 7 * w 0 + 4) y) := fun t y => ad t 4 y (by omega)
    have ad5 : ∀ t y, ms_ast t 495 (iZ (247 + 7 * (w 0 : Int) + 5)) y = some (ms_si t 495 (247 + 7 * w 0 + 5) y) := fun t y => ad t 5 y (by omega)
    rw [prRead, A2, Option.bind_some, d2, d4]
    unfold prB
    rw [U2, b2_s, m_rf1, of_0, Option.bind_some, ad0, Option.bind_some, of_3, Option.bind_some, ad3, Option.bind_some, of_4, Option.bind_some, ad4, Option.bind_some, of_5, Option.bind_some, ad5, ad5, Option.bind_some, Option.bind_some]
    have hsp : sp = 0 ∨ sp = 1 := by omega
    rcases hsp with rfl | rfl
    · rw [if_pos (show iZ ((0 : Nat) : Int) = 0 from rfl), Option.bind_some]
      exact B4
    · rw [if_neg (show ¬ iZ ((1 : Nat) : Int) = 0 from by decide), Option.bind_some]
      exact B4
  · rw [hrow q hq']
    by_cases qe : q = 140 + 2 + 3 * w 0
    · exact ⟨c11, P2, by rw [qe]; exact P3⟩
    · obtain ⟨c, g1, g2⟩ := Sh5.2.2 q hq'
      refine ⟨c, g1, ?_⟩
      have hr := sgA_row hq'
      have hd : q + 1 ≠ 140 + 2 + 3 * w 0 ∧ q + 1 ≠ 140 + 2 + 3 * w 0 + 1 ∧ q + 1 ≠ 140 + 2 + 3 * w 0 + 2 := by
        rcases hq' with ⟨s, hs, rfl⟩ | rfl <;> omega
      rw [FP.1 _ _ (by omega), FA.1 _ _ (by unfold FQ FTc; omega)]
      exact g2
  · have o11 := K13 (K15 hok)
    have o8 : okT s8 := (ok_si (by omega)).mp ((ok_fr FP (by omega)).mp o11)
    obtain ⟨o7, p1, p2, p3⟩ := K8 o8
    obtain ⟨o5, p4, p5, p6, p7⟩ := K6 ((ok_si (by omega)).mp o7)
    obtain ⟨-, N', n1, n2, n3, n4⟩ := K1 ((ok_fr F5 (by omega)).mp o5)
    obtain ⟨f1, rfl⟩ : ∃ f : Nat, z1 = (f : Int) := ⟨z1.toNat, by omega⟩
    obtain ⟨f2, rfl⟩ : ∃ f : Nat, z2 = (f : Int) := ⟨z2.toNat, by omega⟩
    rw [Int.toNat_natCast] at p3 p6 p7
    have hf1 : f1 < w 0 := by omega
    have hf2 : f2 < w 0 := by omega
    have hqe : q1 = 140 + 2 + 3 * f1 := by rw [hq1d p4, Int.toNat_natCast]
    -- the expansion
    have hr9 : Rw cN (ms_si s8 (140 + 2 + 3 * w 0) 12 (iZ (f2 : Int))) (q1 + 1) 6 (ex w f1) := by
      rw [hqe, show 140 + 2 + 3 * f1 + 1 = 140 + 3 + 3 * f1 from by omega]
      exact (Sc5.2 f1 hf1).2.2.2.1.fr FA (by unfold FQ FTc; omega) (by unfold FQ FTc; intros; omega)
    obtain ⟨s10', W1, W2, W3⟩ := takeOver_s (sgA_row hq).2.1 hr9 (by omega) (by omega)
    have hs10 : s10' = s10 := Option.some.inj (W1.symm.trans T1)
    rw [hs10] at W2
    obtain ⟨s11', V1, V2, V3, V4⟩ := c_addPart (x := f2) hq W2 (by omega)
    have hs11 : s11' = s11 := Option.some.inj (V1.symm.trans P1)
    rw [hs11] at V2 V3
    have M2 : Mw t13 495 w := fun k hk => (Mt k).trans (a7 k hk)
    have M3 := mw_up5 (i := 247 + 7 * w 0 + 0) (v := 2) (x := 2) M2 rfl
    have M4 := mw_up5 (i := 247 + 7 * w 0 + 3) M3 p5
    have M5 := mw_up5 (i := 247 + 7 * w 0 + 4) M4 p2
    have M6 := mw_up5 (i := 247 + 7 * w 0 + 5) (v := sp) M5 rfl
    have hz := rest.2.2.2.2
    have hnew : NewOK w (fun f => if f = 0 then 2 else if f = 3 then f1 else if f = 4 then f2 else if f = 5 then sp else 0) := by
      refine ⟨by show 2 ≤ 2; omega, fun g => absurd (show (2 : Nat) = 0 from g) (by omega), fun g => absurd (show (2 : Nat) = 1 from g) (by omega), fun _ => ⟨rfl, hf1, p6, hf2, p3, sp1⟩, fun _ => p7, fun g => absurd (show (2 : Nat) = 1 from g) (by omega)⟩
    have hcell : ∀ k, k ≠ 3 → k ≠ 13 → ms_i σ' (140 + 2 + 3 * w 0) k = ms_i (ms_si s8 (140 + 2 + 3 * w 0) 12 (iZ (f2 : Int))) (140 + 2 + 3 * w 0) k := fun k h1 h2 => by
      rw [F15.1 _ _ (by unfold FTc; omega), F13' (by omega) (by omega), FP.1 _ _ (by omega)]
    have h13 : ms_i s11 (140 + 2 + 3 * w 0) 13 = 0 := by
      rw [FP.1 _ _ (by omega), ne (by omega), ft_no F8 (by omega), ne (by omega), ft_no F6 (by omega)]
      exact c4
    refine ⟨fun f => if f = 0 then 2 else if f = 3 then f1 else if f = 4 then f2 else if f = 5 then sp else 0, N', hD0.add (u := uw (uw (uw (uw (uw w (247 + 7 * w 0 + 0) 2) (247 + 7 * w 0 + 3) f1) (247 + 7 * w 0 + 4) f2) (247 + 7 * w 0 + 5) sp) 0 (w 0 + 1)) h39 ?_ e15 hnew ?_ ?_ n1 (fun k hk => ?_) (fun k hk => ?_) (fun s k hs hk => ?_) n4⟩
    · exact ((((FB.mono fun a k g => by unfold FTc at g; unfold FSn; omega).trans (FA.mono fun a k g => by unfold FQ FTc at g; unfold FSn; omega)).trans (FP.mono fun a k g => by unfold FSn; omega)).trans (F13.mono fun a k g => by unfold FTc at g; unfold FSn; omega)).trans (F15.mono fun a k g => by unfold FTc at g; unfold FSn; omega)
    · have hex : ex (asg w (fun f => if f = 0 then 2 else if f = 3 then f1 else if f = 4 then f2 else if f = 5 then sp else 0)) (w 0) = ex w f1 ++ [f2] := by
        rw [as_exN a9 hnew]
        exact if_pos rfl
      unfold SgRep
      rw [as_KdN, as_ClN, as_sgFN (by omega), as_sgFN (by omega), as_sgFN (by omega), as_sgFN (by omega), hex]
      refine ⟨?_, ?_, ?_, ?_, fun g => absurd (show (2 : Nat) = 2 from rfl) g, fun g => absurd (show (2 : Nat) = 0 from g) (by omega), fun g => absurd (show (2 : Nat) = 1 from g) (by omega), fun _ => ⟨?_, ?_, ?_⟩⟩
      · rw [hcell 1 (by omega) (by omega), ne (by omega), ft_no F8 (by omega), ne (by omega), ft_no F6 (by omega), c1]
        rfl
      · rw [F15.1 _ _ (by unfold FTc; omega), F13' (by omega) (by omega), V3, List.length_append]
        rfl
      · rw [hcell 4 (by omega) (by omega), ne (by omega), ft_no F8 (by omega), ne (by omega), ft_no F6 (by omega), c3]
        rfl
      · have h1 := (V2.fr F13 (by unfold FTc; omega) (by unfold FTc; intros; omega)).fr F15 (by unfold FTc; omega) (by unfold FTc; intros; omega)
        rw [show 140 + 2 + 3 * w 0 + 1 = 140 + 3 + 3 * w 0 from by omega] at h1
        exact h1
      · rw [hcell 11 (by omega) (by omega), e11]
        rfl
      · rw [hcell 12 (by omega) (by omega), i_si_same]
        rfl
      · rw [F15.1 _ _ (by unfold FTc; omega), U3 h13]
        rfl
    · rw [hcell 2 (by omega) (by omega), ne (by omega), ft_no F8 (by omega), ne (by omega), ft_no F6 (by omega), c2, n2]
    · by_cases g : k = 0
      · rw [g, m15, uw_eq]
      · rw [uw_ne g, G15.1 _ _ (by unfold FTm; omega)]
        exact M6 k hk
    · by_cases g : k = 0
      · rw [g, uw_eq, as_0]
      · rw [uw_ne g]
        by_cases g2 : 247 + 7 * w 0 ≤ k ∧ k < 254 + 7 * w 0
        · obtain ⟨f, hf, rfl⟩ : ∃ f, f < 7 ∧ k = 247 + 7 * w 0 + f := ⟨k - (247 + 7 * w 0), by omega, by omega⟩
          rw [as_f hf]
          have : f = 0 ∨ f = 1 ∨ f = 2 ∨ f = 3 ∨ f = 4 ∨ f = 5 ∨ f = 6 := by omega
          rcases this with rfl | rfl | rfl | rfl | rfl | rfl | rfl
          · rw [uw_ne (by omega), uw_ne (by omega), uw_ne (by omega), uw_eq]; rfl
          · rw [uw_ne (by omega), uw_ne (by omega), uw_ne (by omega), uw_ne (by omega)]; exact hz _ (by omega)
          · rw [uw_ne (by omega), uw_ne (by omega), uw_ne (by omega), uw_ne (by omega)]; exact hz _ (by omega)
          · rw [uw_ne (by omega), uw_ne (by omega), uw_eq]; rfl
          · rw [uw_ne (by omega), uw_eq]; rfl
          · rw [uw_eq]; rfl
          · rw [uw_ne (by omega), uw_ne (by omega), uw_ne (by omega), uw_ne (by omega)]; exact hz _ (by omega)
        · rw [uw_ne (by omega), uw_ne (by omega), uw_ne (by omega), uw_ne (by omega)]
          unfold asg
          rw [if_neg g, if_neg g2]
    · rw [G15.1 _ _ (by unfold FTm; omega), ne' (by omega), ne' (by omega), ne' (by omega), ne' (by omega), gt_no G13 (by omega), gt_no G8 (by omega), gt_no G6 (by omega)]
      exact n3 s k hs hk
  · exact ((((((((md_g G1).trans (md_n G6)).trans (md_n G8)).trans (md_n G13)).trans (md_s _ _)).trans (md_s _ _)).trans (md_s _ _)).trans (md_s _ _)).trans (md_e G15)
end Pb
