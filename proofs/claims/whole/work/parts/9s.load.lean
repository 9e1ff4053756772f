/-! load: both read the text -/
section Ld
variable {σ τ : MsSt} {B w N : Nat → Nat} {E : Nat}
theorem c_empty : ∃ σ', f_X6_empty σ 140 = some σ' ∧ ms_i σ' 140 4 = 0 ∧ ms_i σ' 140 5 = 0 ∧ ms_i σ' 140 6 = 0 ∧ (∀ l, l < 4 → Rw cN σ' (140 + 123 + 2 * l) 60 ([] : List Nat)) ∧ Fr (fun a k => (a = 140 ∧ 4 ≤ k) ∨ (263 ≤ a ∧ a < 271)) σ σ' := by
  obtain ⟨r0, r1, r2, r3, r4, r5⟩ := sc_refs (a := 140) (Or.inr rfl)
  unfold f_X6_empty
  refine lp0 (S := MsSt × Int32) (f := fun n t => f_X6_empty_2 n t.1 140 t.2) (Q := fun σ' => ms_i σ' 140 4 = 0 ∧ ms_i σ' 140 5 = 0 ∧ ms_i σ' 140 6 = 0 ∧ (∀ l, l < 4 → Rw cN σ' (140 + 123 + 2 * l) 60 ([] : List Nat)) ∧ Fr (fun a k => (a = 140 ∧ 4 ≤ k) ∨ (263 ≤ a ∧ a < 271)) σ σ')
    (fun i t => t.2 = iZ (i : Int) ∧ i ≤ 4 ∧ (∀ l, l < i → Rw cN t.1 (140 + 123 + 2 * l) 60 ([] : List Nat)) ∧ Fr (fun a k => (a = 140 ∧ 4 ≤ k) ∨ (263 ≤ a ∧ a < 271)) σ t.1) 4 (s := (σ, 0)) ⟨rfl, by omega, fun l hl => absurd hl (by omega), Fr.refl _ _⟩ (by omega) ?_ ?_
  · rintro i ⟨t, x⟩ ⟨hx, hi, hL, hF⟩ hlt
    dsimp only at hx hL hF ⊢
    subst hx
    left
    obtain ⟨s1, b1, b2, b3⟩ := clear_s (e := cN) (σ := t) (sc_line (a := 140) (Or.inr rfl) hlt).2
    refine ⟨(s1, iZ ((i + 1 : Nat) : Int)), ⟨rfl, by omega, fun l hl => ?_, hF.trans (b3.mono fun a k g => by have g1 := g.1; have g2 := g.2; omega)⟩, fun n' => ?_⟩
    · by_cases q : l = i
      · rw [q]; exact b2
      · exact (hL l (by omega)).away b3 (by omega)
    · show (if iZ (i : Int) < Int32.ofNat (ms_ln (ms_rf 140 1)) then _ else _) = _
      rw [r1, r5, iltT rfl (iZ_nat 4) (by omega) (by omega) (by omega), lineAt_s (a := 140) (Or.inr rfl) hlt, Option.bind_some, b1, Option.bind_some, i1, iZ_add]
      rfl
  · rintro ⟨t, x⟩ ⟨hx, hi, hL, hF⟩
    dsimp only at hx hL hF ⊢
    subst hx
    have G : Fr (fun a k => a = 140 ∧ 4 ≤ k) t (ms_si (ms_si (ms_si t 140 4 0) 140 5 0) 140 6 0) := ((Fr.si _ _ ⟨rfl, by omega⟩).trans (Fr.si _ _ ⟨rfl, by omega⟩)).trans (Fr.si _ _ ⟨rfl, by omega⟩)
    refine ⟨ms_si (ms_si (ms_si t 140 4 0) 140 5 0) 140 6 0, ⟨by rw [i_si_ne (Or.inr (by omega)), i_si_ne (Or.inr (by omega)), i_si_same], by rw [i_si_ne (Or.inr (by omega)), i_si_same], i_si_same _ _ _ _, fun l hl => (hL l hl).fr G (by omega) (by intros; omega), hF.trans (G.mono fun a k g => Or.inl g)⟩, fun n' => ?_⟩
    show (if iZ ((4 : Nat) : Int) < Int32.ofNat (ms_ln (ms_rf 140 1)) then _ else _) = _
    rw [r1, r5, iltF rfl (iZ_nat 4) (by omega) (by omega) (by omega), nm_s, nm_s, nm_s]
theorem c_tokens {st nx kd : Nat} (hE : E ≤ 900) (hB : ∀ k, k < E → B k < 256 ∧ ms_i σ 2 k = iZ (sB (B k))) (hT : Tk B E 0 st nx kd) (hO : TkOK B E st nx kd) : ∃ σ', f_X9_begin σ 1 (iZ (E : Int)) = some σ' ∧ GdC σ' B E st nx kd ∧ Fr FTc σ σ' := by
  have ne : ∀ {s : MsSt} {k j : Nat} {v : Int32}, j ≠ k → ms_i (ms_si s 1 k v) 1 j = ms_i s 1 j := fun q => i_si_ne (Or.inr q)
  have F : Fr FTc σ (ms_si (ms_si (ms_si (ms_si σ 1 2 (iZ (E : Int))) 1 4 0) 1 7 0) 1 8 (-1)) := (((Fr.si _ _ ⟨rfl, by omega⟩).trans (Fr.si _ _ ⟨rfl, by omega⟩)).trans (Fr.si _ _ ⟨rfl, by omega⟩)).trans (Fr.si _ _ ⟨rfl, by omega⟩)
  obtain ⟨σ', a1, a2, a3⟩ := c_advance (σ := ms_si (ms_si (ms_si (ms_si σ 1 2 (iZ (E : Int))) 1 4 0) 1 7 0) 1 8 (-1)) (p := 0) ⟨by rw [ne (by omega), ne (by omega), ne (by omega), i_si_same], hE, fun k hk => ⟨(hB k hk).1, (F.1 _ _ (by unfold FTc; omega)).trans (hB k hk).2⟩⟩ (by rw [ne (by omega), ne (by omega), i_si_same]; rfl) (by rw [ne (by omega), i_si_same]) (by rw [i_si_same]; rfl) hT hO
  refine ⟨σ', ?_, a2, F.trans (ft3c a3)⟩
  unfold f_X9_begin
  rw [nm_s, nm_s, nm_s, nm_s, a1, Option.bind_some]
def FMe : Nat → Nat → Prop := fun a k => FMd a k ∨ (a = 493 ∧ k = 35)
theorem m_start {st nx kd : Nat} (hE : E ≤ 900) (hB : ∀ k, k < E → B k < 256 ∧ ms_i τ 512 k = iZ (B k : Int)) (hT : Tk B E 0 st nx kd) (hO : TkOK B E st nx kd) : ∃ τ', f_X12_startText τ 493 (iZ (E : Int)) = some τ' ∧ GdM τ' B E st nx kd ∧ Fr (fun a k => a = 493 ∧ ((28 ≤ k ∧ k ≤ 33) ∨ k = 35)) τ τ' ∧ ms_i τ' 493 35 = 0 := by
  have ne : ∀ {s : MsSt} {k j : Nat} {v : Int32}, j ≠ k → ms_i (ms_si s 493 k v) 493 j = ms_i s 493 j := fun q => i_si_ne (Or.inr q)
  have F : Fr (fun a k => a = 493 ∧ ((28 ≤ k ∧ k ≤ 33) ∨ k = 35)) τ (ms_si (ms_si (ms_si (ms_si τ 493 28 (iZ (E : Int))) 493 29 0) 493 32 0) 493 35 0) := (((Fr.si _ _ ⟨rfl, by omega⟩).trans (Fr.si _ _ ⟨rfl, by omega⟩)).trans (Fr.si _ _ ⟨rfl, by omega⟩)).trans (Fr.si _ _ ⟨rfl, by omega⟩)
  obtain ⟨τ', a1, a2, a3⟩ := m_scan (τ := ms_si (ms_si (ms_si (ms_si τ 493 28 (iZ (E : Int))) 493 29 0) 493 32 0) 493 35 0) (p := 0) ⟨by rw [ne (by omega), ne (by omega), ne (by omega), i_si_same], hE, fun k hk => ⟨(hB k hk).1, (F.1 _ _ (by omega)).trans (hB k hk).2⟩⟩ (by rw [ne (by omega), ne (by omega), i_si_same]; rfl) (by rw [ne (by omega), i_si_same]) hT hO
  refine ⟨τ', ?_, a2, F.trans (a3.mono fun a k g => ⟨g.1, by have := g.2; omega⟩), (a3.1 _ _ (by unfold FS3; omega)).trans (i_si_same _ _ _ _)⟩
  unfold f_X12_startText
  rw [nm_s, nm_s, nm_s, nm_s, a1, Option.bind_some]
/-- the reference empties its draft -/
theorem m_zero {x : Int32} : ∃ t, Mw t 495 (fun _ => 0) ∧ Fr (fun a _ => a = 495) τ t ∧ f_X12_load_27 ms_fuel τ 493 x 0 = (f_X12_startText t 493 x).bind fun s3 => (f_X12_readAll s3 493).bind fun s4 => ms_b2 (f_X12_finish s4 493) fun v5 s6 => if v5 = 0 then (f_X12_copy s6 (ms_rf 493 1) 0 (ms_rf 493 0) 0).bind fun s7 => f_X12_load_86 ms_fuel s7 493 0 else some (((-10) - (ms_i s6 493 32)), s6) := by
  have l5 : ms_ln 495 = 527 := m_ln.2.1
  have i527 : (527 : Int32) = iZ 527 := rfl
  have key := lpe (S := MsSt × Int32) (f := fun n t => f_X12_load_27 n t.1 493 x t.2) (fun i t => t.2 = iZ (i : Int) ∧ i ≤ 527 ∧ (∀ k, k < i → ms_i t.1 495 k = 0) ∧ Fr (fun a _ => a = 495) τ t.1) 527 ?_ 527 0 (τ, 0) ms_fuel ⟨rfl, by omega, fun k hk => absurd hk (by omega), Fr.refl _ _⟩ (by omega) (show 527 < 100000 by omega)
  · obtain ⟨⟨t, y⟩, m, ⟨k1, k2, k3, k4⟩, k5⟩ := key
    dsimp only at k1 k3 k4 k5
    subst k1
    refine ⟨t, fun k hk => by rw [k3 k hk]; rfl, k4, k5.trans ?_⟩
    show (if iZ ((527 : Nat) : Int) < 527 then _ else _) = _
    rw [iltF rfl i527 (by omega) (by omega) (by omega)]
  · rintro i ⟨t, y⟩ ⟨h1, h2, h3, h4⟩ hlt
    dsimp only at h1 h3 h4 ⊢
    subst h1
    refine ⟨(ms_si t 495 i 0, iZ ((i + 1 : Nat) : Int)), ⟨rfl, by omega, fun k hk => ?_, h4.trans (Fr.si _ _ rfl)⟩, fun n' => ?_⟩
    · by_cases q : k = i
      · rw [q, i_si_same]
      · dsimp only
        rw [i_si_ne (Or.inr q)]
        exact h3 k (by omega)
    · show (if iZ (i : Int) < 527 then _ else _) = _
      rw [iltT rfl i527 (by omega) (by omega) (by omega), m_rf1, ast_iZ (by omega) (by omega), Option.bind_some, i1, iZ_add]
      rfl
/-- the text on both sides -/
theorem s_text (hS : Sim σ τ B E) (hk : okT σ) (hD : DrR σ τ w N) (hSh : ShC σ (w 0)) (h0 : w 0 = 0) (hz : ∀ k, 1 ≤ k → k < 247 → w k = 0) : ∃ σ' τ', f_X8_readText_17 ms_fuel σ 139 0 = some (ms_i σ' 1 7, σ') ∧ f_X12_readAll τ 493 = some τ' ∧ Sim σ' τ' B E ∧ (okT σ' → ∃ w' N', DrR σ' τ' w' N' ∧ w' 2 < w' 1) ∧ (∃ n, ShC σ' n) ∧ Fr FCd σ σ' ∧ Fr FMd τ τ' := by
  obtain ⟨s1, t1, a1, a2, a3, a4, ⟨n1, a5⟩, a6, a7⟩ := s_signs 40 0 ms_fuel ms_fuel σ τ w N (by omega) (show 40 < 100000 by omega) (show 41 < 100000 by omega) hS hk hD hSh h0 hz
  have a1' : f_X8_readText_17 ms_fuel σ 139 0 = f_X8_readText_93 s1 139 := a1
  obtain ⟨s2, t2, b1, b2, b3, b4, ⟨n2, b5⟩, b6, b7⟩ := s_body a3 a5 (fun o => by
    obtain ⟨w', N', g1, g2⟩ := a4 o
    exact ⟨w', N', g1, g2 1 (by omega) (by omega), g2 2 (by omega) (by omega)⟩)
  obtain ⟨s3, t3, c1, c2, c3, c4, c5, c6, c7⟩ := s_hand b3 b5 b4
  refine ⟨s3, t3, ?_, ?_, c3, fun o => c4 o, c5, (a6.trans b6).trans c6, (a7.trans b7).trans c7⟩
  · rw [a1', b1, c1]
  · unfold f_X12_readAll
    rw [a2, b2, c2]
theorem c_read (hE : E ≤ 900) (hB : ∀ k, k < E → B k < 256 ∧ ms_i σ 2 k = iZ (sB (B k))) (hM : ∀ k, k < E → ms_i σ 512 k = iZ (B k : Int)) (hd : DfR σ) : ∃ σ', f_X8_readText σ 139 (iZ (E : Int)) = some (ms_i σ' 1 7, σ') ∧ Fr FCd σ σ' ∧ (∃ n, ShC σ' n) ∧ ∀ τ, (∀ k, k < E → ms_i τ 512 k = iZ (B k : Int)) → ∃ τ', (f_X12_load_27 ms_fuel τ 493 (iZ (E : Int)) 0 = ms_b2 (f_X12_finish τ' 493) fun v5 s6 => if v5 = 0 then (f_X12_copy s6 (ms_rf 493 1) 0 (ms_rf 493 0) 0).bind fun s7 => f_X12_load_86 ms_fuel s7 493 0 else some (((-10) - (ms_i s6 493 32)), s6)) ∧ Sim σ' τ' B E ∧ (okT σ' → ∃ w' N', DrR σ' τ' w' N' ∧ w' 2 < w' 1) ∧ Fr FMe τ τ' := by
  obtain ⟨st, nx, kd, t1, t2, -⟩ := tk_ex B (Nat.zero_le E)
  obtain ⟨s1, a1, a2, a3, a4, a5, a6⟩ := c_empty (σ := σ)
  obtain ⟨s2, b1, b2, b3⟩ := c_tokens (σ := s1) (B := B) hE (fun k hk => ⟨(hB k hk).1, (a6.1 _ _ (by omega)).trans (hB k hk).2⟩) t1 t2
  have hF : Fr FCd σ s2 := (a6.mono fun a k g => Or.inr (by omega)).trans (fcd_t b3)
  have hSh : ShC s2 0 := by
    refine ⟨(ft_no b3 (by omega) _).trans a2, by omega, fun q hq => ?_⟩
    obtain ⟨c, c1, c2⟩ := hd q hq
    have hr := sgA_row hq
    refine ⟨c, c1, ?_⟩
    rw [ft_no b3 (by omega), a6.1 _ _ (by rcases hq with ⟨s, hs, rfl⟩ | rfl <;> omega)]
    exact c2
  have joint : ∀ τ, (∀ k, k < E → ms_i τ 512 k = iZ (B k : Int)) → ∃ σ' τ', f_X8_readText_17 ms_fuel s2 139 0 = some (ms_i σ' 1 7, σ') ∧ (f_X12_load_27 ms_fuel τ 493 (iZ (E : Int)) 0 = ms_b2 (f_X12_finish τ' 493) fun v5 s6 => if v5 = 0 then (f_X12_copy s6 (ms_rf 493 1) 0 (ms_rf 493 0) 0).bind fun s7 => f_X12_load_86 ms_fuel s7 493 0 else some (((-10) - (ms_i s6 493 32)), s6)) ∧ Sim σ' τ' B E ∧ (okT σ' → ∃ w' N', DrR σ' τ' w' N' ∧ w' 2 < w' 1) ∧ (∃ n, ShC σ' n) ∧ Fr FCd s2 σ' ∧ Fr FMe τ τ' := by
    intro τ hτ
    obtain ⟨t, c1, c2, c3⟩ := m_zero (τ := τ) (x := iZ (E : Int))
    obtain ⟨u, d1, d2, d3, -⟩ := m_start (τ := t) (B := B) hE (fun k hk => ⟨(hB k hk).1, (c2.1 _ _ (by omega)).trans (hτ k hk)⟩) t1 t2
    have hD : DrR s2 u (fun _ => 0) (fun _ => 0) := by
      refine ⟨⟨(ft_no b3 (by omega) _).trans a2, fun s hs => absurd hs (Nat.not_lt_zero _)⟩, fun s hs => absurd hs (Nat.not_lt_zero _), fun s hs => absurd hs (Nat.not_lt_zero _), fun l hl => ?_, (ft_no b3 (by omega) _).trans a3, (ft_no b3 (by omega) _).trans a4, fun k hk => (d3.1 _ _ (by omega)).trans (c1 k hk), fun s k hs => absurd hs (Nat.not_lt_zero _), ⟨Nat.zero_le _, fun s hs => absurd hs (Nat.not_lt_zero _), fun s t hs => absurd hs (Nat.not_lt_zero _)⟩, Nat.zero_le _, fun l hl => Nat.zero_le _, fun l hl h => rfl, fun l p hl hp => absurd hp (Nat.not_lt_zero _), fun k hk => rfl⟩
      show Rw cN s2 (140 + 123 + 2 * l) 60 ([] : List Nat)
      exact (a5 l hl).fr b3 (by unfold FTc; omega) (by unfold FTc; intros; omega)
    obtain ⟨σ', τ', e1, e2, e3, e4, e5, e6, e7⟩ := s_text (w := fun _ => 0) (N := fun _ => 0) (Or.inl ⟨st, nx, kd, t2, b2, d2⟩) b2.2.2.2.2.1 hD hSh rfl (fun _ _ _ => rfl)
    refine ⟨σ', τ', e1, ?_, e3, e4, e5, e6, ((c2.mono fun a k g => Or.inl (Or.inr (Or.inl g))).trans (d3.mono fun a k g => ?_)).trans (e7.mono fun a k g => Or.inl g)⟩
    · rw [c3, d1, Option.bind_some, e2, Option.bind_some]
    · rcases g.2 with q | q
      · exact Or.inl (Or.inl ⟨g.1, q⟩)
      · exact Or.inr ⟨g.1, q⟩
  obtain ⟨σ', τ0, c1, -, -, -, c5, c6, -⟩ := joint σ hM
  refine ⟨σ', ?_, hF.trans c6, c5, fun τ hτ => ?_⟩
  · unfold f_X8_readText
    rw [y_rf1, y_rf0, a1, Option.bind_some, b1, Option.bind_some, c1]
  · obtain ⟨σ'', τ', d1, d2, d3, d4, -, -, d7⟩ := joint τ hτ
    have e : σ'' = σ' := (Prod.mk.inj (Option.some.inj (d1.symm.trans c1))).2
    subst e
    exact ⟨τ', d2, d3, d4, d7⟩
end Ld
