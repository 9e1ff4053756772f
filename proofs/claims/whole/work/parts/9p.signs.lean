/-! all signs of a text -/
section Sg
variable {σ τ : MsSt} {B w N : Nat → Nat} {E : Nat}
theorem fcd_t {σ' : MsSt} (h : Fr FTc σ σ') : Fr FCd σ σ' := h.mono fun a k g => Or.inl g
/-- what is seen ahead of a sign -/
theorem s_ahead (h : Sim σ τ B E) : ∃ b1 b2 b3 : Bool, f_X9_isWord σ 1 601 = some (b01 (b1 = true)) ∧ f_X9_isWord σ 1 602 = some (b01 (b2 = true)) ∧ f_X9_isWord σ 1 603 = some (b01 (b3 = true)) ∧ f_X12_isWord τ 493 630 = some (b01 (b1 = true)) ∧ f_X12_isWord τ 493 631 = some (b01 (b2 = true)) ∧ f_X12_isWord τ 493 632 = some (b01 (b3 = true)) ∧ f_X8_isSignAhead σ 139 = some (b01 ((b1 || (b2 || b3)) = true)) ∧ f_X12_isSignHere τ 493 = some (b01 ((b1 || (b2 || b3)) = true)) ∧ ((b1 || (b2 || b3)) = true → okT σ) := by
  obtain ⟨b1, u1, v1, w1, -⟩ := s_word h str_base.2.1 str_base.2.2
  obtain ⟨b2, u2, v2, w2, -⟩ := s_word h str_mark.2.1 str_mark.2.2
  obtain ⟨b3, u3, v3, w3, -⟩ := s_word h str_pair.2.1 str_pair.2.2
  refine ⟨b1, b2, b3, u1, u2, u3, v1, v2, v3, ?_, ?_, fun g => ?_⟩
  · unfold f_X8_isSignAhead
    rw [y_rf0, u1, u2, u3]
    cases b1 <;> cases b2 <;> cases b3 <;> rfl
  · unfold f_X12_isSignHere
    rw [v1, v2, v3]
    cases b1 <;> cases b2 <;> cases b3 <;> rfl
  · cases b1
    · cases b2
      · cases b3
        · exact absurd g (by decide)
        · exact w3 rfl
      · exact w2 rfl
    · exact w1 rfl
/-- behind an error no sign is ahead -/
theorem s_noSign (h : Sim σ τ B E) (hk : ¬ okT σ) : (∀ n x, f_X8_readText_17 (n + 1) σ 139 x = f_X8_readText_93 σ 139) ∧ ∀ n, f_X12_readAll_0 (n + 1) τ 493 = (f_X12_readLine τ 493).bind fun s15 => f_X12_readAll_25 ms_fuel s15 493 := by
  obtain ⟨b1, b2, b3, -, -, -, -, -, -, u7, u8, u9⟩ := s_ahead h
  have hb : ¬ (b1 || (b2 || b3)) = true := fun g => hk (u9 g)
  have h32 : ¬ ms_i τ 493 32 = 0 := fun g => hk (h.m0.mp g)
  refine ⟨fun n x => ?_, fun n => ?_⟩
  · have h78 : f_X8_readText_78 σ 139 = f_X8_readText_93 σ 139 := by
      unfold f_X8_readText_78
      rw [u7, Option.bind_some, ibF hb]
    show (if x < 40 then _ else _) = _
    by_cases g : x < 40
    · rw [if_pos g, u7, Option.bind_some, ibF hb, h78]
    · rw [if_neg g, h78]
  · show (if ms_i τ 493 32 = 0 then _ else _) = _
    rw [if_neg h32]
theorem m_sign0 (hw : Mw τ 495 w) : ms_ald τ 495 0 = some (iZ (w 0 : Int)) := mw_get (z := 0) (k := 0) hw (Or.inr rfl) rfl (by omega)
theorem i40 : (40 : Int32) = iZ 40 := rfl
/-- the reference begins a sign -/
theorem m_readSign (hw : Mw τ 495 w) (h32 : ms_i τ 493 32 = 0) (h39 : w 0 < 40) : f_X12_readSign τ 493 = ms_b2 (f_X12_accept τ 493 630) fun v4 s5 => if v4 = 0 then ms_b2 (f_X12_accept s5 493 631) fun v6 s7 => if v6 = 0 then (f_X12_expectWord s7 493 632).bind fun s8 => (f_X12_readPair s8 493 (iZ (w 0 : Int))).bind fun s9 => f_X12_readSign_81 s9 493 else (f_X12_readMark s7 493 (iZ (w 0 : Int))).bind fun s13 => f_X12_readSign_81 s13 493 else (f_X12_readBase s5 493 (iZ (w 0 : Int))).bind fun s14 => f_X12_readSign_81 s14 493 := by
  unfold f_X12_readSign f_X12_readSign_17
  rw [m_rf1, m_sign0 hw, Option.bind_some, iltT rfl i40 (by omega) (by omega) (by omega), m_check1, Option.bind_some, if_pos h32, m_sign0 hw, Option.bind_some]
theorem s_signs : ∀ (d i n n' : Nat) (σ τ : MsSt) (w N : Nat → Nat), i + d = 40 → d < n → d + 1 < n' → Sim σ τ B E → okT σ → DrR σ τ w N → ShC σ (w 0) → w 0 = i → (∀ k, 1 ≤ k → k < 247 → w k = 0) → ∃ σ' τ', f_X8_readText_17 n σ 139 (iZ (i : Int)) = f_X8_readText_93 σ' 139 ∧ f_X12_readAll_0 n' τ 493 = ((f_X12_readLine τ' 493).bind fun s15 => f_X12_readAll_25 ms_fuel s15 493) ∧ Sim σ' τ' B E ∧ (okT σ' → ∃ w' N', DrR σ' τ' w' N' ∧ ∀ k, 1 ≤ k → k < 247 → w' k = 0) ∧ (∃ n, ShC σ' n) ∧ Fr FCd σ σ' ∧ Fr FMd τ τ' := by
  intro d
  induction d with
  | zero =>
    intro i n n' σ τ w N hid hn hn' hS hk hD hSh hi hz
    obtain ⟨m, rfl⟩ : ∃ m, n = m + 1 := ⟨n - 1, by omega⟩
    obtain ⟨m', rfl⟩ : ∃ m, n' = m + 1 + 1 := ⟨n' - 2, by omega⟩
    obtain ⟨b1, b2, b3, -, -, -, -, -, -, u7, u8, u9⟩ := s_ahead hS
    have h32 := hS.m0.mpr hk
    have h17 : f_X8_readText_17 (m + 1) σ 139 (iZ (i : Int)) = f_X8_readText_78 σ 139 := by
      show (if iZ (i : Int) < 40 then _ else _) = _
      rw [iltF rfl i40 (by omega) (by omega) (by omega)]
    rw [h17]
    unfold f_X8_readText_78
    rw [u7, Option.bind_some]
    by_cases g : (b1 || (b2 || b3)) = true
    · obtain ⟨σ1, τ1, a1, a2, a3, a4, a5, a6⟩ := s_fail hS (c := 5) (by omega) (by omega)
      have a1' : f_X9_fail σ 1 5 = some σ1 := a1
      have a2' : f_X12_check τ 493 0 5 = some τ1 := a2
      have h32' : ¬ ms_i τ1 493 32 = 0 := fun g => a4 (a3.m0.mp g)
      refine ⟨σ1, τ1, ?_, ?_, a3, fun g => absurd g a4, ⟨_, hSh.fr a5 (by unfold FTc; intros; omega)⟩, fcd_t a5, md_n a6⟩
      · rw [ibT g, y_rf0, a1', Option.bind_some]
      · have hr : f_X12_readSign τ 493 = some τ1 := by
          unfold f_X12_readSign f_X12_readSign_17
          rw [m_rf1, m_sign0 hD.2.2.2.2.2.2.1, Option.bind_some, iltF rfl i40 (by omega) (by omega) (by omega), a2', Option.bind_some, if_neg h32']
        show (if ms_i τ 493 32 = 0 then _ else _) = _
        rw [if_pos h32, u8, Option.bind_some, ibT g, hr, Option.bind_some]
        exact (s_noSign a3 a4).2 m'
    · refine ⟨σ, τ, ?_, ?_, hS, fun _ => ⟨w, N, hD, hz⟩, ⟨_, hSh⟩, Fr.refl _ _, Fr.refl _ _⟩
      · rw [ibF g]
      · show (if ms_i τ 493 32 = 0 then _ else _) = _
        rw [if_pos h32, u8, Option.bind_some, ibF g]
  | succ d ih =>
    intro i n n' σ τ w N hid hn hn' hS hk hD hSh hi hz
    obtain ⟨m, rfl⟩ : ∃ m, n = m + 1 := ⟨n - 1, by omega⟩
    obtain ⟨m', rfl⟩ : ∃ m, n' = m + 1 := ⟨n' - 1, by omega⟩
    obtain ⟨b1, b2, b3, c1, c2, c3, e1, e2, e3, u7, u8, u9⟩ := s_ahead hS
    have h32 := hS.m0.mpr hk
    have h39 : w 0 < 40 := by omega
    have ei : iZ (i : Int) + 1 = iZ ((i + 1 : Nat) : Int) := by rw [i1, iZ_add]; rfl
    have hRS := m_readSign hD.2.2.2.2.2.2.1 h32 h39
    -- a sign is ahead: both are a token further
    obtain ⟨σ1, τ1, a1, a2, a3, a4, a5, a6⟩ := s_advance hS
    have hk1 := a4.mpr hk
    have hD1 : DrR σ1 τ1 w N := hD.fr a5 a6 (by unfold FTc; intros; omega) (by unfold FTm; intros; omega) (by unfold FTm; intros; omega)
    have hSh1 : ShC σ1 (w 0) := hSh.fr a5 (by unfold FTc; intros; omega)
    have go : ∀ σ2 τ2, Sim σ2 τ2 B E → ShC σ2 (w 0 + 1) → (okT σ2 → ∃ v N', DrR σ2 τ2 (asg w v) N') → Fr FCd σ1 σ2 → Fr FMd τ1 τ2 → ∃ σ' τ', f_X8_readText_17 m σ2 139 (iZ (i : Int) + 1) = f_X8_readText_93 σ' 139 ∧ f_X12_readAll_0 m' τ2 493 = ((f_X12_readLine τ' 493).bind fun s15 => f_X12_readAll_25 ms_fuel s15 493) ∧ Sim σ' τ' B E ∧ (okT σ' → ∃ w' N', DrR σ' τ' w' N' ∧ ∀ k, 1 ≤ k → k < 247 → w' k = 0) ∧ (∃ n, ShC σ' n) ∧ Fr FCd σ σ' ∧ Fr FMd τ τ' := by
      intro σ2 τ2 hS2 hSh2 hok hF hG
      rw [ei]
      by_cases hk2 : okT σ2
      · obtain ⟨v, N', hD2⟩ := hok hk2
        obtain ⟨σ', τ', g1, g2, g3, g4, g7, g5, g6⟩ := ih (i + 1) m m' σ2 τ2 (asg w v) N' (by omega) (by omega) (by omega) hS2 hk2 hD2 (by rw [as_0]; exact hSh2) (by rw [as_0]; omega) (fun k k1 k2 => by rw [as_lo k1 (by omega)]; exact hz k k1 k2)
        exact ⟨σ', τ', g1, g2, g3, g4, g7, ((fcd_t a5).trans hF).trans g5, ((md_n a6).trans hG).trans g6⟩
      · obtain ⟨m2, rfl⟩ : ∃ m2, m = m2 + 1 := ⟨m - 1, by omega⟩
        obtain ⟨m2', rfl⟩ : ∃ m2, m' = m2 + 1 := ⟨m' - 1, by omega⟩
        obtain ⟨g1, g2⟩ := s_noSign hS2 hk2
        exact ⟨σ2, τ2, g1 _ _, g2 _, hS2, fun g => absurd g hk2, ⟨_, hSh2⟩, (fcd_t a5).trans hF, (md_n a6).trans hG⟩
    have hT : ∀ (x : Option MsSt), (∀ σ2, x = some σ2 → True) → True := fun _ _ => trivial
    obtain ⟨p1, p2⟩ := m_acc e1
    obtain ⟨q1, q2⟩ := m_acc e2
    by_cases g1 : b1 = true
    · have gb : (b1 || (b2 || b3)) = true := by rw [g1]; rfl
      obtain ⟨σ2, τ2, r1, r2, r3, r4, r5, r6, r7⟩ := s_base a1 a3 hk1 hD1 hSh1 h39
      obtain ⟨σ', τ', k1, k2, k3⟩ := go σ2 τ2 r3 r4 r5 r6 r7
      refine ⟨σ', τ', ?_, ?_, k3⟩
      · show (if iZ (i : Int) < 40 then _ else _) = _
        rw [iltT rfl i40 (by omega) (by omega) (by omega), u7, Option.bind_some, ibT gb, y_rf0, c1, Option.bind_some, ibT g1, r1, Option.bind_some, k1]
      · show (if ms_i τ 493 32 = 0 then _ else _) = _
        rw [if_pos h32, u8, Option.bind_some, ibT gb, hRS, p2 g1 h32 _ a2, b2_s, if_neg (by decide), r2, Option.bind_some, k2]
    · by_cases g2 : b2 = true
      · have gb : (b1 || (b2 || b3)) = true := by rw [g2, Bool.true_or, Bool.or_true]
        obtain ⟨σ2, τ2, r1, r2, r3, r4, r5, r6, r7⟩ := s_mark a1 a3 hk1 hD1 hSh1 h39
        obtain ⟨σ', τ', k1, k2, k3⟩ := go σ2 τ2 r3 r4 r5 r6 r7
        refine ⟨σ', τ', ?_, ?_, k3⟩
        · show (if iZ (i : Int) < 40 then _ else _) = _
          rw [iltT rfl i40 (by omega) (by omega) (by omega), u7, Option.bind_some, ibT gb, y_rf0, c1, Option.bind_some, ibF g1, c2, Option.bind_some, ibT g2, r1, Option.bind_some, k1]
        · show (if ms_i τ 493 32 = 0 then _ else _) = _
          rw [if_pos h32, u8, Option.bind_some, ibT gb, hRS, p1 g1, b2_s, if_pos rfl, q2 g2 h32 _ a2, b2_s, if_neg (by decide), r2, Option.bind_some, k2]
      · by_cases g3 : b3 = true
        · have gb : (b1 || (b2 || b3)) = true := by rw [g3, Bool.or_true, Bool.or_true]
          obtain ⟨σ2, τ2, r1, r2, r3, r4, r5, r6, r7⟩ := s_pair a1 a3 hk1 hD1 hSh1 h39
          obtain ⟨σ', τ', k1, k2, k3⟩ := go σ2 τ2 r3 r4 r5 r6 r7
          refine ⟨σ', τ', ?_, ?_, k3⟩
          · show (if iZ (i : Int) < 40 then _ else _) = _
            rw [iltT rfl i40 (by omega) (by omega) (by omega), u7, Option.bind_some, ibT gb, y_rf0, c1, Option.bind_some, ibF g1, c2, Option.bind_some, ibF g2, r1, Option.bind_some, k1]
          · have hew : f_X12_expectWord τ 493 632 = some τ1 := by
              unfold f_X12_expectWord
              rw [e3, Option.bind_some, b01T g3, m_check1, Option.bind_some, a2, Option.bind_some]
            show (if ms_i τ 493 32 = 0 then _ else _) = _
            rw [if_pos h32, u8, Option.bind_some, ibT gb, hRS, p1 g1, b2_s, if_pos rfl, q1 g2, b2_s, if_pos rfl, hew, Option.bind_some, r2, Option.bind_some, k2]
        · have gb : ¬ (b1 || (b2 || b3)) = true := by
            rw [Bool.eq_false_iff.mpr g1, Bool.eq_false_iff.mpr g2, Bool.eq_false_iff.mpr g3]
            decide
          refine ⟨σ, τ, ?_, ?_, hS, fun _ => ⟨w, N, hD, hz⟩, ⟨_, hSh⟩, Fr.refl _ _, Fr.refl _ _⟩
          · show (if iZ (i : Int) < 40 then _ else _) = _
            rw [iltT rfl i40 (by omega) (by omega) (by omega), u7, Option.bind_some, ibF gb]
            unfold f_X8_readText_78
            rw [u7, Option.bind_some, ibF gb]
          · show (if ms_i τ 493 32 = 0 then _ else _) = _
            rw [if_pos h32, u8, Option.bind_some, ibF gb]
end Sg
