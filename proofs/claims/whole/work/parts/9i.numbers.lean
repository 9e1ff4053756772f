/-! numbers, names on both sides -/
section Nu
variable {σ τ : MsSt} {B : Nat → Nat} {E : Nat}
theorem m_value {st nx kd : Nat} (h : GdX τ B E st nx kd) : f_X12_value τ 493 = some (iZ ((if kd = 2 then min (nv B st (nx - st)) 2000000000 else 0 : Nat) : Int)) := by
  obtain ⟨hO, h1, h2, h3, h4⟩ := h
  have l2 : ms_ln 512 = 900 := m_ln.2.2.2.2.2.2.2.2.2.2.2.2.2.2.2.2.1
  have hE := h1.2.1
  have o1 := hO.1
  have o2 := hO.2.1
  have o3 := hO.2.2.1
  unfold f_X12_value
  rw [h2]
  by_cases q : kd = 2
  · rw [if_pos q]
    refine lpx (S := Int32 × Int32) (f := fun n t => f_X12_value_7 τ n 493 t.1 t.2) (o := some (iZ ((min (nv B st (nx - st)) 2000000000 : Nat) : Int)))
      (fun i t => t.1 = iZ ((min (nv B st i) 2000000000 : Nat) : Int) ∧ t.2 = iZ ((st + i : Nat) : Int)) (nx - st) ?_ ?_ (nx - st) 0 (0, iZ (st : Int)) ms_fuel ⟨rfl, rfl⟩ (by omega) (show nx - st < 100000 by omega)
    · rintro i ⟨a, x⟩ ⟨ha, hx⟩ hlt
      dsimp only at ha hx ⊢
      subst ha; subst hx
      have hd := digB_iff.mp (hO.2.2.2.2.2.1 q (st + i) (by omega) (by omega))
      have e2 : iZ ((st + i : Nat) : Int) + 1 = iZ ((st + (i + 1) : Nat) : Int) := by rw [i1, iZ_add]; rfl
      have hnv : nv B st (i + 1) = nv B st i * 10 + (B (st + i) - 48) := rfl
      have ev : 10 * (iZ ((min (nv B st i) 2000000000 : Nat) : Int)).toInt64 + (iZ (B (st + i) : Int)).toInt64 - 48 = jZ ((10 * min (nv B st i) 2000000000 + (B (st + i) - 48) : Nat) : Int) := by
        rw [iZ_long (by omega) (by omega), iZ_long (by omega) (by omega), show (10 : Int64) = jZ 10 from rfl, show (48 : Int64) = jZ 48 from rfl]
        unfold jZ
        rw [← Int64.ofInt_mul, ← Int64.ofInt_add, ← Int64.ofInt_sub]
        congr 1
        omega
      refine ⟨(iZ ((min (nv B st (i + 1)) 2000000000 : Nat) : Int), iZ ((st + (i + 1) : Nat) : Int)), ⟨rfl, rfl⟩, fun n' => ?_⟩
      show (if iZ ((st + i : Nat) : Int) < ms_i τ 493 29 then _ else _) = _
      rw [iltT rfl h3 (by omega) (by omega) (by omega), ieqT h4 i2 (by omega), m_rf26, ald_iZ (by omega) (by omega), Option.bind_some, (h1.2.2 (st + i) (by omega)).2, ev, e2, nm_s]
      have em : (if jZ ((10 * min (nv B st i) 2000000000 + (B (st + i) - 48) : Nat) : Int) < 2000000000 then jZ ((10 * min (nv B st i) 2000000000 + (B (st + i) - 48) : Nat) : Int) else 2000000000).toInt32 = iZ ((min (nv B st (i + 1)) 2000000000 : Nat) : Int) := by
        by_cases c : 10 * min (nv B st i) 2000000000 + (B (st + i) - 48) < 2000000000
        · rw [if_pos (by rw [show (2000000000 : Int64) = jZ 2000000000 from rfl, Int64.lt_iff_toInt_lt, jZ_toInt (by omega) (by omega), jZ_toInt (by omega) (by omega)]; omega)]
          unfold jZ
          rw [Int64.toInt32_ofInt]
          show iZ _ = iZ _
          congr 2
          omega
        · rw [if_neg (by rw [show (2000000000 : Int64) = jZ 2000000000 from rfl, Int64.lt_iff_toInt_lt, jZ_toInt (by omega) (by omega), jZ_toInt (by omega) (by omega)]; omega)]
          show iZ 2000000000 = iZ _
          congr 1
          omega
      rw [em]
    · rintro ⟨a, x⟩ ⟨ha, hx⟩ n'
      dsimp only at ha hx ⊢
      subst ha; subst hx
      show (if iZ ((st + (nx - st) : Nat) : Int) < ms_i τ 493 29 then _ else _) = _
      rw [iltF rfl h3 (by omega) (by omega) (by omega)]
  · rw [if_neg q]
    show f_X12_value_7 τ (99999 + 1) 493 0 (iZ (st : Int)) = _
    show (if iZ (st : Int) < ms_i τ 493 29 then _ else _) = _
    by_cases g : st < nx
    · rw [iltT rfl h3 (by omega) (by omega) (by omega), ieqF h4 i2 (by omega) (by omega) (by omega) (by omega) (by omega)]
      rfl
    · rw [iltF rfl h3 (by omega) (by omega) (by omega)]
      rfl
theorem Sim.x (h : Sim σ τ B E) : ∃ st nx kd, GdX τ B E st nx kd := by
  rcases h with ⟨st, nx, kd, k1, k2, k3⟩ | ⟨e, p, k1, k2, k3, k4, k5, k6, k7, k8⟩
  · exact ⟨st, nx, kd, k3.x k1⟩
  · exact k8
theorem s_number (h : Sim σ τ B E) {lo hi : Nat} (hlo : lo ≤ hi) (hhi : hi < 100000) : ∃ x y σ' τ', f_X9_takeNumber σ 1 (iZ (lo : Int)) (iZ (hi : Int)) = some (x, σ') ∧ f_X12_readNumber τ 493 (iZ (lo : Int)) (iZ (hi : Int)) = some (y, τ') ∧ Sim σ' τ' B E ∧ (okT σ' → okT σ ∧ ∃ v : Nat, x = iZ (v : Int) ∧ y = iZ (v : Int) ∧ lo ≤ v ∧ v ≤ hi) ∧ Fr FTc σ σ' ∧ Fr FTm τ τ' := by
  have inr : ∀ (s : MsSt) (v : Nat), v ≤ 2000000000 → f_X12_inRange s (iZ (v : Int)).toInt64 (iZ (lo : Int)).toInt64 (iZ (hi : Int)).toInt64 = some (b01 ((lo : Int) ≤ v ∧ (v : Int) ≤ hi)) := by
    intro s v hv
    rw [iZ_long (z := (lo : Int)) (by omega) (by omega), iZ_long (z := (hi : Int)) (by omega) (by omega)]
    exact inRi (by omega) (by omega) (by omega) (by omega) (by omega) (by omega)
  -- what both do when no number in range is there
  have bad : ∀ c : Nat, 1 ≤ c → c ≤ 5 → ∃ σ1 τ1 σ2 τ2 v, f_X9_fail σ 1 (iZ (c : Int)) = some σ1 ∧ f_X12_check τ 493 0 (iZ (c : Int)) = some τ1 ∧ f_X9_advance σ1 1 = some σ2 ∧ f_X12_advance τ1 493 = some τ2 ∧ f_X12_value τ1 493 = some v ∧ ¬ ms_i τ1 493 32 = 0 ∧ ¬ ms_i τ2 493 32 = 0 ∧ Sim σ2 τ2 B E ∧ ¬ okT σ2 ∧ Fr FTc σ σ2 ∧ Fr FTm τ τ2 := by
    intro c c1 c2
    obtain ⟨σ1, τ1, a1, a2, a3, a4, a5, a6⟩ := s_fail h c1 c2
    obtain ⟨σ2, τ2, b1, b2, b3, b4, b5, b6⟩ := s_advance a3
    obtain ⟨st, nx, kd, hx⟩ := a3.x
    exact ⟨σ1, τ1, σ2, τ2, _, a1, a2, b1, b2, m_value hx, fun g => a4 (a3.m0.mp g), fun g => a4 (b4.mp (b3.m0.mp g)), b3, fun g => a4 (b4.mp g), a5.trans b5, a6.trans b6⟩
  by_cases hk : okT σ
  · obtain ⟨st, nx, kd, k1, k2, k3⟩ := h.good hk
    have o1 := k1.1
    have o2 := k1.2.1
    have o3 := k1.2.2.1
    by_cases q : kd = 2
    · have hval := k2.2.2.2.2.2.2.1 q
      have hmv := m_value (k3.x k1)
      rw [if_pos q] at hmv
      by_cases g : lo ≤ nv B st (nx - st) ∧ nv B st (nx - st) ≤ hi
      · obtain ⟨σ2, τ2, b1, b2, b3, b4, b5, b6⟩ := s_advance h
        have e1 : min (nv B st (nx - st)) 1000000 = nv B st (nx - st) := by omega
        have e2 : min (nv B st (nx - st)) 2000000000 = nv B st (nx - st) := by omega
        rw [e1] at hval
        rw [e2] at hmv
        refine ⟨iZ (nv B st (nx - st) : Int), iZ (nv B st (nx - st) : Int), σ2, τ2, ?_, ?_, b3, fun _ => ⟨hk, _, rfl, rfl, g.1, g.2⟩, b5, b6⟩
        · unfold f_X9_takeNumber
          rw [ieqT k2.2.2.2.1 i2 (by omega), iltF hval rfl (by omega) (by omega) (by omega), iltF rfl hval (by omega) (by omega) (by omega), b1, Option.bind_some, hval]
        · unfold f_X12_readNumber
          rw [if_pos k3.2.2.2.2, ieqT k3.2.2.2.1 i2 (by omega)]
          unfold f_X12_readNumber_16 f_X12_readNumber_21
          rw [m_check1, Option.bind_some, hmv, Option.bind_some, if_pos k3.2.2.2.2, inr _ _ (by omega), Option.bind_some, ibT (by omega)]
          unfold f_X12_readNumber_50 f_X12_readNumber_55
          rw [m_check1, Option.bind_some, b2, Option.bind_some, if_pos (b3.m0.mpr (b4.mpr hk))]
      · obtain ⟨σ1, τ1, σ2, τ2, v, a1, a2, b1, b2, b3, b4, b5, b6, b7, b8, b9⟩ := bad 2 (by omega) (by omega)
        have a1' : f_X9_fail σ 1 2 = some σ1 := a1
        have a2' : f_X12_check τ 493 0 2 = some τ1 := a2
        refine ⟨ms_i σ1 1 6, iZ (lo : Int), σ2, τ2, ?_, ?_, b6, fun g => absurd g b7, b8, b9⟩
        · unfold f_X9_takeNumber f_X9_takeNumber_32
          rw [ieqT k2.2.2.2.1 i2 (by omega)]
          by_cases g1 : nv B st (nx - st) < lo
          · rw [iltT hval rfl (by omega) (by omega) (by omega), a1', Option.bind_some, b1, Option.bind_some]
          · rw [iltF hval rfl (by omega) (by omega) (by omega), iltT rfl hval (by omega) (by omega) (by omega), a1', Option.bind_some, b1, Option.bind_some]
        · unfold f_X12_readNumber
          rw [if_pos k3.2.2.2.2, ieqT k3.2.2.2.1 i2 (by omega)]
          unfold f_X12_readNumber_16 f_X12_readNumber_21
          rw [m_check1, Option.bind_some, hmv, Option.bind_some, if_pos k3.2.2.2.2, inr _ _ (by omega), Option.bind_some, ibF (by omega)]
          unfold f_X12_readNumber_55
          rw [a2', Option.bind_some, b2, Option.bind_some, if_neg b5]
    · obtain ⟨σ1, τ1, σ2, τ2, v, a1, a2, b1, b2, b3, b4, b5, b6, b7, b8, b9⟩ := bad 1 (by omega) (by omega)
      have a1' : f_X9_fail σ 1 1 = some σ1 := a1
      have a2' : f_X12_check τ 493 0 1 = some τ1 := a2
      refine ⟨ms_i σ1 1 6, iZ (lo : Int), σ2, τ2, ?_, ?_, b6, fun g => absurd g b7, b8, b9⟩
      · unfold f_X9_takeNumber
        rw [ieqF k2.2.2.2.1 i2 (by omega) (by omega) (by omega) (by omega) (by omega), a1', Option.bind_some, b1, Option.bind_some]
      · unfold f_X12_readNumber
        rw [if_pos k3.2.2.2.2, ieqF k3.2.2.2.1 i2 (by omega) (by omega) (by omega) (by omega) (by omega)]
        unfold f_X12_readNumber_21
        rw [a2', Option.bind_some, b3, Option.bind_some, if_neg b4]
        unfold f_X12_readNumber_50 f_X12_readNumber_55
        rw [m_check1, Option.bind_some, b2, Option.bind_some, if_neg b5]
  · obtain ⟨c, p, k1, k2, k3, k4, k5, k6, k7, k8⟩ := h.bad hk
    obtain ⟨σ1, τ1, σ2, τ2, v, a1, a2, b1, b2, b3, b4, b5, b6, b7, b8, b9⟩ := bad 1 (by omega) (by omega)
    have a1' : f_X9_fail σ 1 1 = some σ1 := a1
    have h32 : ¬ ms_i τ 493 32 = 0 := fun g => hk (h.m0.mp g)
    obtain ⟨τ3, d1, d2⟩ : ∃ τ3, f_X12_advance τ 493 = some τ3 ∧ τ3 = τ := ⟨τ, by unfold f_X12_advance; rw [if_neg h32], rfl⟩
    subst d2
    have e2 : τ1 = τ3 := by
      have : f_X12_check τ3 493 0 (iZ ((1 : Nat) : Int)) = some τ3 := by
        unfold f_X12_check f_X12_flaw
        rw [if_pos rfl, if_neg h32, Option.bind_some]
      rw [this] at a2
      exact (Option.some.inj a2).symm
    subst e2
    refine ⟨ms_i σ1 1 6, iZ (lo : Int), σ2, τ2, ?_, ?_, b6, fun g => absurd g b7, b8, b9⟩
    · unfold f_X9_takeNumber
      rw [ieqF (a := 0) (b := 2) k5.1 i2 (by omega) (by omega) (by omega) (by omega) (by omega), a1', Option.bind_some, b1, Option.bind_some]
    · unfold f_X12_readNumber
      rw [if_neg h32]
      unfold f_X12_readNumber_16 f_X12_readNumber_21
      rw [m_check1, Option.bind_some, b3, Option.bind_some, if_neg h32]
      unfold f_X12_readNumber_50 f_X12_readNumber_55
      rw [m_check1, Option.bind_some, b2, Option.bind_some, if_neg b5]
theorem s_expect (h : Sim σ τ B E) {c : Nat} (hc : c < 128) : ∃ σ' τ', f_X9_takeSymbol σ 1 (iZ (c : Int)) = some σ' ∧ f_X12_expect τ 493 (iZ (c : Int)) = some τ' ∧ Sim σ' τ' B E ∧ (okT σ' → okT σ) ∧ Fr FTc σ σ' ∧ Fr FTm τ τ' := by
  obtain ⟨b, h1, h2, h3⟩ := s_symbol h hc
  unfold f_X9_takeSymbol f_X12_expect
  rw [h1, h2, Option.bind_some, Option.bind_some]
  by_cases q : b = true
  · obtain ⟨σ2, τ2, b1, b2, b3, b4, b5, b6⟩ := s_advance h
    refine ⟨σ2, τ2, ?_, ?_, b3, b4.mp, b5, b6⟩
    · rw [ibT q, b1, Option.bind_some]
    · rw [b01T q, m_check1, Option.bind_some, b2, Option.bind_some]
  · obtain ⟨σ1, τ1, a1, a2, a3, a4, a5, a6⟩ := s_fail h (c := 1) (by omega) (by omega)
    have a1' : f_X9_fail σ 1 1 = some σ1 := a1
    have a2' : f_X12_check τ 493 0 1 = some τ1 := a2
    obtain ⟨σ2, τ2, b1, b2, b3, b4, b5, b6⟩ := s_advance a3
    refine ⟨σ2, τ2, ?_, ?_, b3, fun g => absurd (b4.mp g) a4, a5.trans b5, a6.trans b6⟩
    · rw [ibF q, a1', Option.bind_some, b1, Option.bind_some]
    · rw [b01F q, a2', Option.bind_some, b2, Option.bind_some]
theorem s_end (h : Sim σ τ B E) : ∃ σ' τ', f_X9_takeEnd σ 1 = some σ' ∧ f_X12_readAll_82 τ 493 = some τ' ∧ Sim σ' τ' B E ∧ (okT σ' → okT σ) ∧ Fr FTc σ σ' ∧ Fr FTm τ τ' := by
  unfold f_X9_takeEnd f_X12_readAll_82
  rcases h with ⟨st, nx, kd, k1, k2, k3⟩ | hb
  · have o3 := k1.2.2.1
    by_cases q : kd = 0
    · refine ⟨σ, τ, ?_, ?_, Or.inl ⟨st, nx, kd, k1, k2, k3⟩, id, Fr.refl _ _, Fr.refl _ _⟩
      · rw [ieqT k2.2.2.2.1 i0 (by omega)]
      · rw [if_pos k3.2.2.2.2, ieqT k3.2.2.2.1 i0 (by omega), m_check1, Option.bind_some]
    · obtain ⟨σ1, τ1, a1, a2, a3, a4, a5, a6⟩ := s_fail (Or.inl ⟨st, nx, kd, k1, k2, k3⟩ : Sim σ τ B E) (c := 1) (by omega) (by omega)
      have a1' : f_X9_fail σ 1 1 = some σ1 := a1
      have a2' : f_X12_check τ 493 0 1 = some τ1 := a2
      refine ⟨σ1, τ1, ?_, ?_, a3, fun g => absurd g a4, a5, a6⟩
      · rw [ieqF k2.2.2.2.1 i0 (by omega) (by omega) (by omega) (by omega) (by omega), a1', Option.bind_some]
      · rw [if_pos k3.2.2.2.2, ieqF k3.2.2.2.1 i0 (by omega) (by omega) (by omega) (by omega) (by omega), a2', Option.bind_some]
  · obtain ⟨c, p, k1, k2, k3, k4, k5, k6, k7⟩ := hb
    refine ⟨σ, τ, ?_, ?_, Or.inr ⟨c, p, k1, k2, k3, k4, k5, k6, k7⟩, id, Fr.refl _ _, Fr.refl _ _⟩
    · rw [if_pos k5.1]
    · rw [if_neg (by rw [k6]; exact iZ_ne0 k1 k2), m_check1, Option.bind_some]
theorem s_accept (h : Sim σ τ B E) {id' id2 : Nat} {cs : List Nat} (hs : StrIs id' cs) (hs2 : StrIs id2 cs) : ∃ b : Bool, f_X9_isWord σ 1 id' = some (b01 (b = true)) ∧ ((¬ b = true ∧ f_X12_accept τ 493 id2 = some (0, τ)) ∨ (b = true ∧ okT σ ∧ ∃ σ' τ', f_X9_advance σ 1 = some σ' ∧ f_X12_accept τ 493 id2 = some (1, τ') ∧ Sim σ' τ' B E ∧ okT σ' ∧ Fr FTc σ σ' ∧ Fr FTm τ τ')) := by
  obtain ⟨b, h1, h2, h3, h4⟩ := s_word h hs hs2
  refine ⟨b, h1, ?_⟩
  unfold f_X12_accept
  rw [h2, Option.bind_some]
  by_cases q : b = true
  · right
    have hk := h3 q
    obtain ⟨σ2, τ2, b1, b2, b3, b4, b5, b6⟩ := s_advance h
    have h32 := h.m0.mpr hk
    have b2' : f_X12_scan τ 493 = some τ2 := by
      unfold f_X12_advance at b2
      rw [if_pos h32] at b2
      cases hh : f_X12_scan τ 493 with
      | none => rw [hh] at b2; cases b2
      | some t => rw [hh, Option.bind_some] at b2; exact b2
    refine ⟨q, hk, σ2, τ2, b1, ?_, b3, b4.mpr hk, b5, b6⟩
    rw [ibT q, b2', Option.bind_some, bz_b, Option.bind_some, b01T q]
  · left
    refine ⟨q, ?_⟩
    rw [ibF q, bz_b, Option.bind_some, b01F q]
/-! names -/
theorem q_tab : ms_ln 513 = 5 ∧ ∀ i, i < 5 → ms_rf 513 i = 630 + i := by decide +kernel
theorem m_names36 {bq : Nat → Bool} {f : Bool} (hb : f = true → ∀ i, i < 5 → f_X12_isWord τ 493 (630 + i) = some (b01 (bq i = true))) : f_X12_isNameHere_36 τ ms_fuel 493 (b01 (f = true)) 0 = some (b01 ((f && !anyF bq 0 5) = true)) := by
  obtain ⟨l5, r5⟩ := q_tab
  have key := lp0 (S := Int32 × Int32) (f := fun n t => f_X12_isNameHere_36 τ n 493 t.1 t.2) (Q := fun r => r = b01 ((f && !anyF bq 0 5) = true))
    (fun i t => t.1 = b01 ((f && !anyF bq 0 i) = true) ∧ t.2 = iZ (i : Int) ∧ i ≤ 5) 5 (s := (b01 (f = true), 0)) ⟨by show b01 (f = true) = b01 ((f && !false) = true); cases f <;> rfl, rfl, by omega⟩ (by omega) ?_ ?_
  · obtain ⟨r, q1, rfl⟩ := key
    exact q1
  · rintro i ⟨a, x⟩ ⟨ha, hx, hi⟩ hlt
    dsimp only at ha hx ⊢
    subst ha; subst hx
    have e2 : iZ (i : Int) + 1 = iZ ((i + 1 : Nat) : Int) := by rw [i1, iZ_add]; rfl
    have hsn : anyF bq 0 (i + 1) = (anyF bq 0 i || bq i) := by
      have := anyF_snoc bq i 0
      rw [Nat.zero_add] at this
      exact this
    by_cases g : (f && !anyF bq 0 i) = true
    · left
      have g2 := (Bool.and_eq_true _ _).mp g
      refine ⟨(b01 ((f && !anyF bq 0 (i + 1)) = true), iZ ((i + 1 : Nat) : Int)), ⟨rfl, rfl, hlt⟩, fun n' => ?_⟩
      show (if iZ (i : Int) < Int32.ofNat (ms_ln (ms_rf 493 36)) then _ else _) = _
      rw [m_rf36, l5, iltT rfl (iZ_nat 5) (by omega) (by omega) (by omega), ibT g, ala_iZ (by omega) (by omega), Option.bind_some, r5 i hlt, hb g2.1 i hlt, Option.bind_some, e2]
      by_cases g3 : bq i = true
      · rw [ibT g3, b01F (by rw [hsn, g3]; simp)]
      · rw [ibF g3, b01T (by rw [hsn, Bool.eq_false_iff.mpr g3, Bool.or_false]; exact g)]
    · right
      refine ⟨0, ?_, fun n' => ?_⟩
      · rw [b01F]
        intro q
        rw [Bool.and_eq_true] at q
        apply g
        rw [Bool.and_eq_true]
        refine ⟨q.1, ?_⟩
        have q2 := q.2
        rw [Bool.not_eq_true', Bool.eq_false_iff] at q2 ⊢
        intro q3
        obtain ⟨t, t1, t2, t3⟩ := (anyF_iff _ _ _).mp q3
        exact q2 ((anyF_iff _ _ _).mpr ⟨t, t1, by omega, t3⟩)
      · show (if iZ (i : Int) < Int32.ofNat (ms_ln (ms_rf 493 36)) then _ else _) = _
        rw [m_rf36, l5, iltT rfl (iZ_nat 5) (by omega) (by omega) (by omega), ibF g, bz_b, Option.bind_some, b01F g]
  · rintro ⟨a, x⟩ ⟨ha, hx, hi⟩
    dsimp only at ha hx ⊢
    subst ha; subst hx
    refine ⟨b01 ((f && !anyF bq 0 5) = true), rfl, fun n' => ?_⟩
    show (if iZ ((5 : Nat) : Int) < Int32.ofNat (ms_ln (ms_rf 493 36)) then _ else _) = _
    rw [m_rf36, l5, iltF rfl (iZ_nat 5) (by omega) (by omega) (by omega), bz_b, Option.bind_some]
theorem str_base : StrIs 605 [98, 97, 115, 101] ∧ StrIs 601 [98, 97, 115, 101] ∧ StrIs 630 [98, 97, 115, 101] := by unfold StrIs; decide +kernel
theorem str_mark : StrIs 606 [109, 97, 114, 107] ∧ StrIs 602 [109, 97, 114, 107] ∧ StrIs 631 [109, 97, 114, 107] := by unfold StrIs; decide +kernel
theorem str_pair : StrIs 607 [112, 97, 105, 114] ∧ StrIs 603 [112, 97, 105, 114] ∧ StrIs 632 [112, 97, 105, 114] := by unfold StrIs; decide +kernel
theorem str_line : StrIs 608 [108, 105, 110, 101] ∧ StrIs 613 [108, 105, 110, 101] ∧ StrIs 633 [108, 105, 110, 101] := by unfold StrIs; decide +kernel
theorem str_hand : StrIs 604 [104, 97, 110, 100] ∧ StrIs 614 [104, 97, 110, 100] ∧ StrIs 634 [104, 97, 110, 100] := by unfold StrIs; decide +kernel
theorem s_isName (h : Sim σ τ B E) : ∃ b : Bool, f_X9_isName σ 1 = some (b01 (b = true)) ∧ f_X12_isNameHere τ 493 = some (b01 (b = true)) ∧ (b = true → okT σ ∧ ∃ st nx, TkOK B E st nx 1 ∧ GdC σ B E st nx 1 ∧ GdM τ B E st nx 1 ∧ nx - st ≤ 4) := by
  obtain ⟨b1, u1, v1, -, -⟩ := s_word h str_hand.1 str_hand.2.2
  obtain ⟨b2, u2, v2, -, -⟩ := s_word h str_base.1 str_base.2.2
  obtain ⟨b3, u3, v3, -, -⟩ := s_word h str_mark.1 str_mark.2.2
  obtain ⟨b4, u4, v4, -, -⟩ := s_word h str_pair.1 str_pair.2.2
  obtain ⟨b5, u5, v5, -, -⟩ := s_word h str_line.1 str_line.2.2
  have hq : ∀ i, i < 5 → f_X12_isWord τ 493 (630 + i) = some (b01 ((fun i => if i = 0 then b2 else if i = 1 then b3 else if i = 2 then b4 else if i = 3 then b5 else b1) i = true)) := by
    intro i hi
    have : i = 0 ∨ i = 1 ∨ i = 2 ∨ i = 3 ∨ i = 4 := by omega
    rcases this with rfl | rfl | rfl | rfl | rfl
    · exact v2
    · exact v3
    · exact v4
    · exact v5
    · exact v1
  have hany : anyF (fun i => if i = 0 then b2 else if i = 1 then b3 else if i = 2 then b4 else if i = 3 then b5 else b1) 0 5 = (b2 || (b3 || (b4 || (b5 || (b1 || false))))) := rfl
  have hm : ∀ f : Bool, f_X12_isNameHere_36 τ ms_fuel 493 (b01 (f = true)) 0 = some (b01 ((f && !(b2 || (b3 || (b4 || (b5 || (b1 || false)))))) = true)) := fun f => by
    have := m_names36 (τ := τ) (f := f) (fun _ => hq)
    rw [hany] at this
    exact this
  rcases h with ⟨st, nx, kd, k1, k2, k3⟩ | ⟨c, p, k1, k2, k3, k4, k5, k6, k7⟩
  · have o1 := k1.1
    have o2 := k1.2.1
    have o3 := k1.2.2.1
    have hE := k2.1.2.1
    have ec : ms_i σ 1 4 - ms_i σ 1 3 = iZ ((nx : Int) - (st : Int)) := by rw [k2.2.1, k2.2.2.1, iZ_sub]
    have em : ms_i τ 493 29 - ms_i τ 493 30 = iZ ((nx : Int) - (st : Int)) := by rw [k3.2.1, k3.2.2.1, iZ_sub]
    by_cases q1 : kd = 1
    · by_cases q2 : nx - st ≤ 4
      · refine ⟨true && !(b2 || (b3 || (b4 || (b5 || (b1 || false))))), ?_, ?_, fun _ => ⟨k2.2.2.2.2.1, st, nx, by rw [← q1]; exact k1, by rw [← q1]; exact k2, by rw [← q1]; exact k3, q2⟩⟩
        · unfold f_X9_isName
          rw [ieqT k2.2.2.2.1 i1 (by omega), iltF i4 ec (by omega) (by omega) (by omega), u1, Option.bind_some, u2, u3, u4, u5]
          cases b1 <;> cases b2 <;> cases b3 <;> cases b4 <;> cases b5 <;> rfl
        · unfold f_X12_isNameHere
          rw [if_pos k3.2.2.2.2, ieqT k3.2.2.2.1 i1 (by omega), iltF i4 em (by omega) (by omega) (by omega)]
          exact hm true
      · refine ⟨false && !(b2 || (b3 || (b4 || (b5 || (b1 || false))))), ?_, ?_, fun g => absurd g (by rw [Bool.false_and]; decide)⟩
        · unfold f_X9_isName
          rw [ieqT k2.2.2.2.1 i1 (by omega), iltT i4 ec (by omega) (by omega) (by omega), Bool.false_and]
          rfl
        · unfold f_X12_isNameHere
          rw [if_pos k3.2.2.2.2, ieqT k3.2.2.2.1 i1 (by omega), iltT i4 em (by omega) (by omega) (by omega)]
          exact hm false
    · refine ⟨false && !(b2 || (b3 || (b4 || (b5 || (b1 || false))))), ?_, ?_, fun g => absurd g (by rw [Bool.false_and]; decide)⟩
      · unfold f_X9_isName
        rw [ieqF k2.2.2.2.1 i1 (by omega) (by omega) (by omega) (by omega) (by omega), Bool.false_and]
        rfl
      · unfold f_X12_isNameHere
        rw [if_pos k3.2.2.2.2, ieqF k3.2.2.2.1 i1 (by omega) (by omega) (by omega) (by omega) (by omega)]
        exact hm false
  · refine ⟨false && !(b2 || (b3 || (b4 || (b5 || (b1 || false))))), ?_, ?_, fun g => absurd g (by rw [Bool.false_and]; decide)⟩
    · unfold f_X9_isName
      rw [ieqF (a := 0) (b := 1) k5.1 i1 (by omega) (by omega) (by omega) (by omega) (by omega), Bool.false_and]
      rfl
    · unfold f_X12_isNameHere
      rw [if_neg (by rw [k6]; exact iZ_ne0 k1 k2)]
      exact hm false
end Nu
