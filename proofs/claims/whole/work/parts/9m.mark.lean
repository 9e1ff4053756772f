/-! a mark is read -/
section Mk2
variable {σ τ : MsSt} {B w N : Nat → Nat} {E : Nat}
theorem c_sideD {n c : Nat} (hs : SgsOK w n) (hc : ScRep σ 140 w n) (hc60 : c < 1000) : ∃ z : Int, f_X6_sideOfClass σ 140 (iZ (c : Int)) (-1) = some (iZ z) ∧ ((z = -1 ∧ ∀ s, s < n → Kd w s = 1 → Cl w s ≠ c) ∨ ∃ s, s < n ∧ Kd w s = 1 ∧ Cl w s = c ∧ z = (sgF w s 6 : Int)) := by
  have h40 := hs.1
  have key := lp0 (S := Int32) (f := fun n' t => f_X6_sideOfClass_2 σ n' 140 (iZ (c : Int)) (-1) t) (Q := fun r => ∃ z : Int, r = iZ z ∧ ((z = -1 ∧ ∀ s, s < n → Kd w s = 1 → Cl w s ≠ c) ∨ ∃ s, s < n ∧ Kd w s = 1 ∧ Cl w s = c ∧ z = (sgF w s 6 : Int)))
    (fun i t => t = iZ (i : Int) ∧ i ≤ n ∧ ∀ s, s < i → Kd w s = 1 → Cl w s ≠ c) n (s := 0) ⟨rfl, Nat.zero_le _, fun s hs => absurd hs (Nat.not_lt_zero _)⟩ (by omega) ?_ ?_
  · obtain ⟨r, h1, z, rfl, h2⟩ := key
    exact ⟨z, h1, h2⟩
  · rintro i t ⟨rfl, hi, ht⟩ hlt
    have hk := (hs.2.1 i hlt).1
    have hkb := hk.1
    have hR := hc.2 i hlt
    have e1 : iZ (i : Int) + 1 = iZ ((i + 1 : Nat) : Int) := by rw [i1, iZ_add]; rfl
    have hh : ∀ n', f_X6_sideOfClass_2 σ (n' + 1) 140 (iZ (c : Int)) (-1) (iZ (i : Int)) = (if iZ (Kd w i : Int) = 1 then (if iZ (Cl w i : Int) = iZ (c : Int) then some (ms_i σ (140 + 2 + 3 * i) 5) else f_X6_sideOfClass_2 σ n' 140 (iZ (c : Int)) (-1) (iZ (i : Int) + 1)) else f_X6_sideOfClass_2 σ n' 140 (iZ (c : Int)) (-1) (iZ (i : Int) + 1)) := by
      intro n'
      show (if iZ (i : Int) < ms_i σ 140 4 then _ else _) = _
      rw [iltT rfl hc.1 (by omega) (by omega) (by omega), ieqF rfl im1 (by omega) (by omega) (by omega) (by omega) (by omega), kindOf_s hc (Or.inr rfl) hlt h40, Option.bind_some, classOf_s hc (Or.inr rfl) hlt h40, Option.bind_some, told_s (a := 140) (Or.inr rfl) (by omega), Option.bind_some]
    by_cases q : Kd w i = 1
    · have hcl := hk.2.2.1 q
      by_cases q2 : Cl w i = c
      · right
        refine ⟨iZ (sgF w i 6 : Int), ⟨_, rfl, Or.inr ⟨i, hlt, q, q2, rfl⟩⟩, fun n' => ?_⟩
        rw [hh, ieqT rfl i1 (by omega), ieqT rfl rfl (by omega), (hR.2.2.2.2.2.2.1 q).2]
      · left
        refine ⟨iZ ((i + 1 : Nat) : Int), ⟨rfl, hlt, fun s hs hks => ?_⟩, fun n' => ?_⟩
        · by_cases g : s = i
          · rw [g]; exact q2
          · exact ht s (by omega) hks
        · rw [hh, ieqT rfl i1 (by omega), ieqF rfl rfl (by omega) (by omega) (by omega) (by omega) (by omega), e1]
    · left
      refine ⟨iZ ((i + 1 : Nat) : Int), ⟨rfl, hlt, fun s hs hks => ?_⟩, fun n' => ?_⟩
      · by_cases g : s = i
        · rw [g] at hks; exact absurd hks q
        · exact ht s (by omega) hks
      · rw [hh, ieqF rfl i1 (by omega) (by omega) (by omega) (by omega) (by omega), e1]
  · rintro t ⟨rfl, hi, ht⟩
    refine ⟨iZ (-1), ⟨-1, rfl, Or.inl ⟨rfl, ht⟩⟩, fun n' => ?_⟩
    show (if iZ (n : Int) < ms_i σ 140 4 then _ else _) = _
    rw [iltF rfl hc.1 (by omega) (by omega) (by omega)]
    rfl
theorem m_isSideOf {n c d : Nat} (hs : SgsOK w n) (hw : Mw τ 495 w) (h0 : w 0 = n) (hc60 : c < 1000) (hd : d < 1000) : ∃ b : Bool, f_X12_isSideOf τ 493 (iZ (c : Int)) (iZ (d : Int)) = some (b01 (b = true)) ∧ (b = true ↔ ∀ s, s < n → Kd w s = 1 → Cl w s = c → sgF w s 6 = d) := by
  have h40 := hs.1
  have hr : ms_ald τ 495 0 = some (iZ (n : Int)) := by
    have := mw_get (z := 0) (k := 0) hw (Or.inr rfl) rfl (by omega)
    rw [h0] at this
    exact this
  have key := lp0 (S := Int32) (f := fun n' t => f_X12_isSideOf_2 τ n' 493 (iZ (c : Int)) (iZ (d : Int)) t) (Q := fun r => ∃ b : Bool, r = b01 (b = true) ∧ (b = true ↔ ∀ s, s < n → Kd w s = 1 → Cl w s = c → sgF w s 6 = d))
    (fun i t => t = iZ (i : Int) ∧ i ≤ n ∧ ∀ s, s < i → Kd w s = 1 → Cl w s = c → sgF w s 6 = d) n (s := 0) ⟨rfl, Nat.zero_le _, fun s hs => absurd hs (Nat.not_lt_zero _)⟩ (by omega) ?_ ?_
  · obtain ⟨r, h1, b, rfl, h2⟩ := key
    exact ⟨b, h1, h2⟩
  · rintro i t ⟨rfl, hi, ht⟩ hlt
    have hk := (hs.2.1 i hlt).1
    have hkb := hk.1
    have e1 : iZ (i : Int) + 1 = iZ ((i + 1 : Nat) : Int) := by rw [i1, iZ_add]; rfl
    have hh : ∀ n', f_X12_isSideOf_2 τ (n' + 1) 493 (iZ (c : Int)) (iZ (d : Int)) (iZ (i : Int)) = (if iZ (Kd w i : Int) = 1 then (if iZ (Cl w i : Int) = iZ (c : Int) then (if iZ (sgF w i 6 : Int) = iZ (d : Int) then f_X12_isSideOf_2 τ n' 493 (iZ (c : Int)) (iZ (d : Int)) (iZ (i : Int) + 1) else some 0) else f_X12_isSideOf_2 τ n' 493 (iZ (c : Int)) (iZ (d : Int)) (iZ (i : Int) + 1)) else f_X12_isSideOf_2 τ n' 493 (iZ (c : Int)) (iZ (d : Int)) (iZ (i : Int) + 1)) := by
      intro n'
      show (ms_ald τ (ms_rf 493 1) 0).bind _ = _
      rw [m_rf1, hr, Option.bind_some, iltT rfl rfl (by omega) (by omega) (by omega), of_0, Option.bind_some, mw_get hw (Or.inr rfl) (k := 247 + 7 * i) (by omega) (by omega), Option.bind_some, of_1, Option.bind_some, mw_get hw (Or.inr rfl) (k := 247 + 7 * i + 1) (by omega) (by omega), Option.bind_some, of_6, Option.bind_some, mw_get hw (Or.inr rfl) (k := 247 + 7 * i + 6) (by omega) (by omega), Option.bind_some]
      rfl
    by_cases q : Kd w i = 1
    · have hcl := hk.2.2.1 q
      by_cases q2 : Cl w i = c
      · by_cases q3 : sgF w i 6 = d
        · left
          refine ⟨iZ ((i + 1 : Nat) : Int), ⟨rfl, hlt, fun s hs hks hcs => ?_⟩, fun n' => ?_⟩
          · by_cases g : s = i
            · rw [g]; exact q3
            · exact ht s (by omega) hks hcs
          · rw [hh, ieqT rfl i1 (by omega), ieqT rfl rfl (by omega), ieqT rfl rfl (by omega), e1]
        · right
          refine ⟨0, ⟨false, rfl, ⟨fun g => absurd g (by decide), fun g => absurd (g i hlt q q2) q3⟩⟩, fun n' => ?_⟩
          rw [hh, ieqT rfl i1 (by omega), ieqT rfl rfl (by omega), ieqF rfl rfl (by omega) (by omega) (by omega) (by omega) (by omega)]
      · left
        refine ⟨iZ ((i + 1 : Nat) : Int), ⟨rfl, hlt, fun s hs hks hcs => ?_⟩, fun n' => ?_⟩
        · by_cases g : s = i
          · rw [g] at hcs; exact absurd hcs q2
          · exact ht s (by omega) hks hcs
        · rw [hh, ieqT rfl i1 (by omega), ieqF rfl rfl (by omega) (by omega) (by omega) (by omega) (by omega), e1]
    · left
      refine ⟨iZ ((i + 1 : Nat) : Int), ⟨rfl, hlt, fun s hs hks hcs => ?_⟩, fun n' => ?_⟩
      · by_cases g : s = i
        · rw [g] at hks; exact absurd hks q
        · exact ht s (by omega) hks hcs
      · rw [hh, ieqF rfl i1 (by omega) (by omega) (by omega) (by omega) (by omega), e1]
  · rintro t ⟨rfl, hi, ht⟩
    refine ⟨1, ⟨true, rfl, ⟨fun _ => ht, fun _ => rfl⟩⟩, fun n' => ?_⟩
    show (ms_ald τ (ms_rf 493 1) 0).bind _ = _
    rw [m_rf1, hr, Option.bind_some, iltF rfl rfl (by omega) (by omega) (by omega)]
theorem str_above : StrIs 609 [97, 98, 111, 118, 101] ∧ StrIs 641 [97, 98, 111, 118, 101] := by unfold StrIs; decide +kernel
theorem str_below : StrIs 610 [98, 101, 108, 111, 119] ∧ StrIs 642 [98, 101, 108, 111, 119] := by unfold StrIs; decide +kernel
theorem str_through : StrIs 611 [116, 104, 114, 111, 117, 103, 104] ∧ StrIs 643 [116, 104, 114, 111, 117, 103, 104] := by unfold StrIs; decide +kernel
/-- the rest of a mark behind its side -/
def mkTail (s7 : MsSt) (l1 l2 l3 : Int32) : Option MsSt :=
  (f_X12_of s7 l1 0).bind fun v8 =>
  (ms_ast s7 (ms_rf 493 1) v8 1).bind fun s9 =>
  (f_X12_of s9 l1 1).bind fun v10 =>
  (ms_ast s9 (ms_rf 493 1) v10 l2).bind fun s11 =>
  (f_X12_of s11 l1 3).bind fun v12 =>
  ms_b2 (f_X12_readNumber s11 493 1 9) fun v13 s14 =>
  (ms_ast s14 (ms_rf 493 1) v12 v13).bind fun s15 =>
  (f_X12_of s15 l1 4).bind fun v16 =>
  ms_b2 (f_X12_readNumber s15 493 1 9) fun v17 s18 =>
  (ms_ast s18 (ms_rf 493 1) v16 v17).bind fun s19 =>
  (f_X12_of s19 l1 5).bind fun v20 =>
  ms_b2 (f_X12_readNumber s19 493 0 9) fun v21 s22 =>
  (ms_ast s22 (ms_rf 493 1) v20 v21).bind fun s23 =>
  (f_X12_of s23 l1 6).bind fun v24 =>
  (ms_ast s23 (ms_rf 493 1) v24 l3).bind fun s25 =>
  some s25
theorem mk54 (s : MsSt) (l1 l2 l3 t0 : Int32) : f_X12_readMark_54 s 493 l1 l2 l3 t0 493 = (f_X12_check s 493 t0 4).bind fun s6 => (f_X12_advance s6 493).bind fun s7 => mkTail s7 l1 l2 l3 := rfl
def mkSide (s : MsSt) (l1 l2 : Int32) : Option MsSt := (f_X12_sideHere s 493).bind fun v4 => if v4 = (-1) then f_X12_readMark_28 s 493 l1 l2 v4 0 493 else f_X12_readMark_28 s 493 l1 l2 v4 1 493
theorem s_side (h : Sim σ τ B E) {x y : Int32} (hSh : ShC σ (w 0)) (hD : okT σ → ScRep σ 140 w (w 0) ∧ SgsOK w (w 0) ∧ Mw τ 495 w ∧ ∃ c : Nat, x = iZ (c : Int) ∧ y = iZ (c : Int) ∧ c ≤ 60) : ∃ x' y' σ' τ', f_X8_takeSide σ 139 x = some (x', σ') ∧ (∀ l1, mkSide τ l1 y = mkTail τ' l1 y y') ∧ Sim σ' τ' B E ∧ (okT σ' → okT σ ∧ ∃ d : Nat, d ≤ 2 ∧ x' = iZ (d : Int) ∧ y' = iZ (d : Int) ∧ ∀ c : Nat, x = iZ (c : Int) → c ≤ 60 → ∀ s, s < w 0 → Kd w s = 1 → Cl w s = c → sgF w s 6 = d) ∧ Fr FTc σ σ' ∧ Fr FTm τ τ' := by
  obtain ⟨b1, u1, v1, -, -⟩ := s_word h str_above.1 str_above.2
  obtain ⟨b2, u2, v2, -, -⟩ := s_word h str_below.1 str_below.2
  obtain ⟨b3, u3, v3, -, -⟩ := s_word h str_through.1 str_through.2
  -- the side that both see
  obtain ⟨z, hz, hc, hm⟩ : ∃ z : Int, (z = -1 ∨ z = 0 ∨ z = 1 ∨ z = 2) ∧ f_X8_takeSide σ 139 x = f_X8_takeSide_49 σ 139 x (iZ z) ∧ f_X12_sideHere τ 493 = some (iZ z) := by
    unfold f_X8_takeSide f_X12_sideHere
    rw [y_rf0, u1, u2, u3, v1, v2, v3]
    cases b1
    · cases b2
      · cases b3
        · exact ⟨-1, Or.inl rfl, rfl, rfl⟩
        · exact ⟨2, Or.inr (Or.inr (Or.inr rfl)), rfl, rfl⟩
      · exact ⟨1, Or.inr (Or.inr (Or.inl rfl)), rfl, rfl⟩
    · exact ⟨0, Or.inr (Or.inl rfl), rfl, rfl⟩
  -- an error, and on
  have bad : ∀ c : Nat, 1 ≤ c → c ≤ 5 → ∃ σ1 τ1 σ2 τ2, f_X9_fail σ 1 (iZ (c : Int)) = some σ1 ∧ f_X12_check τ 493 0 (iZ (c : Int)) = some τ1 ∧ f_X9_advance σ1 1 = some σ2 ∧ f_X12_advance τ1 493 = some τ2 ∧ ¬ ms_i τ1 493 32 = 0 ∧ Sim σ2 τ2 B E ∧ ¬ okT σ2 ∧ Fr FTc σ σ2 ∧ Fr FTm τ τ2 := by
    intro c c1 c2
    obtain ⟨σ1, τ1, a1, a2, a3, a4, a5, a6⟩ := s_fail h c1 c2
    obtain ⟨σ2, τ2, b1, b2, b3, b4, b5, b6⟩ := s_advance a3
    exact ⟨σ1, τ1, σ2, τ2, a1, a2, b1, b2, fun g => a4 (a3.m0.mp g), b3, fun g => a4 (b4.mp g), a5.trans b5, a6.trans b6⟩
  obtain ⟨sv, hsv⟩ := side_t hSh.1 hSh.2.1 x (-1)
  rw [hc]
  unfold f_X8_takeSide_49 mkSide
  rw [y_rf0, y_rf1, hsv, Option.bind_some, hm]
  by_cases qz : z = -1
  · obtain ⟨σ1, τ1, σ2, τ2, a1, a2, a3, a4, a5, a6, a7, a8, a9⟩ := bad 1 (by omega) (by omega)
    have a1' : f_X9_fail σ 1 1 = some σ1 := a1
    have a2' : f_X12_check τ 493 0 1 = some τ1 := a2
    refine ⟨iZ z, iZ z, σ2, τ2, ?_, fun l1 => ?_, a6, fun g => absurd g a7, a8, a9⟩
    · rw [ieqT rfl im1 qz, a1', Option.bind_some, a3, Option.bind_some]
    · rw [Option.bind_some, ieqT rfl im1 qz]
      unfold f_X12_readMark_28 f_X12_readMark_49
      rw [a2', Option.bind_some, if_neg a5, mk54, m_check1, Option.bind_some, a4, Option.bind_some]
  · by_cases hk : okT σ
    · obtain ⟨g1, g2, g3, c, g4, g5, g6⟩ := hD hk
      obtain ⟨d, hd⟩ : ∃ d : Nat, z = (d : Int) := ⟨z.toNat, by omega⟩
      obtain ⟨zz, k1, k2⟩ := c_sideD (c := c) g2 g1 (by omega)
      rw [g4, k1] at hsv
      have hsv' := Option.some.inj hsv
      obtain ⟨b, m1, m2⟩ := m_isSideOf (n := w 0) (c := c) (d := d) g2 g3 rfl (by omega) (by omega)
      have h32 := h.m0.mpr hk
      have hsg : ∀ s, s < w 0 → Kd w s = 1 → sgF w s 6 ≤ 2 := fun s hs hks => ((g2.2.1 s hs).1.2.2.1 hks).2.2.2.2.2.2.2
      have hzz : -1 ≤ zz ∧ zz ≤ 2 := by
        rcases k2 with ⟨k, -⟩ | ⟨s, k3, k4, k5, k6⟩
        · omega
        · have := hsg s k3 k4; omega
      have hiff : b = true ↔ (zz = -1 ∨ zz = z) := by
        rw [m2]
        constructor
        · intro g
          rcases k2 with ⟨k, -⟩ | ⟨s, k3, k4, k5, k6⟩
          · exact Or.inl k
          · right
            rw [k6, g s k3 k4 k5, hd]
        · intro g s q1 q2 q3
          rcases k2 with ⟨k, k7⟩ | ⟨s', k3, k4, k5, k6⟩
          · exact absurd q3 (k7 s q1 q2)
          · have e := g2.2.2 s s' q1 k3 q2 k4 (q3.trans k5.symm)
            omega
      have hm2 : (if b = true then f_X12_readMark_49 τ 493 = f_X12_readMark_49 τ 493 else True) := by split <;> trivial
      rw [← hsv']
      by_cases qb : b = true
      · obtain ⟨σ2, τ2, e1, e2, e3, e4, e5, e6⟩ := s_advance h
        have hq := hiff.mp qb
        refine ⟨iZ z, iZ z, σ2, τ2, ?_, fun l1 => ?_, e3, fun _ => ⟨hk, d, by omega, by rw [hd], by rw [hd], fun c' hc' hc6 => ?_⟩, e5, e6⟩
        · rw [ieqF rfl im1 qz (by omega) (by omega) (by omega) (by omega)]
          by_cases q1 : zz = -1
          · rw [ieqT rfl im1 q1, e1, Option.bind_some]
          · rw [ieqF rfl im1 q1 (by omega) (by omega) (by omega) (by omega), ieqT rfl rfl (by omega), e1, Option.bind_some]
        · rw [Option.bind_some, ieqF rfl im1 qz (by omega) (by omega) (by omega) (by omega)]
          unfold f_X12_readMark_28 f_X12_readMark_49
          rw [m_check1, Option.bind_some, if_pos h32, g5, hd, m1, Option.bind_some, ibT qb, mk54, m_check1, Option.bind_some, e2, Option.bind_some]
        · have ec : c' = c := by
            rw [g4] at hc'
            rw [iZ_eq (by omega) (by omega) (by omega) (by omega)] at hc'
            omega
          rw [ec]
          exact m2.mp qb
      · have hq : ¬ (zz = -1 ∨ zz = z) := fun g => qb (hiff.mpr g)
        obtain ⟨σ1, τ1, σ2, τ2, a1, a2, a3, a4, a5, a6, a7, a8, a9⟩ := bad 4 (by omega) (by omega)
        have a1' : f_X9_fail σ 1 4 = some σ1 := a1
        have a2' : f_X12_check τ 493 0 4 = some τ1 := a2
        refine ⟨iZ z, iZ z, σ2, τ2, ?_, fun l1 => ?_, a6, fun g => absurd g a7, a8, a9⟩
        · rw [ieqF rfl im1 qz (by omega) (by omega) (by omega) (by omega), ieqF rfl im1 (fun g => hq (Or.inl g)) (by omega) (by omega) (by omega) (by omega), ieqF rfl rfl (fun g => hq (Or.inr g)) (by omega) (by omega) (by omega) (by omega), a1', Option.bind_some, a3, Option.bind_some]
        · rw [Option.bind_some, ieqF rfl im1 qz (by omega) (by omega) (by omega) (by omega)]
          unfold f_X12_readMark_28
          rw [m_check1, Option.bind_some, if_pos h32, g5, hd, m1, Option.bind_some, ibF qb, mk54, a2', Option.bind_some, a4, Option.bind_some]
    · -- there is an error already
      have h32 : ¬ ms_i τ 493 32 = 0 := fun g => hk (h.m0.mp g)
      obtain ⟨σ2, τ2, e1, e2, e3, e4, e5, e6⟩ := s_advance h
      obtain ⟨σ1, τ1, σ3, τ3, a1, a2, a3, a4, a5, a6, a7, a8, a9⟩ := bad 4 (by omega) (by omega)
      have a1' : f_X9_fail σ 1 4 = some σ1 := a1
      have a2' : f_X12_check τ 493 0 4 = some τ1 := a2
      have et : τ2 = τ := by
        unfold f_X12_advance at e2
        rw [if_neg h32] at e2
        exact (Option.some.inj e2).symm
      have et3 : τ1 = τ := by
        unfold f_X12_check f_X12_flaw at a2'
        rw [if_pos rfl, if_neg h32, Option.bind_some] at a2'
        exact (Option.some.inj a2').symm
      have et4 : τ3 = τ := by
        rw [et3] at a4
        unfold f_X12_advance at a4
        rw [if_neg h32] at a4
        exact (Option.some.inj a4).symm
      have hmm : ∀ l1, (if iZ z = -1 then f_X12_readMark_28 τ 493 l1 y (iZ z) 0 493 else f_X12_readMark_28 τ 493 l1 y (iZ z) 1 493) = mkTail τ l1 y (iZ z) := by
        intro l1
        rw [ieqF rfl im1 qz (by omega) (by omega) (by omega) (by omega)]
        unfold f_X12_readMark_28 f_X12_readMark_49
        rw [m_check1, Option.bind_some, if_neg h32, mk54, m_check1, Option.bind_some, e2, Option.bind_some, et]
      rw [ieqF rfl im1 qz (by omega) (by omega) (by omega) (by omega)]
      by_cases q1 : sv = -1
      · rw [if_pos q1]
        exact ⟨iZ z, iZ z, σ2, τ2, by rw [e1, Option.bind_some], fun l1 => by rw [et]; exact hmm l1, e3, fun g => absurd (e4.mp g) hk, e5, e6⟩
      · rw [if_neg q1]
        by_cases q2 : sv = iZ z
        · rw [if_pos q2]
          exact ⟨iZ z, iZ z, σ2, τ2, by rw [e1, Option.bind_some], fun l1 => by rw [et]; exact hmm l1, e3, fun g => absurd (e4.mp g) hk, e5, e6⟩
        · rw [if_neg q2]
          exact ⟨iZ z, iZ z, σ3, τ3, by rw [a1', Option.bind_some, a3, Option.bind_some], fun l1 => by rw [et4]; exact hmm l1, a6, fun g => absurd g a7, a8, a9⟩
theorem s_mark {σ0 : MsSt} (ha : f_X9_advance σ0 1 = some σ) (hS : Sim σ τ B E) (hk : okT σ) (hD : DrR σ τ w N) (hSh : ShC σ (w 0)) (h39 : w 0 < 40) : ∃ σ' τ', f_X8_readMark σ0 139 = some σ' ∧ (f_X12_readMark τ 493 (iZ (w 0 : Int))).bind (fun s => f_X12_readSign_81 s 493) = some τ' ∧ Sim σ' τ' B E ∧ ShC σ' (w 0 + 1) ∧ (okT σ' → ∃ v N', DrR σ' τ' (asg w v) N') ∧ Fr FCd σ σ' ∧ Fr FMd τ τ' := by
  have l5 : ms_ln 495 = 527 := m_ln.2.1
  have hq : SgA (140 + 2 + 3 * w 0) := Or.inl ⟨w 0, h39, rfl⟩
  have hD0 := hD
  obtain ⟨⟨a0, a1⟩, a2, a3, a4, a5, a6, a7, a8, a9, rest⟩ := hD
  have ne : ∀ {s : MsSt} {a k j : Nat} {v : Int32}, j ≠ k → ms_i (ms_si s a k v) a j = ms_i s a j := fun h => i_si_ne (Or.inr h)
  have ne' : ∀ {s : MsSt} {a b k j : Nat} {v : Int32}, b ≠ a → ms_i (ms_si s a k v) b j = ms_i s b j := fun h => i_si_ne (Or.inl h)
  obtain ⟨x0, s4, t1, A1, A2, S1, K1, F1, G1⟩ := s_name hS hSh h39 (fun _ => ⟨a7 0 (by omega), a2, a3, a8⟩)
  obtain ⟨s5, B1, ⟨c1, c2, c3, c4⟩, R5, F5⟩ := c_begin (σ := s4) hq 1 x0
  have S5 : Sim s5 t1 B E := S1.fr F5 (Fr.refl (fun _ _ => False) _) (by intros; omega) (by intros; omega) (by intros; exact id) (by intros; exact id)
  obtain ⟨x1, y1, s6, t2, d1, d2, S6, K6, F6, G6⟩ := s_number S5 (lo := 1) (hi := 60) (by omega) (by omega)
  have S7 : Sim (ms_si s6 (140 + 2 + 3 * w 0) 4 x1) t2 B E := S6.fr (Fr.si (P := fun c _ => c = 140 + 2 + 3 * w 0) _ _ rfl) (Fr.refl (fun _ _ => False) _) (by intros; omega) (by intros; omega) (by intros; exact id) (by intros; exact id)
  have FB : Fr (fun a k => FTc a k ∨ a = 140 + 2 + 3 * w 0 ∨ (a = 140 + 2 + 3 * w 0 + 1 ∧ k = 1)) σ (ms_si s6 (140 + 2 + 3 * w 0) 4 x1) := (((F1.mono fun a k g => Or.inl g).trans (F5.mono fun a k g => Or.inr g)).trans (F6.mono fun a k g => Or.inl g)).trans (Fr.si _ _ (Or.inr (Or.inl rfl)))
  have Sh7 : ShC (ms_si s6 (140 + 2 + 3 * w 0) 4 x1) (w 0) := by
    refine ⟨(FB.1 _ _ (by unfold FTc; omega)).trans a0, hSh.2.1, fun q hq' => ?_⟩
    obtain ⟨c, g1, g2⟩ := hSh.2.2 q hq'
    by_cases qe : q = 140 + 2 + 3 * w 0
    · refine ⟨0, by omega, ?_⟩
      rw [qe, ne' (by omega), ft_no F6 (by omega), R5.cnt]
      rfl
    · refine ⟨c, g1, ?_⟩
      have hd : q + 1 ≠ 140 + 2 + 3 * w 0 ∧ q + 1 ≠ 140 + 2 + 3 * w 0 + 1 ∧ q + 1 ≠ 140 + 2 + 3 * w 0 + 2 := by
        rcases hq' with ⟨s, hs, rfl⟩ | rfl <;> omega
      have hr := sgA_row hq'
      rw [FB.1 _ _ (by unfold FTc; omega)]
      exact g2
  have M2 : ∀ t : MsSt, Fr FMd τ t → (∀ k, ms_i t 495 k = ms_i τ 495 k) → Mw t 495 w := fun t _ ht k hk => (ht k).trans (a7 k hk)
  have G2 : ∀ k, ms_i t2 495 k = ms_i τ 495 k := fun k => by rw [gt_no G6 (by omega), G1.1 _ _ (by unfold FTm; omega)]
  obtain ⟨x2, y2, s8, t4, d3, d4, S8, K8, F8, G8⟩ := s_side S7 (x := x1) (y := y1) Sh7 (fun ho => by
    obtain ⟨o5, c, p1, p2, p3, p4⟩ := K6 ((ok_si (by omega)).mp ho)
    refine ⟨⟨Sh7.1, fun s hs => (a1 s hs).frD FB (fun b k b1 b2 => by unfold FTc; omega)⟩, a9, M2 _ ((md_g G1).trans (md_n G6)) G2, c, p1, p2, p4⟩)
  have S9 : Sim (ms_si s8 (140 + 2 + 3 * w 0) 5 x2) (ms_si (ms_si t4 495 (247 + 7 * w 0 + 0) 1) 495 (247 + 7 * w 0 + 1) y1) B E := (sim_si S8 (by omega) (by omega) : Sim (ms_si s8 (140 + 2 + 3 * w 0) 5 x2) (ms_si t4 495 (247 + 7 * w 0 + 0) 1) B E).fr (Fr.refl (fun _ _ => False) _) (Fr.si (P := fun c _ => c = 495) _ _ rfl) (by intros; exact id) (by intros; exact id) (by intros; omega) (by intros; omega)
  obtain ⟨x3, y3, s10, t6, d5, d6, S10, K10, F10, G10⟩ := s_number S9 (lo := 1) (hi := 9) (by omega) (by omega)
  have S11 : Sim (ms_si s10 (140 + 2 + 3 * w 0) 6 x3) (ms_si t6 495 (247 + 7 * w 0 + 3) y3) B E := sim_si S10 (by omega) (by omega)
  obtain ⟨x4, y4, s12, t8, d7, d8, S12, K12, F12, G12⟩ := s_number S11 (lo := 1) (hi := 9) (by omega) (by omega)
  have S13 : Sim (ms_si s12 (140 + 2 + 3 * w 0) 7 x4) (ms_si t8 495 (247 + 7 * w 0 + 4) y4) B E := sim_si S12 (by omega) (by omega)
  obtain ⟨x5, y5, s14, t10, d9, d10, S14, K14, F14, G14⟩ := s_number S13 (lo := 0) (hi := 9) (by omega) (by omega)
  have S15 : Sim (ms_si s14 (140 + 2 + 3 * w 0) 10 x5) (ms_si (ms_si t10 495 (247 + 7 * w 0 + 5) y5) 495 (247 + 7 * w 0 + 6) y2) B E := (sim_si S14 (by omega) (by omega) : Sim (ms_si s14 (140 + 2 + 3 * w 0) 10 x5) (ms_si t10 495 (247 + 7 * w 0 + 5) y5) B E).fr (Fr.refl (fun _ _ => False) _) (Fr.si (P := fun c _ => c = 495) _ _ rfl) (by intros; exact id) (by intros; exact id) (by intros; omega) (by intros; omega)
  have e4 : ms_i s4 140 4 = iZ (w 0 : Int) := (ft_no F1 (by omega) _).trans a0
  have FA : Fr (FQ (140 + 2 + 3 * w 0)) s5 (ms_si s14 (140 + 2 + 3 * w 0) 10 x5) := (((((((((fq_n F6).trans (fq_s _ _)).trans (fq_n F8)).trans (fq_s _ _)).trans (fq_n F10)).trans (fq_s _ _)).trans (fq_n F12)).trans (fq_s _ _)).trans (fq_n F14)).trans (fq_s _ _)
  have e13 : ms_i (ms_si s14 (140 + 2 + 3 * w 0) 10 x5) 140 4 = iZ (w 0 : Int) := by
    rw [FA.1 _ _ (by unfold FQ FTc; omega), F5.1 _ _ (by omega)]
    exact e4
  obtain ⟨s16, B2, R16, P16, F16⟩ := c_addPart (x := w 0) hq (R5.fr FA (by unfold FQ FTc; omega) (by unfold FQ FTc; intros; omega)) (by show 0 < 6; omega)
  have S16 : Sim s16 (ms_si (ms_si t10 495 (247 + 7 * w 0 + 5) y5) 495 (247 + 7 * w 0 + 6) y2) B E := S15.fr F16 (Fr.refl (fun _ _ => False) _) (by intros; omega) (by intros; omega) (by intros; exact id) (by intros; exact id)
  have e16 : ms_i s16 140 4 = iZ (w 0 : Int) := (F16.1 _ _ (by omega)).trans e13
  have m16 : ms_i (ms_si (ms_si t10 495 (247 + 7 * w 0 + 5) y5) 495 (247 + 7 * w 0 + 6) y2) 495 0 = iZ (w 0 : Int) := by
    rw [ne (by omega), ne (by omega), gt_no G14 (by omega), ne (by omega), gt_no G12 (by omega), ne (by omega), gt_no G10 (by omega), ne (by omega), ne (by omega), gt_no G8 (by omega), G2]
    exact a7 0 (by omega)
  obtain ⟨σ', τ', B3, B4, S17, K17, e17, m17, F17, G17⟩ := s_endSign S16 e16 m16
  have A1' : f_X8_takeName σ 139 = some (x0, s4) := A1
  have ad : ∀ (t : MsSt) (f : Nat) (y : Int32), f < 7 → ms_ast t 495 (iZ (247 + 7 * (w 0 : Int) + (f : Int))) y = some (ms_si t 495 (247 + 7 * w 0 + f) y) := fun t f y hf => ast_z (by omega) (by omega) (by omega)
  have hcell : ∀ k, k ≠ 3 → ms_i σ' (140 + 2 + 3 * w 0) k = ms_i (ms_si s14 (140 + 2 + 3 * w 0) 10 x5) (140 + 2 + 3 * w 0) k := fun k hk3 => by
    rw [F17.1 _ _ (by unfold FTc; omega), F16.1 _ _ (by omega)]
  have FE : Fr FCd σ σ' := ((((F1.mono fun a k g => Or.inl g).trans (F5.mono fun a k g => Or.inr (by omega))).trans (FA.mono fun a k g => by rcases g with g | g; exact Or.inl g; exact Or.inr (by omega))).trans (F16.mono fun a k g => Or.inr (by omega))).trans (F17.mono fun a k g => by rcases g with g | g; exact Or.inl g; exact Or.inr (by omega))
  refine ⟨σ', τ', ?_, ?_, S17, ⟨e17, by omega, fun q hq' => ?_⟩, fun hok => ?_, FE, ?_⟩
  · have d1' : f_X9_takeNumber s5 1 1 60 = some (x1, s6) := d1
    have d5' : f_X9_takeNumber (ms_si s8 (140 + 2 + 3 * w 0) 5 x2) 1 1 9 = some (x3, s10) := d5
    have d7' : f_X9_takeNumber (ms_si s10 (140 + 2 + 3 * w 0) 6 x3) 1 1 9 = some (x4, s12) := d7
    have d9' : f_X9_takeNumber (ms_si s12 (140 + 2 + 3 * w 0) 7 x4) 1 0 9 = some (x5, s14) := d9
    unfold f_X8_readMark f_X8_beginSign
    rw [y_rf0, y_rf1, ha, Option.bind_some, a0, told_s (a := 140) (Or.inr rfl) (by omega), Option.bind_some, A1', b2_s, B1, Option.bind_some, b2_s, d1', b2_s, nm_s, i_si_same, d3, b2_s, nm_s, d5', b2_s, nm_s, d7', b2_s, nm_s, d9', b2_s, nm_s, e13, B2, Option.bind_some, B3, Option.bind_some]
  · have d2' : f_X12_readNumber t1 493 1 60 = some (y1, t2) := d2
    have d6' : f_X12_readNumber (ms_si (ms_si t4 495 (247 + 7 * w 0 + 0) 1) 495 (247 + 7 * w 0 + 1) y1) 493 1 9 = some (y3, t6) := d6
    have d8' : f_X12_readNumber (ms_si t6 495 (247 + 7 * w 0 + 3) y3) 493 1 9 = some (y4, t8) := d8
    have d10' : f_X12_readNumber (ms_si t8 495 (247 + 7 * w 0 + 4) y4) 493 0 9 = some (y5, t10) := d10
    have ad0 : ∀ t y, ms_ast t 495 (iZ (247 + 7 * (w 0 : Int))) y = some (ms_si t 495 (247 + 7 * w 0 + 0) y) := fun t y => ast_z (by omega) (by omega) (by omega)
    have ad1 : ∀ t y, ms_ast t 495 (iZ (247 + 7 * (w 0 : Int) + 1)) y = some (ms_si t 495 (247 + 7 * w 0 + 1) y) := fun t y => ad t 1 y (by omega)
    have ad3 : ∀ t y, ms_ast t 495 (iZ (247 + 7 * (w 0 : Int) + 3)) y = some (ms_si t 495 (247 + 7 * w 0 + 3) y) := fun t y => ad t 3 y (by omega)
    have ad4 : ∀ t y, ms_ast t 495 (iZ (247 + 7 * (w 0 : Int) + 4)) y = some (ms_si t 495 (247 + 7 * w 0 + 4) y) := fun t y => ad t 4 y (by omega)
    have ad5 : ∀ t y, ms_ast t 495 (iZ (247 + 7 * (w 0 : Int) + 5)) y = some (ms_si t 495 (247 + 7 * w 0 + 5) y) := fun t y => ad t 5 y (by omega)
    have ad6 : ∀ t y, ms_ast t 495 (iZ (247 + 7 * (w 0 : Int) + 6)) y = some (ms_si t 495 (247 + 7 * w 0 + 6) y) := fun t y => ad t 6 y (by omega)
    have hRM : f_X12_readMark τ 493 (iZ (w 0 : Int)) = mkSide t2 (iZ (w 0 : Int)) y1 := by
      unfold f_X12_readMark
      rw [A2, Option.bind_some, d2', b2_s]
      rfl
    rw [hRM, d4]
    unfold mkTail
    rw [m_rf1, of_0, Option.bind_some, ad0, Option.bind_some, of_1, Option.bind_some, ad1, Option.bind_some, of_3, Option.bind_some, d6', b2_s, ad3, Option.bind_some, of_4, Option.bind_some, d8', b2_s, ad4, Option.bind_some, of_5, Option.bind_some, d10', b2_s, ad5, Option.bind_some, of_6, Option.bind_some, ad6, Option.bind_some, Option.bind_some, B4]
  · obtain ⟨c, g1, g2⟩ := hSh.2.2 q hq'
    by_cases qe : q = 140 + 2 + 3 * w 0
    · refine ⟨1, by omega, ?_⟩
      rw [qe, F17.1 _ _ (by unfold FTc; omega), R16.cnt]
      rfl
    · refine ⟨c, g1, ?_⟩
      have hr := sgA_row hq'
      have hd : q + 1 ≠ 140 + 2 + 3 * w 0 ∧ q + 1 ≠ 140 + 2 + 3 * w 0 + 1 ∧ q + 1 ≠ 140 + 2 + 3 * w 0 + 2 := by
        rcases hq' with ⟨s, hs, rfl⟩ | rfl <;> omega
      rw [F17.1 _ _ (by unfold FTc; omega), F16.1 _ _ (by omega), FA.1 _ _ (by unfold FQ FTc; omega), F5.1 _ _ (by omega), ft_no F1 (by omega)]
      exact g2
  · have o14 := K17 hok
    obtain ⟨o13, v5, p7, p8, p9, p10⟩ := K14 ((ok_si (by omega)).mp ((ok_fr F16 (by omega)).mp o14))
    obtain ⟨o11, v4, p11, p12, p13, p14⟩ := K12 ((ok_si (by omega)).mp o13)
    obtain ⟨o9, v3, p15, p16, p17, p18⟩ := K10 ((ok_si (by omega)).mp o11)
    obtain ⟨o7, d, p23, p24, p25, p26⟩ := K8 ((ok_si (by omega)).mp o9)
    obtain ⟨o5, v1, p19, p20, p21, p22⟩ := K6 ((ok_si (by omega)).mp o7)
    obtain ⟨-, N', n1, n2, n3, n4⟩ := K1 ((ok_fr F5 (by omega)).mp o5)
    have p27 := p26 v1 p19 p22
    have M1 : Mw t2 495 w := M2 _ ((md_g G1).trans (md_n G6)) G2
    have M3 := mw_up5 (i := 247 + 7 * w 0 + 0) (v := 1) (x := 1) (M1.fr G8 (by unfold FTm; intros; omega)) rfl
    have M4 := mw_up5 (i := 247 + 7 * w 0 + 1) M3 p20
    have M5 := mw_up5 (i := 247 + 7 * w 0 + 3) (M4.fr G10 (by unfold FTm; intros; omega)) p16
    have M6 := mw_up5 (i := 247 + 7 * w 0 + 4) (M5.fr G12 (by unfold FTm; intros; omega)) p12
    have M7 := mw_up5 (i := 247 + 7 * w 0 + 5) (M6.fr G14 (by unfold FTm; intros; omega)) p8
    have M8 := mw_up5 (i := 247 + 7 * w 0 + 6) M7 p25
    have hz := rest.2.2.2.2
    refine ⟨fun f => if f = 0 then 1 else if f = 1 then v1 else if f = 3 then v3 else if f = 4 then v4 else if f = 5 then v5 else if f = 6 then d else 0, N', hD0.add (u := uw (uw (uw (uw (uw (uw (uw w (247 + 7 * w 0 + 0) 1) (247 + 7 * w 0 + 1) v1) (247 + 7 * w 0 + 3) v3) (247 + 7 * w 0 + 4) v4) (247 + 7 * w 0 + 5) v5) (247 + 7 * w 0 + 6) d) 0 (w 0 + 1)) h39 ?_ e17 ?_ ?_ ?_ n1 (fun k hk => ?_) (fun k hk => ?_) (fun s k hs hk => ?_) n4⟩
    · exact ((((F1.mono fun a k g => Or.inl g.1).trans (F5.mono fun a k g => Or.inr (Or.inr (by omega)))).trans (FA.mono fun a k g => by unfold FQ FTc at g; omega)).trans (F16.mono fun a k g => Or.inr (Or.inr (by omega)))).trans (F17.mono fun a k g => by unfold FTc at g; omega)
    · refine ⟨by show 1 ≤ 2; omega, fun g => absurd (show (1 : Nat) = 0 from g) (by omega), fun _ => ⟨p21, p22, p17, p18, p13, p14, p10, p23⟩, fun g => absurd (show (1 : Nat) = 2 from g) (by omega), fun g => absurd (show (1 : Nat) = 2 from g) (by omega), fun _ => p27⟩
    · have hex : ex (asg w (fun f => if f = 0 then 1 else if f = 1 then v1 else if f = 3 then v3 else if f = 4 then v4 else if f = 5 then v5 else if f = 6 then d else 0)) (w 0) = [w 0] := ex_one (by rw [as_KdN]; show (1 : Nat) ≠ 2; omega)
      unfold SgRep
      rw [as_KdN, as_ClN, as_sgFN (by omega), as_sgFN (by omega), as_sgFN (by omega), as_sgFN (by omega), hex]
      have z1 : ms_i (ms_si s14 (140 + 2 + 3 * w 0) 10 x5) (140 + 2 + 3 * w 0) 7 = x4 := by rw [ne (by omega), ft_no F14 (by omega), i_si_same]
      have z2 : ms_i (ms_si s14 (140 + 2 + 3 * w 0) 10 x5) (140 + 2 + 3 * w 0) 6 = x3 := by rw [ne (by omega), ft_no F14 (by omega), ne (by omega), ft_no F12 (by omega), i_si_same]
      have z3 : ms_i (ms_si s14 (140 + 2 + 3 * w 0) 10 x5) (140 + 2 + 3 * w 0) 5 = x2 := by rw [ne (by omega), ft_no F14 (by omega), ne (by omega), ft_no F12 (by omega), ne (by omega), ft_no F10 (by omega), i_si_same]
      have z5 : ms_i (ms_si s14 (140 + 2 + 3 * w 0) 10 x5) (140 + 2 + 3 * w 0) 4 = x1 := by rw [ne (by omega), ft_no F14 (by omega), ne (by omega), ft_no F12 (by omega), ne (by omega), ft_no F10 (by omega), ne (by omega), ft_no F8 (by omega), i_si_same]
      have z4 : ∀ k, k ≠ 4 → k ≠ 5 → k ≠ 6 → k ≠ 7 → k ≠ 10 → ms_i (ms_si s14 (140 + 2 + 3 * w 0) 10 x5) (140 + 2 + 3 * w 0) k = ms_i s5 (140 + 2 + 3 * w 0) k := fun k g1 g2 g3 g4 g5 => by rw [ne g5, ft_no F14 (by omega), ne g4, ft_no F12 (by omega), ne g3, ft_no F10 (by omega), ne g2, ft_no F8 (by omega), ne g1, ft_no F6 (by omega)]
      refine ⟨by rw [hcell 1 (by omega), z4 1 (by omega) (by omega) (by omega) (by omega) (by omega), c1]; rfl, ?_, by rw [hcell 4 (by omega), z5, p19]; rfl, ?_, fun _ => ⟨by rw [hcell 6 (by omega), z2, p15]; rfl, by rw [hcell 7 (by omega), z1, p11]; rfl, by rw [hcell 13 (by omega), z4 13 (by omega) (by omega) (by omega) (by omega) (by omega), c4]; rfl⟩, fun g => absurd (show (1 : Nat) = 0 from g) (by omega), fun _ => ⟨by rw [hcell 10 (by omega), i_si_same, p7]; rfl, by rw [hcell 5 (by omega), z3, p24]; rfl⟩, fun g => absurd (show (1 : Nat) = 2 from g) (by omega)⟩
      · rw [F17.1 _ _ (by unfold FTc; omega), P16]
        rfl
      · have := R16.fr F17 (by unfold FTc; omega) (by unfold FTc; intros; omega)
        rw [show 140 + 2 + 3 * w 0 + 1 = 140 + 3 + 3 * w 0 from by omega] at this
        exact this
    · rw [hcell 2 (by omega), ne (by omega), ft_no F14 (by omega), ne (by omega), ft_no F12 (by omega), ne (by omega), ft_no F10 (by omega), ne (by omega), ft_no F8 (by omega), ne (by omega), ft_no F6 (by omega), c2, n2]
    · by_cases g : k = 0
      · rw [g, m17, uw_eq]
      · rw [uw_ne g, G17.1 _ _ (by unfold FTm; omega)]
        exact M8 k hk
    · by_cases g : k = 0
      · rw [g, uw_eq, as_0]
      · rw [uw_ne g]
        by_cases g2 : 247 + 7 * w 0 ≤ k ∧ k < 254 + 7 * w 0
        · obtain ⟨f, hf, rfl⟩ : ∃ f, f < 7 ∧ k = 247 + 7 * w 0 + f := ⟨k - (247 + 7 * w 0), by omega, by omega⟩
          rw [as_f hf]
          have : f = 0 ∨ f = 1 ∨ f = 2 ∨ f = 3 ∨ f = 4 ∨ f = 5 ∨ f = 6 := by omega
          rcases this with rfl | rfl | rfl | rfl | rfl | rfl | rfl
          · rw [uw_ne (by omega), uw_ne (by omega), uw_ne (by omega), uw_ne (by omega), uw_ne (by omega), uw_eq]; rfl
          · rw [uw_ne (by omega), uw_ne (by omega), uw_ne (by omega), uw_ne (by omega), uw_eq]; rfl
          · rw [uw_ne (by omega), uw_ne (by omega), uw_ne (by omega), uw_ne (by omega), uw_ne (by omega), uw_ne (by omega)]; exact hz _ (by omega)
          · rw [uw_ne (by omega), uw_ne (by omega), uw_ne (by omega), uw_eq]; rfl
          · rw [uw_ne (by omega), uw_ne (by omega), uw_eq]; rfl
          · rw [uw_ne (by omega), uw_eq]; rfl
          · rw [uw_eq]; rfl
        · rw [uw_ne (by omega), uw_ne (by omega), uw_ne (by omega), uw_ne (by omega), uw_ne (by omega), uw_ne (by omega)]
          unfold asg
          rw [if_neg g, if_neg g2]
    · rw [G17.1 _ _ (by unfold FTm; omega), ne' (by omega), ne' (by omega), gt_no G14 (by omega), ne' (by omega), gt_no G12 (by omega), ne' (by omega), gt_no G10 (by omega), ne' (by omega), ne' (by omega), gt_no G8 (by omega), gt_no G6 (by omega)]
      exact n3 s k hs hk
  · exact ((((((((((((md_g G1).trans (md_n G6)).trans (md_n G8)).trans (md_s _ _)).trans (md_s _ _)).trans (md_n G10)).trans (md_s _ _)).trans (md_n G12)).trans (md_s _ _)).trans (md_n G14)).trans (md_s _ _)).trans (md_s _ _)).trans (md_e G17)
end Mk2
