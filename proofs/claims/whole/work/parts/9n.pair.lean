/-! a pair is read -/
section Pa
variable {σ τ : MsSt} {B w N : Nat → Nat} {E n : Nat}
theorem s_find (h : Sim σ τ B E) (hSh : ShC σ n) (hD : okT σ → ms_i τ 495 0 = iZ (n : Int) ∧ NmC σ 140 N n ∧ NmOK N n ∧ NmM τ 499 N n) : ∃ (z : Int) (y : Int32) (σ' τ' : MsSt), f_X8_findSign σ 139 = some (iZ z, σ') ∧ f_X12_lookSign τ 493 = some (y, τ') ∧ Sim σ' τ' B E ∧ (okT σ' → okT σ ∧ σ' = σ ∧ τ' = τ ∧ 0 ≤ z ∧ y = iZ z) ∧ -1 ≤ z ∧ z < (n : Int) ∧ Fr FTc σ σ' ∧ Fr FTm τ τ' := by
  have hn := hSh.2.1
  obtain ⟨b, u1, u2, u3⟩ := s_isName h
  unfold f_X8_findSign f_X12_lookSign
  rw [y_rf0, y_rf1, u1, u2, Option.bind_some, Option.bind_some]
  by_cases q : b = true
  · obtain ⟨hk, st, nx, t1, t2, t3, t4⟩ := u3 q
    obtain ⟨d1, d2, d3, d4⟩ := hD hk
    have hl : ∀ k : Nat, k < 4 → f_X12_letterHere τ 493 (iZ (k : Int)) = some (iZ (ltr B st nx k : Int)) ∧ ltr B st nx k < 128 := fun k hk => ⟨m_letter t3 t1 hk, ltr_128 t1 k⟩
    have hm := m_named (l := ltr B st nx) d1 hl d4 d3 hn
    have hc := c_findName (σ := σ) (l0 := ltr B st nx 0) (l1 := ltr B st nx 1) (l2 := ltr B st nx 2) (l3 := ltr B st nx 3) hSh.1 hn d2 d3 (ltr_128 t1 0) (ltr_128 t1 1) (ltr_128 t1 2) (ltr_128 t1 3)
    have hpk : f_X9_packedName σ 1 = some (iZ (pkN (ltr B st nx 0) (ltr B st nx 1) (ltr B st nx 2) (ltr B st nx 3) : Int)) := c_packed t2 t1
    have h32 := t3.2.2.2.2
    have hb := fsU_lt (nmP N (ltr B st nx 0) (ltr B st nx 1) (ltr B st nx 2) (ltr B st nx 3)) n 0
    rw [ibT q, hpk, Option.bind_some, hc, Option.bind_some, b01T q, m_check1, Option.bind_some, if_pos h32, hm, Option.bind_some]
    by_cases g : fsU (nmP N (ltr B st nx 0) (ltr B st nx 1) (ltr B st nx 2) (ltr B st nx 3)) 0 n = -1
    · obtain ⟨σ1, τ1, a1, a2, a3, a4, a5, a6⟩ := s_fail h (c := 4) (by omega) (by omega)
      have a1' : f_X9_fail σ 1 4 = some σ1 := a1
      have a2' : f_X12_check τ 493 0 4 = some τ1 := a2
      refine ⟨fsU (nmP N (ltr B st nx 0) (ltr B st nx 1) (ltr B st nx 2) (ltr B st nx 3)) 0 n, iZ (fsU (nmP N (ltr B st nx 0) (ltr B st nx 1) (ltr B st nx 2) (ltr B st nx 3)) 0 n), σ1, τ1, ?_, ?_, a3, fun g => absurd g a4, by omega, by omega, a5, a6⟩
      · rw [ieqT rfl im1 g, a1', Option.bind_some]
      · unfold f_X12_lookSign_24
        rw [if_pos h32, ieqT rfl im1 g, a2', Option.bind_some]
    · refine ⟨fsU (nmP N (ltr B st nx 0) (ltr B st nx 1) (ltr B st nx 2) (ltr B st nx 3)) 0 n, iZ (fsU (nmP N (ltr B st nx 0) (ltr B st nx 1) (ltr B st nx 2) (ltr B st nx 3)) 0 n), σ, τ, ?_, ?_, h, fun _ => ⟨hk, rfl, rfl, by omega, rfl⟩, by omega, by omega, Fr.refl _ _, Fr.refl _ _⟩
      · rw [ieqF rfl im1 g (by omega) (by omega) (by omega) (by omega)]
      · unfold f_X12_lookSign_24
        rw [if_pos h32, ieqF rfl im1 g (by omega) (by omega) (by omega) (by omega), m_check1, Option.bind_some]
  · obtain ⟨σ1, τ1, a1, a2, a3, a4, a5, a6⟩ := s_fail h (c := 1) (by omega) (by omega)
    have a1' : f_X9_fail σ 1 1 = some σ1 := a1
    have a2' : f_X12_check τ 493 0 1 = some τ1 := a2
    have h32 : ¬ ms_i τ1 493 32 = 0 := fun g => a4 (a3.m0.mp g)
    refine ⟨-1, -1, σ1, τ1, ?_, ?_, a3, fun g => absurd g a4, by omega, by omega, a5, a6⟩
    · rw [ibF q, a1', Option.bind_some]
      rfl
    · rw [b01F q, a2', Option.bind_some, if_neg h32]
      unfold f_X12_lookSign_24
      rw [if_neg h32, m_check1, Option.bind_some]
/-- the reference's rests of a pair -/
def prB (s11 : MsSt) (l1 l2 l3 : Int32) : Option MsSt :=
  ms_b2 (f_X12_accept s11 493 644) fun v12 s13 =>
  (f_X12_of s13 l1 0).bind fun v14 =>
  (ms_ast s13 (ms_rf 493 1) v14 2).bind fun s15 =>
  (f_X12_of s15 l1 3).bind fun v16 =>
  (ms_ast s15 (ms_rf 493 1) v16 l2).bind fun s17 =>
  (f_X12_of s17 l1 4).bind fun v18 =>
  (ms_ast s17 (ms_rf 493 1) v18 l3).bind fun s19 =>
  (f_X12_of s19 l1 5).bind fun v20 =>
  if v12 = 0 then
    (ms_ast s19 (ms_rf 493 1) v20 0).bind fun s21 =>
    some s21
  else
    (ms_ast s19 (ms_rf 493 1) v20 1).bind fun s22 =>
    some s22
def prA (s6 : MsSt) (l1 l2 : Int32) : Option MsSt :=
  ms_b2 (f_X12_lookSign s6 493) fun v7 s8 =>
  if (ms_i s8 493 32) = 0 then
    (f_X12_findPair s8 (ms_rf 493 1) l2 v7).bind fun v25 =>
    if v25 = (-1) then
      f_X12_readPair_100 s8 493 l1 l2 v7 493
    else
      f_X12_readPair_105 s8 493 l1 l2 v7 0 493
  else
    f_X12_readPair_100 s8 493 l1 l2 v7 493
def prF (s1 : MsSt) (l1 : Int32) : Option MsSt :=
  ms_b2 (f_X12_lookSign s1 493) fun v2 s3 =>
  if (ms_i s3 493 32) = 0 then
    (f_X12_of s3 v2 0).bind fun v27 =>
    (ms_ald s3 (ms_rf 493 1) v27).bind fun v28 =>
    if v28 = 1 then
      f_X12_readPair_36 s3 493 l1 v2 0 493
    else
      f_X12_readPair_31 s3 493 l1 v2 493
  else
    f_X12_readPair_31 s3 493 l1 v2 493
theorem pr66 (s : MsSt) (l1 l2 t0 : Int32) : f_X12_readPair_66 s 493 l1 l2 t0 493 = (f_X12_check s 493 t0 5).bind fun s5 => (f_X12_advance s5 493).bind fun s6 => prA s6 l1 l2 := rfl
theorem pr136 (s : MsSt) (l1 l2 l3 t0 : Int32) : f_X12_readPair_136 s 493 l1 l2 l3 t0 493 = (f_X12_check s 493 t0 4).bind fun s5 => (f_X12_advance s5 493).bind fun s6 => prB s6 l1 l2 l3 := rfl
theorem prRead (s : MsSt) (l1 : Int32) : f_X12_readPair s 493 l1 = (f_X12_readName s 493).bind fun s1 => prF s1 l1 := rfl
def DrM (σ τ : MsSt) (w N : Nat → Nat) : Prop := ScRep σ 140 w (w 0) ∧ SgsOK w (w 0) ∧ Mw τ 495 w ∧ NmC σ 140 N (w 0) ∧ NmOK N (w 0) ∧ NmM τ 499 N (w 0)
theorem s_badv (h : Sim σ τ B E) {c : Nat} (c1 : 1 ≤ c) (c2 : c ≤ 5) : ∃ σ1 τ1 σ2 τ2, f_X9_fail σ 1 (iZ (c : Int)) = some σ1 ∧ f_X12_check τ 493 0 (iZ (c : Int)) = some τ1 ∧ f_X9_advance σ1 1 = some σ2 ∧ f_X12_advance τ1 493 = some τ2 ∧ ¬ ms_i τ1 493 32 = 0 ∧ Sim σ2 τ2 B E ∧ ¬ okT σ2 ∧ Fr FTc σ σ2 ∧ Fr FTm τ τ2 := by
  obtain ⟨σ1, τ1, a1, a2, a3, a4, a5, a6⟩ := s_fail h c1 c2
  obtain ⟨σ2, τ2, b1, b2, b3, b4, b5, b6⟩ := s_advance a3
  exact ⟨σ1, τ1, σ2, τ2, a1, a2, b1, b2, fun g => a4 (a3.m0.mp g), b3, fun g => a4 (b4.mp g), a5.trans b5, a6.trans b6⟩
/-- behind an error the class goes on with what ends -/
theorem s_stuck (h : Sim σ τ B E) (hk : ¬ okT σ) : f_X12_advance τ 493 = some τ ∧ ∃ σ', f_X9_advance σ 1 = some σ' ∧ σ' = σ := by
  have h32 : ¬ ms_i τ 493 32 = 0 := fun g => hk (h.m0.mp g)
  refine ⟨by unfold f_X12_advance; rw [if_neg h32], σ, ?_, rfl⟩
  unfold f_X9_advance
  exact if_neg hk
theorem s_stuckF (h : Sim σ τ B E) (hk : ¬ okT σ) {c : Nat} (c1 : 1 ≤ c) (c2 : c ≤ 5) : ∃ σ2, ((f_X9_fail σ 1 (iZ (c : Int))).bind fun s => f_X9_advance s 1) = some σ2 ∧ Sim σ2 τ B E ∧ ¬ okT σ2 ∧ Fr FTc σ σ2 := by
  have h32 : ¬ ms_i τ 493 32 = 0 := fun g => hk (h.m0.mp g)
  obtain ⟨σ1, τ1, σ2, τ2, a1, a2, a3, a4, a5, a6, a7, a8, a9⟩ := s_badv h c1 c2
  have e1 : τ1 = τ := by
    unfold f_X12_check f_X12_flaw at a2
    rw [if_pos rfl, if_neg h32, Option.bind_some] at a2
    exact (Option.some.inj a2).symm
  have e2 : τ2 = τ := by
    rw [e1] at a4
    unfold f_X12_advance at a4
    rw [if_neg h32] at a4
    exact (Option.some.inj a4).symm
  exact ⟨σ2, by rw [a1, Option.bind_some, a3], by rw [← e2]; exact a6, a7, a8⟩
theorem s_first (h : Sim σ τ B E) (hSh : ShC σ (w 0)) (hD : okT σ → DrM σ τ w N) : ∃ (z : Int) (y : Int32) (σ' τ' : MsSt), f_X8_takeFirst σ 139 = some (iZ z, σ') ∧ (∀ l1, prF τ l1 = prA τ' l1 y) ∧ Sim σ' τ' B E ∧ (okT σ' → okT σ ∧ 0 ≤ z ∧ y = iZ z ∧ Kd w z.toNat ≠ 1 ∧ (ex w z.toNat).length ≤ 5) ∧ -1 ≤ z ∧ z < (w 0 : Int) ∧ Fr FTc σ σ' ∧ Fr FTm τ τ' := by
  have hn := hSh.2.1
  obtain ⟨z, y, σ1, τ1, a1, a2, a3, a4, a5, a6, a7, a8⟩ := s_find h hSh (fun hk => by
    obtain ⟨d1, d2, d3, d4, d5, d6⟩ := hD hk
    exact ⟨d3 0 (by omega), d4, d5, d6⟩)
  have h32 := a3.m0
  unfold f_X8_takeFirst prF
  rw [y_rf0, y_rf1, a1, a2, b2_s]
  by_cases hk : okT σ1
  · obtain ⟨k1, rfl, rfl, k2, k3⟩ := a4 hk
    obtain ⟨d1, d2, d3, d4, d5, d6⟩ := hD k1
    obtain ⟨s, rfl⟩ : ∃ s : Nat, z = (s : Int) := ⟨z.toNat, by omega⟩
    have hs : s < w 0 := by omega
    have hkb := (d2.2.1 s hs).1.1
    have hl6 := (d2.2.1 s hs).2
    have hp := m_parts (a := 495) d3 (Or.inr rfl) d2 hs
    have hkm : ms_ald σ1 495 (iZ 0) = ms_ald σ1 495 (iZ 0) := rfl
    have e32 := h32.mpr hk
    rw [kindOf_s d1 (Or.inr rfl) hs hn, Option.bind_some, told_s (a := 140) (Or.inr rfl) (by omega), Option.bind_some, (d1.2 s hs).2.1]
    by_cases q1 : Kd w s = 1
    · obtain ⟨u1, v1, u2, v2, b1, b2, b3, b4, b5, b6, b7, b8, b9⟩ := s_badv a3 (c := 4) (by omega) (by omega)
      have b1' : f_X9_fail _ 1 4 = some u1 := b1
      have b2' : f_X12_check _ 493 0 4 = some v1 := b2
      refine ⟨_, y, u2, v2, ?_, fun l1 => ?_, b6, fun g => absurd g b7, by omega, by omega, b8, b9⟩
      · rw [ieqT rfl i1 (by omega), b1', Option.bind_some, b3, Option.bind_some]
      · rw [b2_s, if_pos e32, k3, of_0, Option.bind_some, m_rf1, mw_get d3 (Or.inr rfl) (k := 247 + 7 * s) (by omega) (by omega), Option.bind_some, ieqT (x := iZ (w (247 + 7 * s) : Int)) (y := 1) (a := (Kd w s : Int)) (b := 1) rfl i1 (by omega)]
        unfold f_X12_readPair_36 f_X12_readPair_61
        rw [b2', Option.bind_some, if_neg b5, pr66, m_check1, Option.bind_some, b4, Option.bind_some]
    · have eM : ∀ l1, (f_X12_of τ1 y 0).bind (fun v27 => (ms_ald τ1 (ms_rf 493 1) v27).bind fun v28 => if v28 = 1 then f_X12_readPair_36 τ1 493 l1 y 0 493 else f_X12_readPair_31 τ1 493 l1 y 493) = (if iZ ((ex w s).length : Int) < 6 then f_X12_readPair_61 τ1 493 l1 y 493 else f_X12_readPair_66 τ1 493 l1 y 0 493) := by
        intro l1
        rw [k3, of_0, Option.bind_some, m_rf1, mw_get d3 (Or.inr rfl) (k := 247 + 7 * s) (by omega) (by omega), Option.bind_some, ieqF (x := iZ (w (247 + 7 * s) : Int)) (y := 1) (a := (Kd w s : Int)) (b := 1) rfl i1 (by omega) (by omega) (by omega) (by omega) (by omega)]
        unfold f_X12_readPair_31 f_X12_readPair_36
        rw [m_check1, Option.bind_some, if_pos e32, m_rf1, hp, Option.bind_some]
      rw [ieqF rfl i1 (by omega) (by omega) (by omega) (by omega) (by omega)]
      by_cases q2 : (ex w s).length < 6
      · obtain ⟨u2, v2, b1, b2, b3, b4, b5, b6⟩ := s_advance a3
        refine ⟨_, y, u2, v2, ?_, fun l1 => ?_, b3, fun _ => ⟨k1, by omega, k3, q1, by show (ex w s).length ≤ 5; omega⟩, by omega, by omega, b5, b6⟩
        · rw [iltT rfl i6 (by omega) (by omega) (by omega), b1, Option.bind_some]
        · rw [b2_s, if_pos e32, eM, iltT rfl i6 (by omega) (by omega) (by omega)]
          unfold f_X12_readPair_61
          rw [pr66, m_check1, Option.bind_some, b2, Option.bind_some]
      · obtain ⟨u1, v1, u2, v2, b1, b2, b3, b4, b5, b6, b7, b8, b9⟩ := s_badv a3 (c := 5) (by omega) (by omega)
        have b1' : f_X9_fail _ 1 5 = some u1 := b1
        have b2' : f_X12_check _ 493 0 5 = some v1 := b2
        refine ⟨_, y, u2, v2, ?_, fun l1 => ?_, b6, fun g => absurd g b7, by omega, by omega, b8, b9⟩
        · rw [iltF rfl i6 (by omega) (by omega) (by omega), b1', Option.bind_some, b3, Option.bind_some]
        · rw [b2_s, if_pos e32, eM, iltF rfl i6 (by omega) (by omega) (by omega), pr66, b2', Option.bind_some, b4, Option.bind_some]
  · have e32 : ¬ ms_i τ1 493 32 = 0 := fun g => hk (h32.mp g)
    obtain ⟨t1, σ2, t2, t3⟩ := s_stuck a3 hk
    subst t3
    have hmm : ∀ l1, ms_b2 (some (y, τ1)) (fun v2 s3 => if (ms_i s3 493 32) = 0 then (f_X12_of s3 v2 0).bind fun v27 => (ms_ald s3 (ms_rf 493 1) v27).bind fun v28 => if v28 = 1 then f_X12_readPair_36 s3 493 l1 v2 0 493 else f_X12_readPair_31 s3 493 l1 v2 493 else f_X12_readPair_31 s3 493 l1 v2 493) = prA τ1 l1 y := by
      intro l1
      rw [b2_s, if_neg e32]
      unfold f_X12_readPair_31 f_X12_readPair_36 f_X12_readPair_61
      rw [m_check1, Option.bind_some, if_neg e32, pr66, m_check1, Option.bind_some, t1, Option.bind_some]
    obtain ⟨kv, hkv⟩ := kind_t (σ := σ2) (iZ z)
    obtain ⟨q, hq, -⟩ := told_t (σ := σ2) (iZ z)
    rw [hkv, Option.bind_some, hq, Option.bind_some]
    by_cases q1 : kv = 1
    · obtain ⟨u2, b1, b2, b3, b4⟩ := s_stuckF a3 hk (c := 4) (by omega) (by omega)
      refine ⟨z, y, u2, τ1, ?_, hmm, b2, fun g => absurd g b3, a5, a6, a7.trans b4, a8⟩
      rw [if_pos q1]
      cases hf : f_X9_fail σ2 1 4 with
      | none => exact absurd (show (f_X9_fail σ2 1 4).bind _ = some u2 from b1) (by rw [hf]; intro g; cases g)
      | some s =>
        have : (f_X9_fail σ2 1 4).bind (fun s => f_X9_advance s 1) = some u2 := b1
        rw [hf, Option.bind_some] at this
        rw [Option.bind_some, this, Option.bind_some]
    · rw [if_neg q1]
      by_cases q2 : ms_i σ2 q 3 < 6
      · rw [if_pos q2]
        exact ⟨z, y, σ2, τ1, by rw [t2, Option.bind_some], hmm, a3, fun g => absurd g hk, a5, a6, a7, a8⟩
      · obtain ⟨u2, b1, b2, b3, b4⟩ := s_stuckF a3 hk (c := 5) (by omega) (by omega)
        refine ⟨z, y, u2, τ1, ?_, hmm, b2, fun g => absurd g b3, a5, a6, a7.trans b4, a8⟩
        rw [if_neg q2]
        cases hf : f_X9_fail σ2 1 5 with
        | none => exact absurd (show (f_X9_fail σ2 1 5).bind _ = some u2 from b1) (by rw [hf]; intro g; cases g)
        | some s =>
          have : (f_X9_fail σ2 1 5).bind (fun s => f_X9_advance s 1) = some u2 := b1
          rw [hf, Option.bind_some] at this
          rw [Option.bind_some, this, Option.bind_some]
theorem pr_mark {a b : Int} (hs : SgsOK w n) (h : pr w n a b ≠ -1) : ∃ s : Nat, s < n ∧ b = (s : Int) ∧ Kd w s = 1 := by
  unfold pr at h
  rcases fst0_range (prP w a b) n with g | ⟨i, h1, h2, h3⟩
  · exact absurd g h
  · have h4 : Kd w i = 2 ∧ (sgF w i 3 : Int) = a ∧ (sgF w i 4 : Int) = b := by simpa [prP] using h3
    obtain ⟨m1, m2, m3, m4, m5, m6⟩ := (hs.2.1 i h1).1.2.2.2 h4.1
    exact ⟨sgF w i 4, by omega, h4.2.2.symm, m5⟩
theorem s_second (h : Sim σ τ B E) (hSh : ShC σ (w 0)) {z1 : Int} {y1 : Int32} (hz1 : -1 ≤ z1) (hz2 : z1 < (w 0 : Int)) (hD : okT σ → DrM σ τ w N ∧ y1 = iZ z1 ∧ 0 ≤ z1) : ∃ (z : Int) (y : Int32) (σ' τ' : MsSt), f_X8_takeSecond σ 139 (iZ z1) = some (iZ z, σ') ∧ (∀ l1, prA τ l1 y1 = prB τ' l1 y1 y) ∧ Sim σ' τ' B E ∧ (okT σ' → okT σ ∧ 0 ≤ z ∧ y = iZ z ∧ Kd w z.toNat = 1) ∧ -1 ≤ z ∧ z < (w 0 : Int) ∧ Fr FTc σ σ' ∧ Fr FTm τ τ' := by
  have hn := hSh.2.1
  obtain ⟨z, y, σ1, τ1, a1, a2, a3, a4, a5, a6, a7, a8⟩ := s_find h hSh (fun hk => by
    obtain ⟨⟨d1, d2, d3, d4, d5, d6⟩, -⟩ := hD hk
    exact ⟨d3 0 (by omega), d4, d5, d6⟩)
  have h32 := a3.m0
  unfold f_X8_takeSecond prA
  rw [y_rf0, y_rf1, a1, a2, b2_s]
  by_cases hk : okT σ1
  · obtain ⟨k1, rfl, rfl, k2, k3⟩ := a4 hk
    obtain ⟨⟨d1, d2, d3, d4, d5, d6⟩, k4, k5⟩ := hD k1
    obtain ⟨s, rfl⟩ : ∃ s : Nat, z = (s : Int) := ⟨z.toNat, by omega⟩
    have hs : s < w 0 := by omega
    have hkb := (d2.2.1 s hs).1.1
    have e32 := h32.mpr hk
    have hfc := c_findPair (a := 140) (Or.inr rfl) d2 d1 (x := z1) (y := (s : Int)) (by omega) (by omega) (by omega) (by omega)
    have hfm := m_findPair (a := 495) (Or.inr rfl) d2 d3 rfl (x := z1) (y := (s : Int)) (by omega) (by omega) (by omega) (by omega)
    have hpb : -1 ≤ pr w (w 0) z1 (s : Int) ∧ pr w (w 0) z1 (s : Int) < 1000 := by
      unfold pr
      rcases fst0_range (prP w z1 (s : Int)) (w 0) with g | ⟨i, h1, h2, h3⟩ <;> omega
    have hK : ∀ l1, f_X12_readPair_100 τ1 493 l1 y1 y 493 = (if iZ (Kd w s : Int) = 1 then f_X12_readPair_131 τ1 493 l1 y1 y 493 else f_X12_readPair_136 τ1 493 l1 y1 y 0 493) := by
      intro l1
      unfold f_X12_readPair_100 f_X12_readPair_105
      rw [m_check1, Option.bind_some, if_pos e32, k3, of_0, Option.bind_some, m_rf1, mw_get d3 (Or.inr rfl) (k := 247 + 7 * s) (by omega) (by omega), Option.bind_some]
      rfl
    rw [kindOf_s d1 (Or.inr rfl) hs hn, Option.bind_some, hfc, Option.bind_some]
    by_cases q1 : Kd w s = 1
    · rw [ieqT rfl i1 (by omega)]
      by_cases q2 : pr w (w 0) z1 (s : Int) = -1
      · obtain ⟨u2, v2, b1, b2, b3, b4, b5, b6⟩ := s_advance a3
        refine ⟨_, y, u2, v2, ?_, fun l1 => ?_, b3, fun _ => ⟨k1, by omega, k3, q1⟩, by omega, by omega, b5, b6⟩
        · rw [ieqT rfl im1 q2, b1, Option.bind_some]
        · rw [b2_s, if_pos e32, m_rf1, k4, k3, hfm, Option.bind_some, ieqT rfl im1 q2, ← k4, ← k3, hK, ieqT rfl i1 (by omega)]
          unfold f_X12_readPair_131
          rw [pr136, m_check1, Option.bind_some, b2, Option.bind_some]
      · obtain ⟨u1, v1, u2, v2, b1, b2, b3, b4, b5, b6, b7, b8, b9⟩ := s_badv a3 (c := 3) (by omega) (by omega)
        have b1' : f_X9_fail _ 1 3 = some u1 := b1
        have b2' : f_X12_check _ 493 0 3 = some v1 := b2
        refine ⟨_, y, u2, v2, ?_, fun l1 => ?_, b6, fun g => absurd g b7, by omega, by omega, b8, b9⟩
        · rw [ieqF rfl im1 q2 (by omega) (by omega) (by omega) (by omega), b1', Option.bind_some, b3, Option.bind_some]
        · rw [b2_s, if_pos e32, m_rf1, k4, k3, hfm, Option.bind_some, ieqF rfl im1 q2 (by omega) (by omega) (by omega) (by omega)]
          unfold f_X12_readPair_105 f_X12_readPair_131
          rw [b2', Option.bind_some, if_neg b5, pr136, m_check1, Option.bind_some, b4, Option.bind_some]
    · have q2 : pr w (w 0) z1 (s : Int) = -1 := by
        by_cases g : pr w (w 0) z1 (s : Int) = -1
        · exact g
        · obtain ⟨s', g1, g2, g3⟩ := pr_mark d2 g
          have : s' = s := by omega
          rw [this] at g3
          exact absurd g3 q1
      obtain ⟨u1, v1, u2, v2, b1, b2, b3, b4, b5, b6, b7, b8, b9⟩ := s_badv a3 (c := 4) (by omega) (by omega)
      have b1' : f_X9_fail _ 1 4 = some u1 := b1
      have b2' : f_X12_check _ 493 0 4 = some v1 := b2
      refine ⟨_, y, u2, v2, ?_, fun l1 => ?_, b6, fun g => absurd g b7, by omega, by omega, b8, b9⟩
      · rw [ieqF rfl i1 (by omega) (by omega) (by omega) (by omega) (by omega), b1', Option.bind_some, b3, Option.bind_some]
      · rw [b2_s, if_pos e32, m_rf1, k4, k3, hfm, Option.bind_some, ieqT rfl im1 q2, ← k4, ← k3, hK, ieqF rfl i1 (by omega) (by omega) (by omega) (by omega) (by omega), pr136, b2', Option.bind_some, b4, Option.bind_some]
  · have e32 : ¬ ms_i τ1 493 32 = 0 := fun g => hk (h32.mp g)
    obtain ⟨t1, σ2, t2, t3⟩ := s_stuck a3 hk
    subst t3
    have hmm : ∀ l1, ms_b2 (some (y, τ1)) (fun v7 s8 => if (ms_i s8 493 32) = 0 then (f_X12_findPair s8 (ms_rf 493 1) y1 v7).bind fun v25 => if v25 = (-1) then f_X12_readPair_100 s8 493 l1 y1 v7 493 else f_X12_readPair_105 s8 493 l1 y1 v7 0 493 else f_X12_readPair_100 s8 493 l1 y1 v7 493) = prB τ1 l1 y1 y := by
      intro l1
      rw [b2_s, if_neg e32]
      unfold f_X12_readPair_100 f_X12_readPair_105 f_X12_readPair_131
      rw [m_check1, Option.bind_some, if_neg e32, pr136, m_check1, Option.bind_some, t1, Option.bind_some]
    obtain ⟨kv, hkv⟩ := kind_t (σ := σ2) (iZ z)
    have hc2 : ms_i σ2 140 4 = iZ (w 0 : Int) := (a7.1 _ _ (by unfold FTc; omega)).trans hSh.1
    obtain ⟨pv, hpv⟩ := pair_t hc2 hn (iZ z1) (iZ z)
    rw [hkv, Option.bind_some, hpv, Option.bind_some]
    have stk : ∀ c : Nat, 1 ≤ c → c ≤ 5 → ∃ u2, ((f_X9_fail σ2 1 (iZ (c : Int))).bind fun s6 => (f_X9_advance s6 1).bind fun s7 => some (iZ z, s7)) = some (iZ z, u2) ∧ Sim u2 τ1 B E ∧ ¬ okT u2 ∧ Fr FTc σ u2 := by
      intro c c1 c2
      obtain ⟨u2, b1, b2, b3, b4⟩ := s_stuckF a3 hk c1 c2
      refine ⟨u2, ?_, b2, b3, a7.trans b4⟩
      cases hf : f_X9_fail σ2 1 (iZ (c : Int)) with
      | none => rw [hf] at b1; cases b1
      | some s =>
        rw [hf, Option.bind_some] at b1
        rw [Option.bind_some, b1, Option.bind_some]
    by_cases q1 : kv = 1
    · rw [if_pos q1]
      by_cases q2 : pv = -1
      · rw [if_pos q2]
        exact ⟨z, y, σ2, τ1, by rw [t2, Option.bind_some], hmm, a3, fun g => absurd g hk, a5, a6, a7, a8⟩
      · rw [if_neg q2]
        obtain ⟨u2, b1, b2, b3, b4⟩ := stk 3 (by omega) (by omega)
        exact ⟨z, y, u2, τ1, b1, hmm, b2, fun g => absurd g b3, a5, a6, b4, a8⟩
    · rw [if_neg q1]
      obtain ⟨u2, b1, b2, b3, b4⟩ := stk 4 (by omega) (by omega)
      exact ⟨z, y, u2, τ1, b1, hmm, b2, fun g => absurd g b3, a5, a6, b4, a8⟩
end Pa
