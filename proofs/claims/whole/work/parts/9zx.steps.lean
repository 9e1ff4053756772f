/-! one step of the law's loop: what the wrapper answers, what the reference answers, and what is compared -/
section St
variable {α β γ : Type} {σ : MsSt}
theorem alj_out (σ : MsSt) : ms_alj σ 517 0 = some (ms_j σ 517 0) := by
  unfold ms_alj
  rw [if_neg (show ¬ ((0 : Int32) < 0 ∨ ms_ln 517 ≤ (0 : Int32).toNatClampNeg) by decide +kernel), show (0 : Int32).toNatClampNeg = 0 by decide +kernel]
theorem asj_out (σ : MsSt) (v : Int64) : ms_asj σ 517 0 v = some (ms_sj σ 517 0 v) := by
  unfold ms_asj
  rw [if_neg (show ¬ ((0 : Int32) < 0 ∨ ms_ln 517 ≤ (0 : Int32).toNatClampNeg) by decide +kernel), show (0 : Int32).toNatClampNeg = 0 by decide +kernel]
theorem ald_out (σ : MsSt) : ms_aldd σ 518 0 = some (ms_d σ 518 0) := by
  unfold ms_aldd
  rw [if_neg (show ¬ ((0 : Int32) < 0 ∨ ms_ln 518 ≤ (0 : Int32).toNatClampNeg) by decide +kernel), show (0 : Int32).toNatClampNeg = 0 by decide +kernel]
theorem asd_out (σ : MsSt) (v : UInt64) : ms_asd σ 518 0 v = some (ms_sd σ 518 0 v) := by
  unfold ms_asd
  rw [if_neg (show ¬ ((0 : Int32) < 0 ∨ ms_ln 518 ≤ (0 : Int32).toNatClampNeg) by decide +kernel), show (0 : Int32).toNatClampNeg = 0 by decide +kernel]
theorem sj_ph (σ : MsSt) (v : Int64) : ms_sj σ 517 0 v = ph (ms_sj σ 517 0 v).2 σ := rfl
theorem sd_ph (σ : MsSt) (v : UInt64) : ms_sd σ 518 0 v = ph (ms_sd σ 518 0 v).2 σ := rfl
theorem thrown_of (σ : MsSt) : f_X12_thrown σ 493 = some (ms_i σ 493 7) := rfl
/-- what a wrapper and the reference have done: c the wrapper's number, b the reference's answer -/
def Pas (w : Option (Int32 × MsSt)) (fm : MsSt → Option (γ × MsSt)) (Q : MsSt → γ → Prop) : Prop := ∃ c s1 b s2, w = some (c, s1) ∧ fm s1 = some (b, s2) ∧ ms_i s2 493 7 = c ∧ (c = 0 → Q s2 b) ∧ IV s2
theorem hn_n_ok {e : Nat} (h : e ≤ 0) : ∃ c, hn_n e = some c ∧ c ≠ 0 ∧ c = if e = 0 then 1 else 2 := by
  obtain rfl : e = 0 := by omega
  exact ⟨1, rfl, by decide, rfl⟩
theorem hn_b_ok {e : Nat} (h : e ≤ 1) : ∃ c, hn_b e = some c ∧ c ≠ 0 ∧ c = if e = 0 then 1 else 2 := by
  obtain rfl | rfl : e = 0 ∨ e = 1 := by omega
  · exact ⟨1, rfl, by decide, rfl⟩
  · exact ⟨2, rfl, by decide, rfl⟩
theorem pasW {fc : MsSt → Option ((α ⊕ Nat) × MsSt)} {fm : MsSt → Option (γ × MsSt)} {R : (α ⊕ Nat) → Int32 → γ → Prop} {hn : Nat → Option Int32} {F : α → MsSt → Option (Int32 × MsSt)} {Q : MsSt → γ → Prop}
    (hk : AskW fc fm R) (hI : IV σ) (hF : ∀ v s, fc σ = some (.inl v, s) → ∃ x, F v s = some (0, ph x s) ∧ ∀ t b s2, R (.inl v) t b → t = 0 ∧ Q (ph x s2) b) (hE : ∀ e s, fc σ = some (.inr e, s) → ∃ c, hn e = some c ∧ c ≠ 0 ∧ ∀ t b, R (.inr e) t b → t = c) : Pas (ms_cx2 (fc σ) F hn) fm Q := by
  obtain ⟨r, σ1, e1, hf⟩ := hk σ hI
  cases r with
  | inl v =>
    obtain ⟨x, a1, a2⟩ := hF v σ1 e1
    obtain ⟨b, σ2, g1, g2, g3⟩ := hf x
    obtain ⟨q1, q2⟩ := a2 _ _ σ2 g2
    refine ⟨0, ph x σ1, b, ph x σ2, ?_, g1, q1, fun _ => q2, g3.ph⟩
    unfold ms_cx2
    rw [e1]
    exact a1
  | inr e =>
    obtain ⟨c, a1, a2, a3⟩ := hE e σ1 e1
    obtain ⟨b, σ2, g1, g2, g3⟩ := hf σ1.2
    refine ⟨c, σ1, b, ph σ1.2 σ2, ?_, g1, a3 _ _ g2, fun h => absurd h a2, g3.ph⟩
    unfold ms_cx2
    rw [e1]
    show (hn e).map _ = _
    rw [a1]
    rfl
theorem pasR {fc : MsSt → Option (α ⊕ Nat)} {fm : MsSt → Option (γ × MsSt)} {R : (α ⊕ Nat) → Int32 → γ → Prop} {hn : Nat → Option Int32} {F : α → Option (Int32 × MsSt)} {Q : MsSt → γ → Prop}
    (hk : AskR fc fm R) (hI : IV σ) (hF : ∀ v, fc σ = some (.inl v) → ∃ x, F v = some (0, ph x σ) ∧ ∀ t b s2, R (.inl v) t b → t = 0 ∧ Q (ph x s2) b) (hE : ∀ e, fc σ = some (.inr e) → ∃ c, hn e = some c ∧ c ≠ 0 ∧ ∀ t b, R (.inr e) t b → t = c) : Pas (ms_ct (fc σ) σ F hn) fm Q := by
  obtain ⟨r, e1, hf⟩ := hk σ hI
  cases r with
  | inl v =>
    obtain ⟨x, a1, a2⟩ := hF v e1
    obtain ⟨b, σ2, g1, g2, g3⟩ := hf x
    obtain ⟨q1, q2⟩ := a2 _ _ σ2 g2
    refine ⟨0, ph x σ, b, ph x σ2, ?_, g1, q1, fun _ => q2, g3.ph⟩
    unfold ms_ct
    rw [e1]
    exact a1
  | inr e =>
    obtain ⟨c, a1, a2, a3⟩ := hE e e1
    obtain ⟨b, σ2, g1, g2, g3⟩ := hf σ.2
    refine ⟨c, σ, b, ph σ.2 σ2, ?_, g1, a3 _ _ g2, fun h => absurd h a2, g3.ph⟩
    unfold ms_ct
    rw [e1]
    show (hn e).map _ = _
    rw [a1]
    rfl
/-- the answers' places -/
def QI (s : MsSt) (b : Int32) : Prop := ms_j s 517 0 = b.toInt64
def QJ (s : MsSt) (b : Int64) : Prop := ms_j s 517 0 = b
def QB (s : MsSt) (b : Int32) : Prop := ms_j s 517 0 = if b = 0 then 0 else 1
def QD (s : MsSt) (b : UInt64) : Prop := ms_d s 518 0 = b
def QF (s : MsSt) (b : UInt32) : Prop := ms_f2d b = some (FP.f2d b) ∧ ms_d s 518 0 = FP.f2d b
theorem j_out (σ s2 : MsSt) (v : Int64) : ms_j (ph (ms_sj σ 517 0 v).2 s2) 517 0 = v := by
  show ms_up σ.2.1 517 0 v 517 0 = v
  exact ms_up_same _ _ _ _
theorem d_out (σ s2 : MsSt) (v : UInt64) : ms_d (ph (ms_sd σ 518 0 v).2 s2) 518 0 = v := by
  show ms_up σ.2.2 518 0 v 518 0 = v
  exact ms_up_same _ _ _ _
def FI (v : Int32) (s : MsSt) : Option (Int32 × MsSt) := (ms_asj s 517 0 v.toInt64).bind fun s3 => some (0, s3)
def FJ (v : Int64) (s : MsSt) : Option (Int32 × MsSt) := (ms_asj s 517 0 v).bind fun s3 => some (0, s3)
def FB (v : Int32) (s : MsSt) : Option (Int32 × MsSt) := if v = 0 then (ms_asj s 517 0 0).bind fun s3 => some (0, s3) else (ms_asj s 517 0 1).bind fun s4 => some (0, s4)
def FD (v : UInt64) (s : MsSt) : Option (Int32 × MsSt) := (ms_asd s 518 0 v).bind fun s3 => some (0, s3)
def FFl (v : UInt32) (s : MsSt) : Option (Int32 × MsSt) := (ms_f2d v).bind fun v3 => (ms_asd s 518 0 v3).bind fun s4 => some (0, s4)
theorem fi_ok (v : Int32) (s : MsSt) : ∃ x, FI v s = some (0, ph x s) ∧ ∀ (t b : Int32) s2, Ok (.inl v) t b → t = 0 ∧ QI (ph x s2) b := by
  refine ⟨(ms_sj s 517 0 v.toInt64).2, ?_, fun t b s2 h => ⟨h.1, ?_⟩⟩
  · unfold FI
    rw [asj_out]
    rfl
  · unfold QI
    rw [j_out, show v = b from h.2]
theorem fl_ok (v : Int32) (s : MsSt) : ∃ x, FI v s = some (0, ph x s) ∧ ∀ (t b : Int32) s2, OkL (.inl v) t b → t = 0 ∧ QI (ph x s2) b := fi_ok v s
theorem fj_ok (v : Int64) (s : MsSt) : ∃ x, FJ v s = some (0, ph x s) ∧ ∀ (t : Int32) (b : Int64) s2, OkJ (.inl v) t b → t = 0 ∧ QJ (ph x s2) b := by
  refine ⟨(ms_sj s 517 0 v).2, ?_, fun t b s2 h => ⟨h.1, ?_⟩⟩
  · unfold FJ
    rw [asj_out]
    rfl
  · unfold QJ
    rw [j_out, show v = b from h.2]
theorem fb_ok (v : Int32) (s : MsSt) : ∃ x, FB v s = some (0, ph x s) ∧ ∀ (t b : Int32) s2, Ok (.inl v) t b → t = 0 ∧ QB (ph x s2) b := by
  by_cases hv : v = 0
  · refine ⟨(ms_sj s 517 0 0).2, ?_, fun t b s2 h => ⟨h.1, ?_⟩⟩
    · unfold FB
      rw [if_pos hv, asj_out]
      rfl
    · unfold QB
      rw [j_out, if_pos ((show v = b from h.2).symm.trans hv)]
  · refine ⟨(ms_sj s 517 0 1).2, ?_, fun t b s2 h => ⟨h.1, ?_⟩⟩
    · unfold FB
      rw [if_neg hv, asj_out]
      rfl
    · unfold QB
      rw [j_out, if_neg (fun q => hv ((show v = b from h.2).trans q))]
theorem fd_ok (v : UInt64) (s : MsSt) : ∃ x, FD v s = some (0, ph x s) ∧ ∀ (t : Int32) (b : UInt64) s2, OkD (.inl v) t b → t = 0 ∧ QD (ph x s2) b := by
  refine ⟨(ms_sd s 518 0 v).2, ?_, fun t b s2 h => ⟨h.1, ?_⟩⟩
  · unfold FD
    rw [asd_out]
    rfl
  · unfold QD
    rw [d_out, show v = b from h.2]
theorem ff_ok (v : UInt32) (s : MsSt) (hn : ms_f2d v = some (FP.f2d v)) : ∃ x, FFl v s = some (0, ph x s) ∧ ∀ (t : Int32) (b : UInt32) s2, OkF (.inl v) t b → t = 0 ∧ QF (ph x s2) b := by
  refine ⟨(ms_sd s 518 0 (FP.f2d v)).2, ?_, fun t b s2 h => ⟨h.1, ?_⟩⟩
  · unfold FFl
    rw [hn, Option.bind_some, asd_out]
    rfl
  · rw [← show v = b from h.2]
    exact ⟨hn, d_out _ _ _⟩
/-! what a wrapper's kind gives -/
theorem pas_RI {fc : MsSt → Option (Int32 ⊕ Nat)} {fm : MsSt → Option (Int32 × MsSt)} (hk : AskR fc fm Ok) (hz : AZ (E1 0) (fc σ)) (hI : IV σ) : Pas (ms_ct (fc σ) σ (fun v => FI v σ) hn_n) fm QI :=
  pasR hk hI (fun v _ => fi_ok v σ) (fun e h => by
    obtain ⟨c, a1, a2, a3⟩ := hn_n_ok (hz _ h e rfl)
    exact ⟨c, a1, a2, fun t b q => (show t = _ from q).trans a3.symm⟩)
theorem pas_WI {fc : MsSt → Option ((Int32 ⊕ Nat) × MsSt)} {fm : MsSt → Option (Int32 × MsSt)} (hk : AskW fc fm Ok) (hz : AZ (E2 0) (fc σ)) (hI : IV σ) : Pas (ms_cx2 (fc σ) FI hn_n) fm QI :=
  pasW hk hI (fun v s _ => fi_ok v s) (fun e s h => by
    obtain ⟨c, a1, a2, a3⟩ := hn_n_ok (hz _ h e rfl)
    exact ⟨c, a1, a2, fun t b q => (show t = _ from q).trans a3.symm⟩)
theorem pas_WT {fc : MsSt → Option ((Int32 ⊕ Nat) × MsSt)} {fm : MsSt → Option (Int32 × MsSt)} (hk : AskW fc fm Ok) (hz : AZ (E2 1) (fc σ)) (hI : IV σ) : Pas (ms_cx2 (fc σ) FI hn_b) fm QI :=
  pasW hk hI (fun v s _ => fi_ok v s) (fun e s h => by
    obtain ⟨c, a1, a2, a3⟩ := hn_b_ok (hz _ h e rfl)
    exact ⟨c, a1, a2, fun t b q => (show t = _ from q).trans a3.symm⟩)
theorem pas_WB {fc : MsSt → Option ((Int32 ⊕ Nat) × MsSt)} {fm : MsSt → Option (Int32 × MsSt)} (hk : AskW fc fm Ok) (hz : AZ (E2 0) (fc σ)) (hI : IV σ) : Pas (ms_cx2 (fc σ) FB hn_n) fm QB :=
  pasW hk hI (fun v s _ => fb_ok v s) (fun e s h => by
    obtain ⟨c, a1, a2, a3⟩ := hn_n_ok (hz _ h e rfl)
    exact ⟨c, a1, a2, fun t b q => (show t = _ from q).trans a3.symm⟩)
theorem pas_WJ {fc : MsSt → Option ((Int64 ⊕ Nat) × MsSt)} {fm : MsSt → Option (Int64 × MsSt)} (hk : AskW fc fm OkJ) (hz : AZ (E2 0) (fc σ)) (hI : IV σ) : Pas (ms_cx2 (fc σ) FJ hn_n) fm QJ :=
  pasW hk hI (fun v s _ => fj_ok v s) (fun e s h => by
    obtain ⟨c, a1, a2, a3⟩ := hn_n_ok (hz _ h e rfl)
    exact ⟨c, a1, a2, fun t b q => (show t = _ from q).trans a3.symm⟩)
theorem pas_WD {fc : MsSt → Option ((UInt64 ⊕ Nat) × MsSt)} {fm : MsSt → Option (UInt64 × MsSt)} (hk : AskW fc fm OkD) (hz : AZ (E2 0) (fc σ)) (hI : IV σ) : Pas (ms_cx2 (fc σ) FD hn_n) fm QD :=
  pasW hk hI (fun v s _ => fd_ok v s) (fun e s h => by
    obtain ⟨c, a1, a2, a3⟩ := hn_n_ok (hz _ h e rfl)
    exact ⟨c, a1, a2, fun t b q => (show t = _ from q).trans a3.symm⟩)
theorem pas_WF {fc : MsSt → Option ((UInt32 ⊕ Nat) × MsSt)} {fm : MsSt → Option (UInt32 × MsSt)} (hk : AskW fc fm OkF) (hz : AZ (E2 0) (fc σ)) (hf : ∀ v s, fc σ = some (.inl v, s) → ms_f2d v = some (FP.f2d v)) (hI : IV σ) : Pas (ms_cx2 (fc σ) FFl hn_n) fm QF :=
  pasW hk hI (fun v s h => ff_ok v s (hf v s h)) (fun e s h => by
    obtain ⟨c, a1, a2, a3⟩ := hn_n_ok (hz _ h e rfl)
    exact ⟨c, a1, a2, fun t b q => (show t = _ from q).trans a3.symm⟩)
theorem pas_WL {fc : MsSt → Option ((Int32 ⊕ Nat) × MsSt)} {fm : MsSt → Option (Int32 × MsSt)} (hk : AskW fc fm OkL) (hI : IV σ) : Pas (ms_cx2 (fc σ) FI hn_i) fm QI := by
  obtain ⟨r, σ1, e1, hf⟩ := hk σ hI
  refine pasW hk hI (fun v s _ => fl_ok v s) (fun e s h => ?_)
  rw [e1] at h
  cases h
  obtain ⟨b, σ2, g1, g2, g3⟩ := hf σ1.2
  have h1 : e = 1 := g2.1
  subst h1
  exact ⟨1, rfl, by decide, fun t b q => (show _ ∧ t = 1 from q).2⟩
/-! what the law does with it -/
variable {k : MsSt → Int32 → Option (Int32 × MsSt)} {i : Int32}
theorem lg_same (x : Int64) : lg_cmp x x = 0 := by
  unfold lg_cmp
  rw [if_neg (fun h => by rw [gt_iff_lt, Int64.lt_iff_toInt_lt] at h; omega), if_pos rfl]
theorem lawI {w : Option (Int32 × MsSt)} {fm : MsSt → Option (Int32 × MsSt)} (h : Pas w fm QI) : ∃ σ', IV σ' ∧ (ms_b2 w fun v s => ms_b2 (fm s) fun b s2 => (f_X12_thrown s2 493).bind fun t => if t = v then (if v = 0 then (ms_alj s2 517 0).bind fun z => if lg_cmp z b.toInt64 = 0 then k s2 i else some (0, s2) else k s2 i) else some (0, s2)) = k σ' i := by
  obtain ⟨c, s1, b, s2, e1, e2, e3, e4, e5⟩ := h
  refine ⟨s2, e5, ?_⟩
  rw [e1, b2_s, e2, b2_s, thrown_of, Option.bind_some, if_pos e3, alj_out, Option.bind_some]
  by_cases hc : c = 0
  · rw [if_pos hc, show ms_j s2 517 0 = b.toInt64 from e4 hc, lg_same, if_pos rfl]
  · rw [if_neg hc]
theorem lawJ {w : Option (Int32 × MsSt)} {fm : MsSt → Option (Int64 × MsSt)} (h : Pas w fm QJ) : ∃ σ', IV σ' ∧ (ms_b2 w fun v s => ms_b2 (fm s) fun b s2 => (f_X12_thrown s2 493).bind fun t => if t = v then (if v = 0 then (ms_alj s2 517 0).bind fun z => if lg_cmp z b = 0 then k s2 i else some (0, s2) else k s2 i) else some (0, s2)) = k σ' i := by
  obtain ⟨c, s1, b, s2, e1, e2, e3, e4, e5⟩ := h
  refine ⟨s2, e5, ?_⟩
  rw [e1, b2_s, e2, b2_s, thrown_of, Option.bind_some, if_pos e3, alj_out, Option.bind_some]
  by_cases hc : c = 0
  · rw [if_pos hc, show ms_j s2 517 0 = b from e4 hc, lg_same, if_pos rfl]
  · rw [if_neg hc]
theorem lawB {w : Option (Int32 × MsSt)} {fm : MsSt → Option (Int32 × MsSt)} (h : Pas w fm QB) : ∃ σ', IV σ' ∧ (ms_b2 w fun v s => ms_b2 (fm s) fun b s2 => (f_X12_thrown s2 493).bind fun t => if t = v then (if v = 0 then (ms_alj s2 517 0).bind fun z => if b = 0 then (if lg_cmp z 0 = 0 then k s2 i else some (0, s2)) else (if lg_cmp z 1 = 0 then k s2 i else some (0, s2)) else k s2 i) else some (0, s2)) = k σ' i := by
  obtain ⟨c, s1, b, s2, e1, e2, e3, e4, e5⟩ := h
  refine ⟨s2, e5, ?_⟩
  rw [e1, b2_s, e2, b2_s, thrown_of, Option.bind_some, if_pos e3, alj_out, Option.bind_some]
  by_cases hc : c = 0
  · have h4 : ms_j s2 517 0 = if b = 0 then 0 else 1 := e4 hc
    rw [if_pos hc]
    by_cases hb : b = 0
    · rw [if_pos hb] at h4 ⊢
      rw [h4, lg_same, if_pos rfl]
    · rw [if_neg hb] at h4 ⊢
      rw [h4, lg_same, if_pos rfl]
  · rw [if_neg hc]
theorem lawD {w : Option (Int32 × MsSt)} {fm : MsSt → Option (UInt64 × MsSt)} (h : Pas w fm QD) : ∃ σ', IV σ' ∧ (ms_b2 w fun v s => ms_b2 (fm s) fun b s2 => (f_X12_thrown s2 493).bind fun t => if t = v then (if v = 0 then (ms_aldd s2 518 0).bind fun z => if (Op.cmpValue (FP.dcmp z b) .l) = 0 then k s2 i else (ms_aldd s2 518 0).bind fun y1 => (ms_aldd s2 518 0).bind fun y2 => if (Op.cmpValue (FP.dcmp y1 y2) .l) = 0 then some (0, s2) else (if (Op.cmpValue (FP.dcmp b b) .l) = 0 then some (0, s2) else k s2 i) else k s2 i) else some (0, s2)) = k σ' i := by
  obtain ⟨c, s1, b, s2, e1, e2, e3, e4, e5⟩ := h
  refine ⟨s2, e5, ?_⟩
  rw [e1, b2_s, e2, b2_s, thrown_of, Option.bind_some, if_pos e3]
  by_cases hc : c = 0
  · have h4 : ms_d s2 518 0 = b := e4 hc
    rw [if_pos hc, ald_out, h4, Option.bind_some, Option.bind_some, Option.bind_some]
    by_cases hb : (Op.cmpValue (FP.dcmp b b) .l) = 0
    · rw [if_pos hb]
    · rw [if_neg hb, if_neg hb, if_neg hb]
  · rw [if_neg hc]
theorem lawF {w : Option (Int32 × MsSt)} {fm : MsSt → Option (UInt32 × MsSt)} (hcc : ∀ b : UInt32, ms_f2d b = some (FP.f2d b) → (Op.cmpValue (FP.fcmp b b) .l) = 0 → (Op.cmpValue (FP.dcmp (FP.f2d b) (FP.f2d b)) .l) = 0) (h : Pas w fm QF) : ∃ σ', IV σ' ∧ (ms_b2 w fun v s => ms_b2 (fm s) fun b s2 => (f_X12_thrown s2 493).bind fun t => if t = v then (if v = 0 then (ms_aldd s2 518 0).bind fun z => (ms_f2d b).bind fun z2 => if (Op.cmpValue (FP.dcmp z z2) .l) = 0 then k s2 i else (ms_aldd s2 518 0).bind fun y1 => (ms_aldd s2 518 0).bind fun y2 => if (Op.cmpValue (FP.dcmp y1 y2) .l) = 0 then some (0, s2) else (if (Op.cmpValue (FP.fcmp b b) .l) = 0 then some (0, s2) else k s2 i) else k s2 i) else some (0, s2)) = k σ' i := by
  obtain ⟨c, s1, b, s2, e1, e2, e3, e4, e5⟩ := h
  refine ⟨s2, e5, ?_⟩
  rw [e1, b2_s, e2, b2_s, thrown_of, Option.bind_some, if_pos e3]
  by_cases hc : c = 0
  · obtain ⟨h3, h4⟩ := e4 hc
    rw [if_pos hc, ald_out, h4, h3, Option.bind_some, Option.bind_some, Option.bind_some, Option.bind_some]
    by_cases hb : (Op.cmpValue (FP.dcmp (FP.f2d b) (FP.f2d b)) .l) = 0
    · rw [if_pos hb]
    · rw [if_neg hb, if_neg hb]
      by_cases hf : (Op.cmpValue (FP.fcmp b b) .l) = 0
      · exact absurd (hcc b h3 hf) hb
      · rw [if_neg hf]
  · rw [if_neg hc]
theorem lawE {fc : MsSt → Option (Int32 × MsSt)} {fm : MsSt → Option (Int32 × MsSt)} (hk : AskW fc fm Eq7) (hI : IV σ) : ∃ σ', IV σ' ∧ (ms_b2 (fc σ) fun v s => ms_b2 (fm s) fun b s2 => if v = b then k s2 i else some (0, s2)) = k σ' i := by
  obtain ⟨r, σ1, e1, hf⟩ := hk σ hI
  obtain ⟨b, σ2, g1, g2, g3⟩ := hf σ1.2
  refine ⟨ph σ1.2 σ2, g3.ph, ?_⟩
  rw [e1, b2_s, show fm σ1 = _ from g1, b2_s, if_pos g2.2]
theorem lawG {fc : MsSt → Option Int32} {fm : MsSt → Option (Int32 × MsSt)} (hk : AskR fc fm Eq7) (hI : IV σ) : ∃ σ', IV σ' ∧ ((fc σ).bind fun v => ms_b2 (fm σ) fun b s2 => if v = b then k s2 i else some (0, s2)) = k σ' i := by
  obtain ⟨r, e1, hf⟩ := hk σ hI
  obtain ⟨b, σ2, g1, g2, g3⟩ := hf σ.2
  refine ⟨ph σ.2 σ2, g3.ph, ?_⟩
  rw [e1, Option.bind_some, show fm σ = _ from g1, b2_s, if_pos g2.2]
end St
