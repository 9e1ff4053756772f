/-! divisions that are never NaN; meanMarks, shortness -/
section Me
theorem enc64 {c : Nat} {q : Int} (hc : c < 9007199254740992) (hq : q ≤ 971) : Jvm.FP.Core.encode Jvm.FP.Core.b64 (.fin false c q) ≤ 9218868437227405312 := by
  have ht : Jvm.FP.Core.Fmt.tails Jvm.FP.Core.b64 = 4503599627370496 := by decide +kernel
  have hx : Jvm.FP.Core.Fmt.exps Jvm.FP.Core.b64 = 2048 := by decide +kernel
  have hm : Jvm.FP.Core.Fmt.qmin Jvm.FP.Core.b64 = -1074 := by decide +kernel
  unfold Jvm.FP.Core.encode Jvm.FP.Core.assemble
  rw [ht, hx, hm]
  simp only [Bool.toNat_false]
  split <;> omega
theorem rr64 (c d : Nat) (e : Int) : Jvm.FP.Core.encode Jvm.FP.Core.b64 (Jvm.FP.Core.roundRatio Jvm.FP.Core.b64 false c d e) ≤ 9218868437227405312 := by
  have ht : Jvm.FP.Core.Fmt.tails Jvm.FP.Core.b64 = 4503599627370496 := by decide +kernel
  have hp : 2 ^ Jvm.FP.Core.Fmt.p Jvm.FP.Core.b64 = 9007199254740992 := by decide +kernel
  have hm : Jvm.FP.Core.Fmt.qmin Jvm.FP.Core.b64 = -1074 := by decide +kernel
  have hM : Jvm.FP.Core.Fmt.qmax Jvm.FP.Core.b64 = 971 := by decide +kernel
  have hi : Jvm.FP.Core.encode Jvm.FP.Core.b64 (.inf false) = 9218868437227405312 := by decide +kernel
  have hb : ∀ (c : Nat) (q : Int), c < 9007199254740992 → Jvm.FP.Core.encode Jvm.FP.Core.b64 (Jvm.FP.Core.bound Jvm.FP.Core.b64 false c q) ≤ 9218868437227405312 := by
    intro c q hc
    unfold Jvm.FP.Core.bound
    rw [hM]
    split
    · exact enc64 hc (by omega)
    · rw [hi]; exact Nat.le_refl _
  unfold Jvm.FP.Core.roundRatio
  split
  · rw [hm]
    exact enc64 (by omega) (by omega)
  · unfold Jvm.FP.Core.roundAt Jvm.FP.Core.settle
    rw [hp]
    split
    · exact hb _ _ (by omega)
    · exact hb _ _ (by rw [ht]; omega)
theorem enc32 {c : Nat} {q : Int} (hc : c < 16777216) (hq : q ≤ 104) : Jvm.FP.Core.encode Jvm.FP.Core.b32 (.fin false c q) ≤ 2139095040 := by
  have ht : Jvm.FP.Core.Fmt.tails Jvm.FP.Core.b32 = 8388608 := by decide +kernel
  have hx : Jvm.FP.Core.Fmt.exps Jvm.FP.Core.b32 = 256 := by decide +kernel
  have hm : Jvm.FP.Core.Fmt.qmin Jvm.FP.Core.b32 = -149 := by decide +kernel
  unfold Jvm.FP.Core.encode Jvm.FP.Core.assemble
  rw [ht, hx, hm]
  simp only [Bool.toNat_false]
  split <;> omega
theorem rr32 (c d : Nat) (e : Int) : Jvm.FP.Core.encode Jvm.FP.Core.b32 (Jvm.FP.Core.roundRatio Jvm.FP.Core.b32 false c d e) ≤ 2139095040 := by
  have ht : Jvm.FP.Core.Fmt.tails Jvm.FP.Core.b32 = 8388608 := by decide +kernel
  have hp : 2 ^ Jvm.FP.Core.Fmt.p Jvm.FP.Core.b32 = 16777216 := by decide +kernel
  have hm : Jvm.FP.Core.Fmt.qmin Jvm.FP.Core.b32 = -149 := by decide +kernel
  have hM : Jvm.FP.Core.Fmt.qmax Jvm.FP.Core.b32 = 104 := by decide +kernel
  have hi : Jvm.FP.Core.encode Jvm.FP.Core.b32 (.inf false) = 2139095040 := by decide +kernel
  have hb : ∀ (c : Nat) (q : Int), c < 16777216 → Jvm.FP.Core.encode Jvm.FP.Core.b32 (Jvm.FP.Core.bound Jvm.FP.Core.b32 false c q) ≤ 2139095040 := by
    intro c q hc
    unfold Jvm.FP.Core.bound
    rw [hM]
    split
    · exact enc32 hc (by omega)
    · rw [hi]; exact Nat.le_refl _
  unfold Jvm.FP.Core.roundRatio
  split
  · rw [hm]
    exact enc32 (by omega) (by omega)
  · unfold Jvm.FP.Core.roundAt Jvm.FP.Core.settle
    rw [hp]
    split
    · exact hb _ _ (by omega)
    · exact hb _ _ (by rw [ht]; omega)
def dFin (a : Nat) : Bool := match Jvm.FP.Core.decode Jvm.FP.Core.b64 (Jvm.FP.i2d (iZ (a : Int))).toNat with
  | .fin false c _ => decide (c ≠ 0 ∨ a = 0)
  | _ => false
def fFin (a : Nat) : Bool := match Jvm.FP.Core.decode Jvm.FP.Core.b32 (Jvm.FP.i2f (iZ (a : Int))).toNat with
  | .fin false c _ => decide (c ≠ 0 ∨ a = 0)
  | _ => false
theorem dFin_t : ((List.range 361).all fun a => dFin a) = true := by decide +kernel
theorem fFin_t : ((List.range 361).all fun a => fFin a) = true := by decide +kernel
theorem dFin_s {a : Nat} (h : a ≤ 360) : ∃ c q, Jvm.FP.Core.decode Jvm.FP.Core.b64 (Jvm.FP.i2d (iZ (a : Int))).toNat = .fin false c q ∧ (c ≠ 0 ∨ a = 0) := by
  have := List.all_eq_true.mp dFin_t a (List.mem_range.mpr (by omega))
  unfold dFin at this
  split at this
  · rename_i c q e
    exact ⟨c, q, e, of_decide_eq_true this⟩
  · exact absurd this (by decide)
theorem fFin_s {a : Nat} (h : a ≤ 360) : ∃ c q, Jvm.FP.Core.decode Jvm.FP.Core.b32 (Jvm.FP.i2f (iZ (a : Int))).toNat = .fin false c q ∧ (c ≠ 0 ∨ a = 0) := by
  have := List.all_eq_true.mp fFin_t a (List.mem_range.mpr (by omega))
  unfold fFin at this
  split at this
  · rename_i c q e
    exact ⟨c, q, e, of_decide_eq_true this⟩
  · exact absurd this (by decide)
theorem ddiv_s {a b : Nat} (ha : a ≤ 360) (hb : b ≤ 360) (h0 : 0 < b) : ms_ddiv (Jvm.FP.i2d (iZ (a : Int))) (Jvm.FP.i2d (iZ (b : Int))) = some (Jvm.FP.ddiv (Jvm.FP.i2d (iZ (a : Int))) (Jvm.FP.i2d (iZ (b : Int)))) := by
  obtain ⟨c, q, e1, -⟩ := dFin_s ha
  obtain ⟨d, r, e2, h2⟩ := dFin_s hb
  have hd : ¬ d = 0 := by omega
  unfold ms_ddiv
  refine if_pos ?_
  rw [UInt64.le_iff_toNat_le, UInt64.toNat_and]
  refine Nat.le_trans Nat.and_le_left ?_
  show (UInt64.ofNat (Jvm.FP.Core.div Jvm.FP.Core.b64 (Jvm.FP.i2d (iZ (a : Int))).toNat (Jvm.FP.i2d (iZ (b : Int))).toNat)).toNat ≤ 9218868437227405312
  unfold Jvm.FP.Core.div
  rw [e1, e2]
  show (UInt64.ofNat (Jvm.FP.Core.encode Jvm.FP.Core.b64 (if d = 0 then _ else _))).toNat ≤ _
  rw [if_neg hd, UInt64.toNat_ofNat']
  exact Nat.le_trans (Nat.mod_le _ _) (rr64 _ _ _)
theorem fdiv_s {a b : Nat} (ha : a ≤ 360) (hb : b ≤ 360) (h0 : 0 < b) : ms_fdiv (Jvm.FP.i2f (iZ (a : Int))) (Jvm.FP.i2f (iZ (b : Int))) = some (Jvm.FP.fdiv (Jvm.FP.i2f (iZ (a : Int))) (Jvm.FP.i2f (iZ (b : Int)))) := by
  obtain ⟨c, q, e1, -⟩ := fFin_s ha
  obtain ⟨d, r, e2, h2⟩ := fFin_s hb
  have hd : ¬ d = 0 := by omega
  unfold ms_fdiv
  refine if_pos ?_
  rw [UInt32.le_iff_toNat_le, UInt32.toNat_and]
  refine Nat.le_trans Nat.and_le_left ?_
  show (UInt32.ofNat (Jvm.FP.Core.div Jvm.FP.Core.b32 (Jvm.FP.i2f (iZ (a : Int))).toNat (Jvm.FP.i2f (iZ (b : Int))).toNat)).toNat ≤ 2139095040
  unfold Jvm.FP.Core.div
  rw [e1, e2]
  show (UInt32.ofNat (Jvm.FP.Core.encode Jvm.FP.Core.b32 (if d = 0 then _ else _))).toNat ≤ _
  rw [if_neg hd, UInt32.toNat_ofNat']
  exact Nat.le_trans (Nat.mod_le _ _) (rr32 _ _ _)
section Mq
variable {σ : MsSt} {w : Nat → Nat}
def OkD (r : UInt64 ⊕ Nat) (t : Int32) (b : UInt64) : Prop := match r with
  | .inl v => t = 0 ∧ v = b
  | .inr e => t = if e = 0 then 1 else 2
def OkF (r : UInt32 ⊕ Nat) (t : Int32) (b : UInt32) : Prop := match r with
  | .inl v => t = 0 ∧ v = b
  | .inr e => t = if e = 0 then 1 else 2
def smk (w : Nat → Nat) (D : List Nat) : Nat → Nat
  | 0 => 0
  | c + 1 => smk w D c + mks w D c
theorem smk_le (w : Nat → Nat) (D : List Nat) : ∀ c, c ≤ (bg w D).length → smk w D c ≤ be w D c := by
  intro c
  induction c with
  | zero => intro _; exact Nat.zero_le _
  | succ c ih =>
    intro hc
    have h1 := ih (by omega)
    have h2 := be_lt (w := w) (D := D) (c := c) (by omega)
    have h3 := fm_le (w := w) (D := D) (c := c) (by omega)
    unfold smk mks
    omega
theorem q_meanMarks (h : InvS σ w) (x : Int32) : ∃ r σ1 b σ2, f_X10_meanMarks σ 0 x = some (r, σ1) ∧ Fr FScr σ σ1 ∧ f_X12_meanMarks σ1 493 x = some (b, σ2) ∧ OkD r (ms_i σ2 493 7) b ∧ Fr FScr σ1 σ2 := by
  obtain ⟨z, z1, z2, rfl⟩ := iZ_of x
  have h4 := h.1.2.2.1
  by_cases q : 0 ≤ z ∧ z ≤ (w 1 : Int) - 1
  · obtain ⟨l, rfl⟩ : ∃ l : Nat, z = (l : Int) := ⟨z.toNat, by omega⟩
    have hl : l < 4 := by omega
    obtain ⟨n1, n2, n3, n4⟩ := lnok h.1 hl
    have hn1000 : ∀ y ∈ dF w (ln w l), y < 1000 := fun y hy => by have := (n1 y hy).1; have := h.1.1.1; omega
    obtain ⟨s4, a1, ⟨a2, a3, a4, a5⟩, a6⟩ := c_deriveL h (F := 441) (Or.inl rfl) hl
    have hF4 := fm_scr (F := 441) (Or.inl rfl) a6
    have h5 := h.fr hF4
    obtain ⟨t3, b1, b2, b3, b4, b5⟩ := m_lcL (h5.fr (fr7 s4 0)) hl
    have hth : ms_i t3 493 7 = 0 := by rw [b5.1 _ _ (by unfold FLC; omega), i_si_same]
    have hsm := smk_le w (dF w (ln w l))
    have hbe : ∀ c, c ≤ (bg w (dF w (ln w l))).length → be w (dF w (ln w l)) c ≤ 360 := fun c hc => by have := be_le hc; omega
    have hS : smk w (dF w (ln w l)) (bg w (dF w (ln w l))).length ≤ 360 := Nat.le_trans (hsm _ (Nat.le_refl _)) (hbe _ (Nat.le_refl _))
    have e4 := (fm_refs (F := 441) (Or.inl rfl)).2.2.2.2.1
    have kc : f_X10_meanMarks σ 0 (iZ (l : Int)) = if ((bg w (dF w (ln w l))).length : Int) = 0 then some (.inl 0, s4) else (ms_ddiv (Jvm.FP.i2d (iZ (smk w (dF w (ln w l)) (bg w (dF w (ln w l))).length : Int))) (Jvm.FP.i2d (iZ ((bg w (dF w (ln w l))).length : Int)))).bind fun v4 => some (.inl v4, s4) := by
      unfold f_X10_meanMarks
      rw [needLine_s h z1 z2, btT q, x_rf1, lineAt_s (a := 3) (Or.inl rfl) hl, Option.bind_some, x_rf6, a1, Option.bind_some, e4, a3.2.1.cnt]
      refine lpx (S := Int32 × Int32) (f := fun n s => f_X10_meanMarks_37 n s4 0 (iZ ((bg w (dF w (ln w l))).length : Int)) s.1 s.2) (fun i s => s.2 = iZ (i : Int) ∧ i ≤ (bg w (dF w (ln w l))).length ∧ s.1 = iZ (smk w (dF w (ln w l)) i : Int)) (bg w (dF w (ln w l))).length ?_ ?_ (bg w (dF w (ln w l))).length 0 (0, 0) ms_fuel ⟨rfl, Nat.zero_le _, rfl⟩ (by omega) (by show _ < 100000; omega)
      · rintro i ⟨a, x⟩ ⟨hx, hi, ha⟩ hlt
        dsimp only at hx ha ⊢
        subst hx; subst ha
        have hmk : f_X1_marksIn s4 441 (iZ (i : Int)) = some (iZ (mks w (dF w (ln w l)) i : Int)) := c_marksIn a3 (Or.inl rfl) hlt hn1000
        refine ⟨(iZ (smk w (dF w (ln w l)) (i + 1) : Int), iZ ((i + 1 : Nat) : Int)), ⟨rfl, hlt, rfl⟩, fun n' => ?_⟩
        show (if iZ (i : Int) < iZ ((bg w (dF w (ln w l))).length : Int) then _ else _) = _
        rw [iltT rfl rfl (by omega) (by omega) (by omega), x_rf6, hmk, Option.bind_some, iZ_add, i1, iZ_add]
        rfl
      · rintro ⟨a, x⟩ ⟨hx, hi, ha⟩ n'
        dsimp only at hx ha ⊢
        subst hx; subst ha
        show (if iZ ((bg w (dF w (ln w l))).length : Int) < iZ ((bg w (dF w (ln w l))).length : Int) then _ else _) = _
        rw [iltF rfl rfl (by omega) (by omega) (by omega), ieq rfl i0 (by omega) (by omega) (by omega) (by omega)]
    have km : f_X12_meanMarks s4 493 (iZ (l : Int)) = if ((bg w (dF w (ln w l))).length : Int) = 0 then some (0, t3) else (ms_ddiv (Jvm.FP.i2d (iZ (smk w (dF w (ln w l)) (bg w (dF w (ln w l))).length : Int))) (Jvm.FP.i2d (iZ ((bg w (dF w (ln w l))).length : Int)))).bind fun v4 => some (v4, t3) := by
      unfold f_X12_meanMarks
      rw [m_okLine h5 q, b2_s, if_pos rfl, b1, Option.bind_some]
      refine lpx (S := Int32 × Int32) (f := fun n s => f_X12_meanMarks_19 n t3 493 s.1 s.2) (fun i s => s.2 = iZ (i : Int) ∧ i ≤ (bg w (dF w (ln w l))).length ∧ s.1 = iZ (smk w (dF w (ln w l)) i : Int)) (bg w (dF w (ln w l))).length ?_ ?_ (bg w (dF w (ln w l))).length 0 (0, 0) ms_fuel ⟨rfl, Nat.zero_le _, rfl⟩ (by omega) (by show _ < 100000; omega)
      · rintro i ⟨a, x⟩ ⟨hx, hi, ha⟩ hlt
        dsimp only at hx ha ⊢
        subst hx; subst ha
        have hmk : f_X12_marksOf t3 493 (iZ (i : Int)) = some (iZ (mks w (dF w (ln w l)) i : Int)) := m_marksOf b2 hlt
        refine ⟨(iZ (smk w (dF w (ln w l)) (i + 1) : Int), iZ ((i + 1 : Nat) : Int)), ⟨rfl, hlt, rfl⟩, fun n' => ?_⟩
        show (if iZ (i : Int) < ms_i t3 493 17 then _ else _) = _
        rw [iltT rfl b2.2.2.2.2.2.2.2.2.2 (by omega) (by omega) (by omega), hmk, Option.bind_some, iZ_add, i1, iZ_add]
        rfl
      · rintro ⟨a, x⟩ ⟨hx, hi, ha⟩ n'
        dsimp only at hx ha ⊢
        subst hx; subst ha
        show (if iZ ((bg w (dF w (ln w l))).length : Int) < ms_i t3 493 17 then _ else _) = _
        rw [iltF rfl b2.2.2.2.2.2.2.2.2.2 (by omega) (by omega) (by omega), ieq b2.2.2.2.2.2.2.2.2.2 i0 (by omega) (by omega) (by omega) (by omega), b2.2.2.2.2.2.2.2.2.2]
    by_cases g : ((bg w (dF w (ln w l))).length : Int) = 0
    · rw [if_pos g] at kc km
      exact ⟨.inl 0, s4, 0, t3, kc, hF4, km, ⟨hth, rfl⟩, (fr7 s4 0).trans (lc_scr b5)⟩
    · rw [if_neg g, ddiv_s hS (by omega) (by omega), Option.bind_some] at kc km
      exact ⟨_, s4, _, t3, kc, hF4, km, ⟨hth, rfl⟩, (fr7 s4 0).trans (lc_scr b5)⟩
  · refine ⟨.inr 0, σ, 0, ms_si σ 493 7 1, ?_, Fr.refl _ _, ?_, i_si_same _ _ _ _, fr7 σ 1⟩
    · unfold f_X10_meanMarks
      rw [needLine_s h z1 z2, btF q]
    · unfold f_X12_meanMarks
      rw [m_noLineF h z1 z2 q, b2_s, if_neg (by decide)]
theorem q_shortness (h : InvS σ w) (x : Int32) : ∃ r σ1 b σ2, f_X10_shortness σ 0 x = some (r, σ1) ∧ Fr FScr σ σ1 ∧ f_X12_shortness σ1 493 x = some (b, σ2) ∧ OkF r (ms_i σ2 493 7) b ∧ Fr FScr σ1 σ2 := by
  obtain ⟨z, z1, z2, rfl⟩ := iZ_of x
  have h4 := h.1.2.2.1
  by_cases q : 0 ≤ z ∧ z ≤ (w 1 : Int) - 1
  · obtain ⟨l, rfl⟩ : ∃ l : Nat, z = (l : Int) := ⟨z.toNat, by omega⟩
    have hl : l < 4 := by omega
    obtain ⟨n1, n2, n3, n4⟩ := lnok h.1 hl
    have hcl := cmp_len n1 (spN w)
    obtain ⟨s4, a1, ⟨a2, a3, a4, a5⟩, a6⟩ := c_deriveL h (F := 441) (Or.inl rfl) hl
    have hF4 := fm_scr (F := 441) (Or.inl rfl) a6
    have h5 := h.fr hF4
    obtain ⟨r0, r1, r2, r3, r4, r5, r6⟩ := fm_refs (F := 441) (Or.inl rfl)
    obtain ⟨t4, b1, b2, b3, b4, b5, b6⟩ := m_formsP (h5.fr (fr7 s4 0)) hl
    rw [i_si_same] at b5
    have F6 := (fr7 s4 0).trans b6
    have kc : f_X10_shortness σ 0 (iZ (l : Int)) = if ((dF w (ln w l)).length : Int) = 0 then some (.inl 0, s4) else (ms_fdiv (Jvm.FP.i2f (iZ ((cmp w (spN w) (w 0) (dF w (ln w l))).1.length : Int))) (Jvm.FP.i2f (iZ ((dF w (ln w l)).length : Int)))).bind fun v4 => some (.inl v4, s4) := by
      unfold f_X10_shortness
      rw [needLine_s h z1 z2, btT q, x_rf1, lineAt_s (a := 3) (Or.inl rfl) hl, Option.bind_some, x_rf6, a1, Option.bind_some, r2, r3, ieq a3.1.cnt i0 (by omega) (by omega) (by omega) (by omega), a3.1.cnt, a4.cnt]
    have km : f_X12_shortness s4 493 (iZ (l : Int)) = if ((dF w (ln w l)).length : Int) = 0 then some (0, t4) else (ms_fdiv (Jvm.FP.i2f (iZ ((cmp w (spN w) (w 0) (dF w (ln w l))).1.length : Int))) (Jvm.FP.i2f (iZ ((dF w (ln w l)).length : Int)))).bind fun v4 => some (v4, t4) := by
      unfold f_X12_shortness
      rw [m_okLine h5 q, b2_s, if_pos rfl, b1, Option.bind_some, ieq b3.2.1 i0 (by omega) (by omega) (by omega) (by omega), b3.2.1, b4.2.2]
    by_cases g : ((dF w (ln w l)).length : Int) = 0
    · rw [if_pos g] at kc km
      exact ⟨.inl 0, s4, 0, t4, kc, hF4, km, ⟨b5, rfl⟩, F6⟩
    · rw [if_neg g, fdiv_s (by omega) n2 (by omega), Option.bind_some] at kc km
      exact ⟨_, s4, _, t4, kc, hF4, km, ⟨b5, rfl⟩, F6⟩
  · refine ⟨.inr 0, σ, 0, ms_si σ 493 7 1, ?_, Fr.refl _ _, ?_, i_si_same _ _ _ _, fr7 σ 1⟩
    · unfold f_X10_shortness
      rw [needLine_s h z1 z2, btF q]
    · unfold f_X12_shortness
      rw [m_noLineF h z1 z2 q, b2_s, if_neg (by decide)]
end Mq
end Me
