/-! stack -/
section Sk
variable {σ : MsSt} {w : Nat → Nat}
theorem cnt_cut {P : Nat → Bool} : ∀ n, (∀ d, d + 1 < n → P (d + 1) = true → P d = true) → (∀ d, d < cnt P n → P d = true) ∧ ∀ d, cnt P n ≤ d → d < n → P d = false := by
  intro n
  induction n with
  | zero => intro _; exact ⟨fun d hd => absurd hd (Nat.not_lt_zero _), fun d _ hd => absurd hd (Nat.not_lt_zero _)⟩
  | succ n ih =>
    intro h
    obtain ⟨i1, i2⟩ := ih fun d hd => h d (by omega)
    have hle := cnt_le P n
    rw [cnt_succ]
    by_cases q : P n = true
    · have hd : ∀ k d, d + k = n → P d = true := by
        intro k
        induction k with
        | zero => intro d e; rw [show d = n from e]; exact q
        | succ k ihk => intro d e; exact h d (by omega) (ihk (d + 1) (by omega))
      have hc : cnt P n = n := by
        by_cases g : cnt P n < n
        · have := i2 (cnt P n) (Nat.le_refl _) g
          rw [hd (n - cnt P n) _ (by omega)] at this
          cases this
        · omega
      rw [if_pos q, hc]
      exact ⟨fun d hd' => hd (n - d) d (by omega), fun d h1 h2 => absurd h1 (by omega)⟩
    · rw [if_neg q, Nat.add_zero]
      refine ⟨i1, fun d h1 h2 => ?_⟩
      by_cases g : d = n
      · rw [g]; exact Bool.eq_false_iff.mpr q
      · exact i2 d h1 (by omega)
/-- how many marks of a cluster have no greater class -/
def upB (w : Nat → Nat) (D : List Nat) (c k d : Nat) : Bool := decide (Cl w (D.getD (fm w D c + d) 0) ≤ k)
def upN (w : Nat → Nat) (D : List Nat) (c k : Nat) : Nat := cnt (upB w D c k) (mks w D c)
theorem upN_cut {D : List Nat} {c k : Nat} (hS : Srt w D) (hc : c < (bg w D).length) : upN w D c k ≤ mks w D c ∧ (∀ d, d < upN w D c k → Cl w (D.getD (fm w D c + d) 0) ≤ k) ∧ ∀ d, upN w D c k ≤ d → d < mks w D c → k < Cl w (D.getD (fm w D c + d) 0) := by
  have hf := fm_le (w := w) (D := D) hc
  have hm : mks w D c = be w D (c + 1) - fm w D c := rfl
  obtain ⟨h1, h2⟩ := cnt_cut (P := upB w D c k) (mks w D c) (fun d hd hp => by
    have := srt_le hS hc 1 (fm w D c + d) (by omega) (by omega)
    unfold upB at hp ⊢
    have hp' := of_decide_eq_true hp
    rw [show fm w D c + (d + 1) = fm w D c + d + 1 from by omega] at hp'
    exact decide_eq_true (by omega))
  refine ⟨cnt_le _ _, fun d hd => of_decide_eq_true (h1 d hd), fun d hd hd2 => ?_⟩
  have := of_decide_eq_false (h2 d hd hd2)
  omega
theorem c_marksUpTo {F n c k : Nat} {D : List Nat} (hF : FmAt F) (hs : SgsOK w n) (hc : ScRep σ 3 w n) (hD : ∀ y ∈ D, y < n ∧ Kd w y ≤ 1 ∧ Cl w y ≤ 60) (hR : FmR σ F w D) (hcc : c < (bg w D).length) (h66 : mks w D c ≤ 66) (hk : k ≤ 60) : f_X1_marksUpTo σ F (iZ (c : Int)) (iZ (k : Int)) = some (iZ (upN w D c k : Int)) := by
  have h40 := hs.1
  have hf := fm_le (w := w) (D := D) hcc
  have hb := be_lt (w := w) (D := D) hcc
  have hm : mks w D c = be w D (c + 1) - fm w D c := rfl
  have hlen := hR.1.len
  obtain ⟨r0, r1, r2, r3, r4, r5, r6⟩ := fm_refs hF
  unfold f_X1_marksUpTo
  rw [c_firstMark hR hF hcc (fun y hy => by have := (hD y hy).1; omega), Option.bind_some]
  have key := lpx (S := Int32 × Int32) (f := fun n t => f_X1_marksUpTo_9 σ n F (iZ (c : Int)) (iZ (k : Int)) t.1 t.2) (o := some (iZ (upN w D c k : Int)))
    (fun i t => t.1 = iZ (cnt (upB w D c k) i : Int) ∧ t.2 = iZ ((fm w D c + i : Nat) : Int) ∧ i ≤ mks w D c) (mks w D c) ?_ ?_ (mks w D c) 0 (0, iZ (fm w D c : Int)) ms_fuel ⟨rfl, rfl, Nat.zero_le _⟩ (by omega) (show mks w D c < 100000 by omega)
  · exact key
  · rintro i ⟨a, x⟩ ⟨ha, hx, hi⟩ hlt
    dsimp only at ha hx ⊢
    subst ha; subst hx
    have hcnt := cnt_le (upB w D c k) i
    have hkl : fm w D c + i < D.length := by omega
    have hy := hD _ (List.getElem_mem hkl)
    rw [← getD_get hkl] at hy
    have e1 : iZ ((fm w D c + i : Nat) : Int) + 1 = iZ ((fm w D c + (i + 1) : Nat) : Int) := by rw [i1, iZ_add]; rfl
    refine ⟨(iZ (cnt (upB w D c k) (i + 1) : Int), iZ ((fm w D c + (i + 1) : Nat) : Int)), ⟨rfl, rfl, hlt⟩, fun n' => ?_⟩
    have hco : f_X6_classOf σ (ms_rf F 0) (iZ ((D.getD (fm w D c + i) 0 : Nat) : Int)) = some (iZ (Cl w (D.getD (fm w D c + i) 0) : Int)) := by
      rw [r0]; exact classOf_s hc (Or.inl rfl) hy.1 h40
    show (f_X1_endOf σ F (iZ (c : Int))).bind _ = _
    rw [c_endOf hR hF hcc, Option.bind_some, iltT rfl rfl (by omega) (by omega) (by omega), r2, c_sgn hR hkl, Option.bind_some, hco, Option.bind_some, e1, cnt_succ]
    by_cases g : upB w D c k i = true
    · have g' : Cl w (D.getD (fm w D c + i) 0) ≤ k := of_decide_eq_true g
      have e2 : iZ (cnt (upB w D c k) i : Int) + 1 = iZ ((cnt (upB w D c k) i + 1 : Nat) : Int) := by rw [i1, iZ_add]; rfl
      rw [if_pos g, iltF rfl rfl (by omega) (by omega) (by omega), e2]
    · have g' : ¬ Cl w (D.getD (fm w D c + i) 0) ≤ k := fun g2 => g (decide_eq_true g2)
      rw [if_neg g, iltT rfl rfl (by omega) (by omega) (by omega)]
      rfl
  · rintro ⟨a, x⟩ ⟨ha, hx, hi⟩ n'
    dsimp only at ha hx ⊢
    subst ha; subst hx
    show (f_X1_endOf σ F (iZ (c : Int))).bind _ = _
    rw [c_endOf hR hF hcc, Option.bind_some, iltF rfl rfl (by omega) (by omega) (by omega)]
    rfl
/-- the reference looks for the place from behind -/
theorem m_stack71 {n l c m : Nat} {D : List Nat} (h : LcS σ w n D) (hS : Srt w D) (hcc : c < (bg w D).length) (hm : m < n) (h60 : Cl w m ≤ 60) : f_X12_stack_71 ms_fuel σ 493 (iZ (l : Int)) (iZ (c : Int)) (iZ (m : Int)) (iZ (be w D (c + 1) : Int)) = f_X12_stack_118 σ 493 (iZ (l : Int)) (iZ (c : Int)) (iZ (m : Int)) (iZ ((fm w D c + upN w D c (Cl w m) : Nat) : Int)) := by
  have hf := fm_le (w := w) (D := D) hcc
  have hb := be_lt (w := w) (D := D) hcc
  have hmk : mks w D c = be w D (c + 1) - fm w D c := rfl
  have h360 := h.2.2.2.2.1
  have h40 := h.2.2.1.1
  obtain ⟨u1, u2, u3⟩ := upN_cut (k := Cl w m) hS hcc
  refine lpx (S := Int32) (f := fun n t => f_X12_stack_71 n σ 493 (iZ (l : Int)) (iZ (c : Int)) (iZ (m : Int)) t) (o := f_X12_stack_118 σ 493 (iZ (l : Int)) (iZ (c : Int)) (iZ (m : Int)) (iZ ((fm w D c + upN w D c (Cl w m) : Nat) : Int)))
    (fun i t => t = iZ ((be w D (c + 1) - i : Nat) : Int) ∧ i ≤ mks w D c - upN w D c (Cl w m)) (mks w D c - upN w D c (Cl w m)) ?_ ?_ (mks w D c - upN w D c (Cl w m)) 0 (iZ (be w D (c + 1) : Int)) ms_fuel ⟨rfl, Nat.zero_le _⟩ (by omega) (show _ < 100000 by omega)
  · rintro i x ⟨hx, hi⟩ hlt
    subst hx
    have hkl : be w D (c + 1) - i - 1 < D.length := by omega
    obtain ⟨y1, y2, y3, y4⟩ := h.at hkl
    have e1 : iZ ((be w D (c + 1) - i : Nat) : Int) - 1 = iZ ((be w D (c + 1) - i - 1 : Nat) : Int) := by rw [i1, iZ_sub]; congr 1; omega
    have e2 : iZ ((be w D (c + 1) - i : Nat) : Int) + (-1) = iZ ((be w D (c + 1) - (i + 1) : Nat) : Int) := by rw [im1, iZ_add]; congr 1; omega
    have hgt : Cl w m < Cl w (D.getD (be w D (c + 1) - i - 1) 0) := by
      have := u3 (mks w D c - i - 1) (by omega) (by omega)
      rw [show fm w D c + (mks w D c - i - 1) = be w D (c + 1) - i - 1 from by omega] at this
      exact this
    refine ⟨iZ ((be w D (c + 1) - (i + 1) : Nat) : Int), ⟨rfl, hlt⟩, fun n' => ?_⟩
    show (f_X12_firstMark σ 493 (iZ (c : Int))).bind _ = _
    rw [m_firstMark h hcc, Option.bind_some, iltT rfl rfl (by omega) (by omega) (by omega), e1, m_rf10, m_sgn h hkl, Option.bind_some, of_1, Option.bind_some, m_rf0, mw_get h.1 (Or.inl rfl) (k := 247 + 7 * D.getD (be w D (c + 1) - i - 1) 0 + 1) (by omega) (by omega), Option.bind_some, of_1, Option.bind_some, mw_get h.1 (Or.inl rfl) (k := 247 + 7 * m + 1) (by omega) (by omega), Option.bind_some, iltT (x := iZ (w (247 + 7 * m + 1) : Int)) (y := iZ (w (247 + 7 * D.getD (be w D (c + 1) - i - 1) 0 + 1) : Int)) (a := (Cl w m : Int)) (b := (Cl w (D.getD (be w D (c + 1) - i - 1) 0) : Int)) rfl rfl (by omega) (by omega) (by omega), e2]
  · rintro x ⟨hx, hi⟩ n'
    have e : be w D (c + 1) - (mks w D c - upN w D c (Cl w m)) = fm w D c + upN w D c (Cl w m) := by omega
    rw [e] at hx
    subst hx
    show (f_X12_firstMark σ 493 (iZ (c : Int))).bind _ = _
    rw [m_firstMark h hcc, Option.bind_some]
    by_cases g : upN w D c (Cl w m) = 0
    · rw [iltF rfl rfl (by omega) (by omega) (by omega)]
    · have hkl : fm w D c + upN w D c (Cl w m) - 1 < D.length := by omega
      obtain ⟨y1, y2, y3, y4⟩ := h.at hkl
      have hle : Cl w (D.getD (fm w D c + upN w D c (Cl w m) - 1) 0) ≤ Cl w m := by
        have := u2 (upN w D c (Cl w m) - 1) (by omega)
        rw [show fm w D c + (upN w D c (Cl w m) - 1) = fm w D c + upN w D c (Cl w m) - 1 from by omega] at this
        exact this
      have e1 : iZ ((fm w D c + upN w D c (Cl w m) : Nat) : Int) - 1 = iZ ((fm w D c + upN w D c (Cl w m) - 1 : Nat) : Int) := by rw [i1, iZ_sub]; congr 1; omega
      rw [iltT rfl rfl (by omega) (by omega) (by omega), e1, m_rf10, m_sgn h hkl, Option.bind_some, of_1, Option.bind_some, m_rf0, mw_get h.1 (Or.inl rfl) (k := 247 + 7 * D.getD (fm w D c + upN w D c (Cl w m) - 1) 0 + 1) (by omega) (by omega), Option.bind_some, of_1, Option.bind_some, mw_get h.1 (Or.inl rfl) (k := 247 + 7 * m + 1) (by omega) (by omega), Option.bind_some, iltF (x := iZ (w (247 + 7 * m + 1) : Int)) (y := iZ (w (247 + 7 * D.getD (fm w D c + upN w D c (Cl w m) - 1) 0 + 1) : Int)) (a := (Cl w m : Int)) (b := (Cl w (D.getD (fm w D c + upN w D c (Cl w m) - 1) 0) : Int)) rfl rfl (by omega) (by omega) (by omega)]
theorem m_stack134 {n l m P K : Nat} {D : List Nat} {H : Nat → Nat → Nat} (hl : l < 4) (h : Mw σ 494 w) (hA : Aw σ 501 D) (h11 : ms_i σ 493 11 = iZ (D.length : Int)) (h60 : D.length < 60) (hP : P ≤ D.length) (hH : HR σ n H) (hn : n ≤ 10) : ∃ σ' v, f_X12_stack_134 ms_fuel σ 493 (iZ (l : Int)) (iZ (m : Int)) (iZ (P : Int)) (iZ (K : Int)) (iZ (D.length : Int)) = some (iZ (K : Int), σ') ∧ HR σ' (pN n) (pH n H w) ∧ Mw σ' 494 v ∧ LU w l (insA D P m) v ∧ Fr (fun a k => a = 501 ∨ FWr a k) σ σ' := by
  have l5 : ms_ln 501 = 361 := m_ln.2.2.2.2.2.2.2.1
  have hal := insA_length (x := m) hP
  have key := lp0 (S := MsSt × Int32) (f := fun n t => f_X12_stack_134 n t.1 493 (iZ (l : Int)) (iZ (m : Int)) (iZ (P : Int)) (iZ (K : Int)) t.2) (Q := fun r => r.1 = iZ (K : Int) ∧ HR r.2 (pN n) (pH n H w) ∧ (∃ v, Mw r.2 494 v ∧ LU w l (insA D P m) v) ∧ Fr (fun a k => a = 501 ∨ FWr a k) σ r.2)
    (fun q t => t.2 = iZ ((D.length - q : Nat) : Int) ∧ q ≤ D.length - P ∧ (∀ p, p < D.length - q → ms_i t.1 501 p = iZ (D.getD p 0 : Int)) ∧ (∀ p, D.length - q < p → p ≤ D.length → ms_i t.1 501 p = iZ (D.getD (p - 1) 0 : Int)) ∧ Fr (fun a _ => a = 501) σ t.1) (D.length - P) (s := (σ, iZ (D.length : Int))) ⟨rfl, Nat.zero_le _, fun p hp => by
      have hp' : p < D.length := hp
      rw [getD_get hp']
      exact hA p hp', fun p hp hp2 => absurd hp (by omega), Fr.refl _ _⟩ (by omega) ?_ ?_
  · obtain ⟨⟨r1, r2⟩, g1, g2, g3, ⟨v, g4, g5⟩, g6⟩ := key
    dsimp only at g2
    subst g2
    exact ⟨r2, v, g1, g3, g4, g5, g6⟩
  · rintro q ⟨t, y⟩ ⟨hx, hq, hu, hv, hF⟩ hlt
    dsimp only at hx hu hv hF ⊢
    subst hx
    left
    have e1 : iZ ((D.length - q : Nat) : Int) - 1 = iZ ((D.length - q - 1 : Nat) : Int) := by rw [i1, iZ_sub]; congr 1; omega
    have e2 : iZ ((D.length - q : Nat) : Int) + (-1) = iZ ((D.length - (q + 1) : Nat) : Int) := by rw [im1, iZ_add]; congr 1; omega
    have hr : ms_ald t 501 (iZ ((D.length - q - 1 : Nat) : Int)) = some (iZ (D.getD (D.length - q - 1) 0 : Int)) := by rw [ald_iZ (by omega) (by omega), hu _ (by omega)]
    refine ⟨(ms_si t 501 (D.length - q) (iZ (D.getD (D.length - q - 1) 0 : Int)), iZ ((D.length - (q + 1) : Nat) : Int)), ⟨rfl, by omega, fun p hp => ?_, fun p hp hp2 => ?_, hF.trans (Fr.si _ _ rfl)⟩, fun n' => ?_⟩
    · rw [i_si_ne (Or.inr (by omega))]
      exact hu p (by omega)
    · rw [ms_i_si]
      by_cases g : p = D.length - q
      · rw [if_pos ⟨rfl, g⟩, g]
      · rw [if_neg (by omega)]
        exact hv p (by omega) hp2
    · show (if iZ (P : Int) < iZ ((D.length - q : Nat) : Int) then _ else _) = _
      rw [iltT rfl rfl (by omega) (by omega) (by omega), e1, m_rf10, hr, Option.bind_some, ast_iZ (by omega) (by omega), Option.bind_some, e2]
  · rintro ⟨t, y⟩ ⟨hx, hq, hu, hv, hF⟩
    dsimp only at hx hu hv hF ⊢
    have e : D.length - (D.length - P) = P := by omega
    rw [e] at hx hu hv
    subst hx
    have G : Fr (fun a _ => a = 501) σ (ms_si t 501 P (iZ (m : Int))) := hF.trans (Fr.si _ _ rfl)
    have hA2 : Aw (ms_si t 501 P (iZ (m : Int))) 501 (insA D P m) := by
      intro p hp
      rw [ms_i_si, insA_get hP hp]
      rw [hal] at hp
      by_cases g : p = P
      · rw [if_pos ⟨rfl, g⟩, if_neg (by omega), if_pos g]
      · rw [if_neg (by omega)]
        by_cases g2 : p < P
        · rw [if_pos g2]; exact hu p g2
        · rw [if_neg g2, if_neg g]; exact hv p (by omega) (by omega)
    obtain ⟨σ', v, b1, b2, b3, b4, b5⟩ := m_write (L := insA D P m) (c := 501) hl (by omega) ⟨by omega, by omega, by omega⟩ (by omega) (by omega) (h.fr G (by intros; omega)) hA2 (hH.frP G (by omega) (by intros; omega)) hn
    have e11 : ms_i (ms_si t 501 P (iZ (m : Int))) 493 11 + 1 = iZ ((insA D P m).length : Int) := by
      rw [G.1 _ _ (by omega), h11, i1, iZ_add, hal]
      rfl
    refine ⟨(iZ (K : Int), σ'), ⟨rfl, b2, ⟨v, b3, b4⟩, (G.mono fun a k q => Or.inl q).trans (b5.mono fun a k q => Or.inr q)⟩, fun n' => ?_⟩
    show (if iZ (P : Int) < iZ (P : Int) then _ else _) = _
    rw [iltF rfl rfl (by omega) (by omega) (by omega), m_rf10, ast_iZ (by omega) (by omega), Option.bind_some, e11, b1, Option.bind_some]
theorem st_bad (x y v : Int32) (t : Int32) (ht : t ≠ 0) : f_X12_stack_35 σ 493 x y v t 493 = some (0, ms_si σ 493 7 t) := by
  unfold f_X12_stack_35
  rw [nm_s, i_si_same, if_neg ht]
theorem m_isClM (hW : WF w) (hw : Mw σ 494 w) {l : Nat} {k : Int} (hl : l < 4) (q : 0 ≤ (l : Int) ∧ (l : Int) ≤ (w 1 : Int) - 1) (k1 : -2147483648 ≤ k) (k2 : k < 2147483648) : ∃ s4, f_X12_isCluster σ 493 (iZ (l : Int)) (iZ k) = some (b01 (0 ≤ k ∧ k ≤ ((bg w (dF w (ln w l))).length : Int) - 1), s4) ∧ LcS s4 w (w 0) (dF w (ln w l)) ∧ Fr FLC σ s4 := by
  obtain ⟨n1, n2, n3, n4⟩ := lnok hW hl
  have h4 := hW.2.2.1
  obtain ⟨s3, b1, b2, b3, b4⟩ := m_layClusters hW hl hw
  have hL : LcS s3 w (w 0) (dF w (ln w l)) := ⟨hw.fr b4 (by unfold FLC; intros; omega), rfl, hW.1, n1, n2, n3, b2.1, b2.2.1, b3⟩
  refine ⟨s3, ?_, hL, b4⟩
  have e : ms_i s3 493 17 - 1 = iZ (((bg w (dF w (ln w l))).length : Int) - 1) := by rw [hL.2.2.2.2.2.2.2.2.2, i1, iZ_sub]
  unfold f_X12_isCluster
  rw [m_isLine hw h4 (by omega) (by omega), Option.bind_some, ibT q, b1, Option.bind_some, e, inRz k1 k2 (by omega) (by omega), Option.bind_some, bz_b01]
  rfl
theorem q_stack {p n b : Nat} {H : Nat → Nat → Nat} {S : Nat → Nat} (h : InvM σ w p n H b S) (x y v : Int32) : MO σ w b S (f_X10_stack σ 0 x y v) (fun s => f_X12_stack s 493 x y v) := by
  obtain ⟨z, z1, z2, rfl⟩ := iZ_of x
  obtain ⟨k, k1, k2, rfl⟩ := iZ_of y
  obtain ⟨m, m1, m2, rfl⟩ := iZ_of v
  have hI := h.1
  have h40 := hI.1.1.1
  have h4 := hI.1.2.2.1
  obtain ⟨r0, r1, r2, r3, r4, r5, r6⟩ := fm_refs (F := 441) (Or.inl rfl)
  by_cases q : 0 ≤ z ∧ z ≤ (w 1 : Int) - 1
  · obtain ⟨l, rfl⟩ : ∃ l : Nat, z = (l : Int) := ⟨z.toNat, by omega⟩
    have hl : l < 4 := by omega
    obtain ⟨n1, n2, n3, n4⟩ := lnok hI.1 hl
    obtain ⟨s4, a1, ⟨a2, a3, a4, a5⟩, a6⟩ := c_needCT hI hl q k1 k2
    have hF4 := fm_scr (F := 441) (Or.inl rfl) a6
    have h5 := h.fr hF4
    obtain ⟨t4, c1, c2, c3, c4⟩ := m_isCl h5.1 hl q k1 k2
    have hSr : Srt w (dF w (ln w l)) := od_srt w _
    by_cases g : 0 ≤ k ∧ k ≤ ((bg w (dF w (ln w l))).length : Int) - 1
    · obtain ⟨c, rfl⟩ : ∃ c : Nat, k = (c : Int) := ⟨k.toNat, by omega⟩
      have hc : c < (bg w (dF w (ln w l))).length := by omega
      rw [if_pos g] at a1
      have hf := fm_le (w := w) (D := dF w (ln w l)) hc
      have hb := be_lt (w := w) (D := dF w (ln w l)) hc
      have hmk : mks w (dF w (ln w l)) c = be w (dF w (ln w l)) (c + 1) - fm w (dF w (ln w l)) c := rfl
      by_cases g1 : 0 ≤ m ∧ m ≤ (w 0 : Int) - 1
      · obtain ⟨s, rfl⟩ : ∃ s : Nat, m = (s : Int) := ⟨m.toNat, by omega⟩
        have hs : s < w 0 := by omega
        have hkb := (hI.1.1.2.1 s hs).1.1
        by_cases g2 : Kd w s = 1
        · have hcl : Cl w s ≤ 60 := ((hI.1.1.2.1 s hs).1.2.2.1 g2).2.1
          by_cases g3 : (dF w (ln w l)).length < 60
          · obtain ⟨s1, p', b1, b2, b3⟩ := c_record h5.1.1 h5.1.2.1 h5.2.1
            have hN1 := h5.1.2.1.away b3 h40 (by omega)
            have a3' : FmR s1 441 w (dF w (ln w l)) := a3.away b3 (by omega)
            have hup := c_marksUpTo (F := 441) (k := Cl w s) (Or.inl rfl) hI.1.1 hN1.1 n1 a3' hc (n4 c hc) hcl
            obtain ⟨u1, u2, u3⟩ := upN_cut (k := Cl w s) hSr hc
            obtain ⟨s2, d1, d2, d3⟩ := takeOver_s (r := 3 + 123 + 2 * l) (sc_line (a := 3) (Or.inl rfl) hl).2 a3'.1 (by omega) (by omega)
            have a3'' : FmR s2 441 w (dF w (ln w l)) := a3'.away d3 (by omega)
            have hfm := c_firstMark a3'' (F := 441) (Or.inl rfl) hc (fun y hy => by have := (n1 y hy).1; omega)
            obtain ⟨σ1, e1, e2, e3⟩ := c_insert (x := s) d2 (k := fm w (dF w (ln w l)) c + upN w (dF w (ln w l)) c (Cl w s)) (by omega) (by omega)
            have e4 : iZ (fm w (dF w (ln w l)) c : Int) + iZ (upN w (dF w (ln w l)) c (Cl w s) : Int) = iZ ((fm w (dF w (ln w l)) c + upN w (dF w (ln w l)) c (Cl w s) : Nat) : Int) := by rw [iZ_add]; rfl
            have hal := insA_length (L := dF w (ln w l)) (k := fm w (dF w (ln w l)) c + upN w (dF w (ln w l)) c (Cl w s)) (x := s) (by omega)
            have hAm : ∀ x ∈ insA (dF w (ln w l)) (fm w (dF w (ln w l)) c + upN w (dF w (ln w l)) c (Cl w s)) s, x < w 0 := fun x hx => (insA_mem hx).elim (fun g => by rw [g]; exact hs) (fun g => (n1 x g).1)
            have G0 := d3.trans e3
            have G1 : Fr (fun a k => FScr a k ∨ (3 ≤ a ∧ a < 139) ∨ (285 ≤ a ∧ a < 427)) σ σ1 := ((hF4.mono fun a k q => Or.inl q).trans (b3.mono fun a k q => Or.inr (Or.inr ⟨q.1, q.2⟩))).trans (G0.mono fun a k q => Or.inr (Or.inl (by have q1 := q.1; have q2 := q.2; omega)))
            have hM1 := hI.2.2.fr G1 (by unfold FScr; intros; omega)
            have hR1 := h.2.2.1.frP G1 (by unfold FScr; omega) (by unfold FScr; intros; omega)
            obtain ⟨y4, f1, f2, f3⟩ := m_isClM hI.1 hM1 hl q k1 k2
            have G7 : Fr (fun a k => FLC a k ∨ (a = 493 ∧ k = 7)) σ1 (ms_si y4 493 7 0) := (f3.mono fun a k q => Or.inl q).trans (Fr.si _ _ (Or.inr ⟨rfl, rfl⟩))
            have f2' : LcS (ms_si y4 493 7 0) w (w 0) (dF w (ln w l)) := f2.fr (Fr.si (P := fun a k => a = 493 ∧ k = 7) y4 (0 : Int32) ⟨rfl, rfl⟩) (by intros; omega) (by intros; omega) (by intros; omega) (by omega) (by omega)
            have hR7 := hR1.frP G7 (by unfold FLC; omega) (by unfold FLC; intros; omega)
            obtain ⟨σ2, u, j1, j2, j3, j4, j5⟩ := m_stack134 (m := s) (P := fm w (dF w (ln w l)) c + upN w (dF w (ln w l)) c (Cl w s)) (K := upN w (dF w (ln w l)) c (Cl w s)) hl f2'.1 f2'.2.2.2.2.2.2.1 f2'.2.2.2.2.2.2.2.1 g3 (by omega) hR7 h.2.1.2.2.2.1
            have Fm : Fr FRef σ1 σ2 := (G7.mono fun a k q => by unfold FLC at q; show FRef a k; unfold FRef FScr; omega).trans (j5.mono fun a k q => by unfold FWr at q; show FRef a k; unfold FRef FScr; omega)
            refine MO.line (σ1 := σ1) (σ2 := σ2) (v := iZ (upN w (dF w (ln w l)) c (Cl w s) : Int)) h hF4 b2 b3 (G0.mono fun a k q => Or.inr (by have q1 := q.1; have q2 := q.2; omega)) (j4.now hl hI.1 hN1 G0 e2) j2 j3 Fm (j4.wf hI.1 (by omega) (by omega) hAm) (j4.same hl) ?_ ?_ ?_
            · rw [j5.1 _ _ (by unfold FWr; omega), i_si_same]
            · unfold f_X10_stack
              rw [a1, bu_n, needSign_s h5.1 m1 m2, btT g1, x_rf1, kindOf_s h5.1.2.1.1 (Or.inl rfl) hs h40, Option.bind_some, al11 (by omega) (by omega), btT (by omega), x_rf6, r2, iltT a3.1.cnt i60 (by omega) (by omega) (by omega), x_rf4, b1, Option.bind_some, classOf_s hN1.1 (Or.inl rfl) hs h40, Option.bind_some, hup, Option.bind_some, lineAt_s (a := 3) (Or.inl rfl) hl, Option.bind_some, d1, Option.bind_some, hfm, Option.bind_some, e4, e1, Option.bind_some]
            · have hmk2 : f_X12_isMark y4 493 (iZ (s : Int)) = some (b01 (Kd w s = 1)) := isMark_s f2.1 (by omega) (by omega)
              have k3 : iZ (c : Int) + 1 = iZ ((c + 1 : Nat) : Int) := by rw [i1, iZ_add]; rfl
              have k4 : iZ ((dF w (ln w l)).length : Int) + 1 = iZ (((dF w (ln w l)).length + 1 : Nat) : Int) := by rw [i1, iZ_add]; rfl
              have k5 : iZ ((fm w (dF w (ln w l)) c + upN w (dF w (ln w l)) c (Cl w s) : Nat) : Int) - iZ (fm w (dF w (ln w l)) c : Int) = iZ (upN w (dF w (ln w l)) c (Cl w s) : Int) := by rw [iZ_sub]; congr 1; omega
              show f_X12_stack σ1 493 (iZ (l : Int)) (iZ (c : Int)) (iZ (s : Int)) = _
              unfold f_X12_stack
              rw [f1, b2_s, ibT g, m_isSign f2.1 h40 m1 m2, Option.bind_some, ibT g1, hmk2, Option.bind_some, ibT g2]
              unfold f_X12_stack_35
              rw [nm_s, i_si_same, if_pos rfl, f2'.2.2.2.2.2.2.2.1, k4, iltF i60 rfl (by omega) (by omega) (by omega), k3, m_rf16, m_begin f2' (c := c + 1) (by omega), Option.bind_some, m_stack71 f2' hSr hc hs hcl]
              unfold f_X12_stack_118
              rw [m_firstMark f2' hc, Option.bind_some, k5, f2'.2.2.2.2.2.2.2.1, j1]
          · have f2' : LcS (ms_si t4 493 7 0) w (w 0) (dF w (ln w l)) := c2.fr (Fr.si (P := fun a k => a = 493 ∧ k = 7) t4 (0 : Int32) ⟨rfl, rfl⟩) (by intros; omega) (by intros; omega) (by intros; omega) (by omega) (by omega)
            refine MO.ref h (σ1 := s4) (σ2 := ms_si t4 493 7 0) (v := -2) hF4 (c4.trans (fr7 t4 0)) (i_si_same _ _ _ _) ?_ ?_
            · unfold f_X10_stack
              rw [a1, bu_n, needSign_s h5.1 m1 m2, btT g1, x_rf1, kindOf_s h5.1.2.1.1 (Or.inl rfl) hs h40, Option.bind_some, al11 (by omega) (by omega), btT (by omega), x_rf6, r2, iltF a3.1.cnt i60 (by omega) (by omega) (by omega)]
            · have hmk2 : f_X12_isMark t4 493 (iZ (s : Int)) = some (b01 (Kd w s = 1)) := isMark_s c2.1 (by omega) (by omega)
              have k4 : iZ ((dF w (ln w l)).length : Int) + 1 = iZ (((dF w (ln w l)).length + 1 : Nat) : Int) := by rw [i1, iZ_add]; rfl
              show f_X12_stack s4 493 (iZ (l : Int)) (iZ (c : Int)) (iZ (s : Int)) = _
              unfold f_X12_stack
              rw [c1, b2_s, ibT g, m_isSign c2.1 h40 m1 m2, Option.bind_some, ibT g1, hmk2, Option.bind_some, ibT g2]
              unfold f_X12_stack_35
              rw [nm_s, i_si_same, if_pos rfl, f2'.2.2.2.2.2.2.2.1, k4, iltT i60 rfl (by omega) (by omega) (by omega)]
        · refine MO.bad h 1 2 rfl hF4 c4 ?_ ?_
          · unfold f_X10_stack
            rw [a1, bu_n, needSign_s h5.1 m1 m2, btT g1, x_rf1, kindOf_s h5.1.2.1.1 (Or.inl rfl) hs h40, Option.bind_some, al11 (by omega) (by omega), btF (by omega)]
          · have hmk2 : f_X12_isMark t4 493 (iZ (s : Int)) = some (b01 (Kd w s = 1)) := isMark_s c2.1 (by omega) (by omega)
            show f_X12_stack s4 493 (iZ (l : Int)) (iZ (c : Int)) (iZ (s : Int)) = _
            unfold f_X12_stack
            rw [c1, b2_s, ibT g, m_isSign c2.1 h40 m1 m2, Option.bind_some, ibT g1, hmk2, Option.bind_some, ibF g2, st_bad _ _ _ _ (by decide)]
      · refine MO.bad h 0 1 rfl hF4 c4 ?_ ?_
        · unfold f_X10_stack
          rw [a1, bu_n, needSign_s h5.1 m1 m2, btF g1]
        · show f_X12_stack s4 493 (iZ (l : Int)) (iZ (c : Int)) (iZ m) = _
          unfold f_X12_stack f_X12_stack_18
          rw [c1, b2_s, ibT g, m_isSign c2.1 h40 m1 m2, Option.bind_some, ibF g1, st_bad _ _ _ _ (by decide)]
    · rw [if_neg g] at a1
      refine MO.bad h 0 1 rfl hF4 c4 ?_ ?_
      · unfold f_X10_stack
        rw [a1, bu_s]
      · show f_X12_stack s4 493 (iZ (l : Int)) (iZ k) (iZ m) = _
        unfold f_X12_stack f_X12_stack_18
        rw [c1, b2_s, ibF g, st_bad _ _ _ _ (by decide)]
  · refine MO.bad h 0 1 rfl (Fr.refl _ _) (Fr.refl _ _) ?_ ?_
    · unfold f_X10_stack
      rw [c_needCF hI z1 z2 q, bu_s]
    · show f_X12_stack σ 493 (iZ z) (iZ k) (iZ m) = _
      unfold f_X12_stack f_X12_stack_18
      rw [m_isClF hI z1 z2 q, b2_s, if_pos rfl, st_bad _ _ _ _ (by decide)]
end Sk
