/-! a sign more; a base is read -/
section As
variable {σ τ : MsSt} {B w N v : Nat → Nat} {E : Nat}
def asg (w v : Nat → Nat) : Nat → Nat := fun k => if k = 0 then w 0 + 1 else if 247 + 7 * w 0 ≤ k ∧ k < 254 + 7 * w 0 then v (k - (247 + 7 * w 0)) else w k
theorem as_0 : asg w v 0 = w 0 + 1 := if_pos rfl
theorem as_lo {k : Nat} (h1 : 1 ≤ k) (h2 : k < 247 + 7 * w 0) : asg w v k = w k := by
  unfold asg
  rw [if_neg (by omega), if_neg (by omega)]
theorem as_hi {k : Nat} (h2 : 254 + 7 * w 0 ≤ k) : asg w v k = w k := by
  unfold asg
  rw [if_neg (by omega), if_neg (by omega)]
theorem as_f {f : Nat} (hf : f < 7) : asg w v (247 + 7 * w 0 + f) = v f := by
  unfold asg
  rw [if_neg (by omega), if_pos (by omega), show 247 + 7 * w 0 + f - (247 + 7 * w 0) = f from by omega]
theorem as_sgF {s f : Nat} (hs : s < w 0) (hf : f < 7) : sgF (asg w v) s f = sgF w s f := as_lo (by omega) (by omega)
theorem as_Kd {s : Nat} (hs : s < w 0) : Kd (asg w v) s = Kd w s := as_lo (by omega) (by omega)
theorem as_Cl {s : Nat} (hs : s < w 0) : Cl (asg w v) s = Cl w s := as_lo (by omega) (by omega)
theorem as_KdN : Kd (asg w v) (w 0) = v 0 := as_f (f := 0) (by omega)
theorem as_ClN : Cl (asg w v) (w 0) = v 1 := as_f (f := 1) (by omega)
theorem as_sgFN {f : Nat} (hf : f < 7) : sgF (asg w v) (w 0) f = v f := as_f hf
theorem as_exF (hs : SgsOK w (w 0)) : ∀ (k s : Nat), s < w 0 → exF (asg w v) k s = exF w k s := by
  intro k
  induction k with
  | zero => intro s _; rfl
  | succ k ih =>
    intro s hl
    unfold exF
    rw [as_Kd hl, as_sgF hl (by omega), as_sgF hl (by omega)]
    by_cases q : Kd w s = 2
    · have := ((hs.2.1 s hl).1.2.2.2 q).2.1
      rw [if_pos q, if_pos q, ih _ (by omega)]
    · rw [if_neg q, if_neg q]
theorem as_ex (hs : SgsOK w (w 0)) {s : Nat} (hl : s < w 0) : ex (asg w v) s = ex w s := as_exF hs s s hl
/-- what a new sign may hold -/
def NewOK (w v : Nat → Nat) : Prop := v 0 ≤ 2 ∧ (v 0 = 0 → v 1 = 0 ∧ 1 ≤ v 3 ∧ v 3 ≤ 20 ∧ 1 ≤ v 4 ∧ v 4 ≤ 20 ∧ v 5 ≤ 20 ∧ v 6 ≤ 20) ∧ (v 0 = 1 → 1 ≤ v 1 ∧ v 1 ≤ 60 ∧ 1 ≤ v 3 ∧ v 3 ≤ 9 ∧ 1 ≤ v 4 ∧ v 4 ≤ 9 ∧ v 5 ≤ 9 ∧ v 6 ≤ 2) ∧ (v 0 = 2 → v 1 = 0 ∧ v 3 < w 0 ∧ Kd w (v 3) ≠ 1 ∧ v 4 < w 0 ∧ Kd w (v 4) = 1 ∧ v 5 ≤ 1) ∧ (v 0 = 2 → (ex w (v 3)).length ≤ 5) ∧ (v 0 = 1 → ∀ s, s < w 0 → Kd w s = 1 → Cl w s = v 1 → sgF w s 6 = v 6)
theorem as_exN (hs : SgsOK w (w 0)) (hn : NewOK w v) : ex (asg w v) (w 0) = if v 0 = 2 then ex w (v 3) ++ [v 4] else [w 0] := by
  by_cases q : v 0 = 2
  · have h3 := (hn.2.2.2.1 q).2.1
    have := ex_pair (w := asg w v) (s := w 0) (fun t ht hk => by
      by_cases g : t = w 0
      · rw [g, as_sgFN (by omega)]; exact h3
      · rw [as_sgF (by omega) (by omega)]
        rw [as_Kd (by omega)] at hk
        exact ((hs.2.1 t (by omega)).1.2.2.2 hk).2.1) (by rw [as_KdN]; exact q)
    rw [this, as_sgFN (by omega), as_sgFN (by omega), as_ex hs h3, if_pos q]
  · rw [if_neg q]
    exact ex_one (by rw [as_KdN]; exact q)
theorem as_SgsOK (hs : SgsOK w (w 0)) (h39 : w 0 < 40) (hn : NewOK w v) : SgsOK (asg w v) (w 0 + 1) := by
  obtain ⟨n1, n2, n3, n4, n5, n6⟩ := hn
  refine ⟨by omega, fun s hl => ?_, fun s t hl ht k1 k2 kc => ?_⟩
  · by_cases q : s = w 0
    · subst q
      refine ⟨⟨by rw [as_KdN]; exact n1, ?_, ?_, ?_⟩, ?_⟩
      · rw [as_KdN, as_ClN, as_sgFN (by omega), as_sgFN (by omega), as_sgFN (by omega), as_sgFN (by omega)]; exact n2
      · rw [as_KdN, as_ClN, as_sgFN (by omega), as_sgFN (by omega), as_sgFN (by omega), as_sgFN (by omega)]; exact n3
      · rw [as_KdN, as_ClN, as_sgFN (by omega), as_sgFN (by omega), as_sgFN (by omega)]
        intro q
        obtain ⟨g1, g2, g3, g4, g5, g6⟩ := n4 q
        rw [as_Kd g2, as_Kd g4]
        exact ⟨g1, g2, g3, g4, g5, g6⟩
      · rw [as_exN hs ⟨n1, n2, n3, n4, n5, n6⟩]
        by_cases q : v 0 = 2
        · rw [if_pos q, List.length_append, List.length_singleton]
          have := n5 q
          omega
        · rw [if_neg q, List.length_singleton]; omega
    · have hl' : s < w 0 := by omega
      obtain ⟨⟨a1, a2, a3, a4⟩, a5⟩ := hs.2.1 s hl'
      refine ⟨⟨?_, ?_, ?_, ?_⟩, ?_⟩
      · rw [as_Kd hl']; exact a1
      · rw [as_Kd hl', as_Cl hl', as_sgF hl' (by omega), as_sgF hl' (by omega), as_sgF hl' (by omega), as_sgF hl' (by omega)]; exact a2
      · rw [as_Kd hl', as_Cl hl', as_sgF hl' (by omega), as_sgF hl' (by omega), as_sgF hl' (by omega), as_sgF hl' (by omega)]; exact a3
      · rw [as_Kd hl', as_Cl hl', as_sgF hl' (by omega), as_sgF hl' (by omega), as_sgF hl' (by omega)]
        intro q
        obtain ⟨g1, g2, g3, g4, g5, g6⟩ := a4 q
        rw [as_Kd (by omega), as_Kd (by omega)]
        exact ⟨g1, g2, g3, g4, g5, g6⟩
      · rw [as_ex hs hl']; exact a5
  · by_cases q1 : s = w 0
    · by_cases q2 : t = w 0
      · rw [q1, q2]
      · subst q1
        have ht' : t < w 0 := by omega
        rw [as_KdN] at k1
        rw [as_Kd ht'] at k2
        rw [as_ClN, as_Cl ht'] at kc
        rw [as_sgFN (by omega), as_sgF ht' (by omega)]
        exact (n6 k1 t ht' k2 kc.symm).symm
    · have hl' : s < w 0 := by omega
      by_cases q2 : t = w 0
      · subst q2
        rw [as_KdN] at k2
        rw [as_Kd hl'] at k1
        rw [as_ClN, as_Cl hl'] at kc
        rw [as_sgFN (by omega), as_sgF hl' (by omega)]
        exact n6 k2 s hl' k1 kc
      · have ht' : t < w 0 := by omega
        rw [as_Kd hl'] at k1
        rw [as_Kd ht'] at k2
        rw [as_Cl hl', as_Cl ht'] at kc
        rw [as_sgF hl' (by omega), as_sgF ht' (by omega)]
        exact hs.2.2 s t hl' ht' k1 k2 kc
theorem as_SgRep (hs : SgsOK w (w 0)) {s : Nat} (hl : s < w 0) (h : SgRep σ 140 w s) : SgRep σ 140 (asg w v) s := by
  unfold SgRep
  rw [as_Kd hl, as_Cl hl, as_sgF hl (by omega), as_sgF hl (by omega), as_sgF hl (by omega), as_sgF hl (by omega), as_ex hs hl]
  exact h
theorem as_ln {l : Nat} (hl : l < 4) (h60 : w (3 + l) ≤ 60) : ln (asg w v) l = ln w l := by
  unfold ln
  rw [as_lo (by omega) (by omega)]
  refine List.map_congr_left fun p hp => ?_
  have := List.mem_range.mp hp
  exact as_lo (by omega) (by omega)
def FSn (n : Nat) : Nat → Nat → Prop := fun a k => a = 1 ∨ (a = 140 ∧ k = 4) ∨ (142 + 3 * n ≤ a ∧ a ≤ 144 + 3 * n)
theorem DrR.add {σ' τ' : MsSt} {N' u : Nat → Nat} (h : DrR σ τ w N) (h39 : w 0 < 40) (hF : Fr (FSn (w 0)) σ σ') (h4 : ms_i σ' 140 4 = iZ ((w 0 + 1 : Nat) : Int)) (hn : NewOK w v) (hR : SgRep σ' 140 (asg w v) (w 0)) (hnm : ms_i σ' (140 + 2 + 3 * w 0) 2 = iZ (nmW N' (w 0) : Int)) (hN : ∀ i, i < 4 * w 0 → N' i = N i) (hM : Mw τ' 495 u) (hu : ∀ k, k < 527 → u k = asg w v k) (hNM : NmM τ' 499 N' (w 0 + 1)) (hNO : NmOK N' (w 0 + 1)) : DrR σ' τ' (asg w v) N' := by
  obtain ⟨⟨a0, a1⟩, a2, a3, a4, a5, a6, a7, a8, a9, b1, b2, b3, b4, b5⟩ := h
  have h1 : asg w v 1 = w 1 := as_lo (by omega) (by omega)
  have h2 : asg w v 2 = w 2 := as_lo (by omega) (by omega)
  have h3 : ∀ l, l < 4 → asg w v (3 + l) = w (3 + l) := fun l hl => as_lo (by omega) (by omega)
  have hnmW : ∀ s, s < w 0 → nmW N' s = nmW N s := fun s hs => by
    unfold nmW
    rw [hN _ (by omega), hN _ (by omega), hN _ (by omega), hN _ (by omega)]
  refine ⟨⟨by rw [as_0]; exact h4, fun s hs => ?_⟩, fun s hs => ?_, by rw [as_0]; exact hNO, fun l hl => ?_, ?_, ?_, fun k hk => by rw [hM k hk, hu k hk], by rw [as_0]; exact hNM, by rw [as_0]; exact as_SgsOK a9 h39 hn, by rw [h1]; exact b1, fun l hl => by rw [h3 l hl]; exact b2 l hl, fun l hl => by rw [h1, h3 l hl]; exact b3 l hl, fun l p hl hp => ?_, fun k hk => ?_⟩
  · rw [as_0] at hs
    by_cases q : s = w 0
    · rw [q]; exact hR
    · exact as_SgRep a9 (by omega) ((a1 s (by omega)).frD hF (fun b k g1 g2 => by unfold FSn; omega))
  · rw [as_0] at hs
    by_cases q : s = w 0
    · rw [q]; exact hnm
    · rw [hnmW s (by omega), hF.1 _ _ (by unfold FSn; omega)]
      exact a2 s (by omega)
  · rw [as_ln hl (b2 l hl)]
    exact (a4 l hl).fr hF (by unfold FSn; omega) (by unfold FSn; intros; omega)
  · rw [h1, hF.1 _ _ (by unfold FSn; omega)]; exact a5
  · rw [h2, hF.1 _ _ (by unfold FSn; omega)]; exact a6
  · rw [h3 l hl] at hp
    have h60 := b2 l hl
    rw [as_0, as_lo (by omega) (by omega)]
    have := b4 l p hl hp
    omega
  · rw [as_0] at hk
    rw [as_hi (by omega)]
    exact b5 k (by omega)
theorem mw_up5 {u : Nat → Nat} {i v : Nat} {x : Int32} (h : Mw σ 495 u) (hx : x = iZ (v : Int)) : Mw (ms_si σ 495 i x) 495 (uw u i v) := by
  intro k hk
  rw [ms_i_si]
  by_cases q : k = i
  · rw [if_pos ⟨rfl, q⟩, q, uw_eq, hx]
  · rw [if_neg (by omega), uw_ne q, h k hk]
def FCd : Nat → Nat → Prop := fun a k => FTc a k ∨ (140 ≤ a ∧ a < 276)
def FMd : Nat → Nat → Prop := fun a k => FTm a k ∨ a = 495 ∨ a = 499
theorem ft_no {σ' : MsSt} (h : Fr FTc σ σ') {a : Nat} (ha : a ≠ 1) (k : Nat) : ms_i σ' a k = ms_i σ a k := h.1 _ _ (by unfold FTc; omega)
theorem gt_no {τ' : MsSt} (h : Fr FTm τ τ') {a : Nat} (ha : a ≠ 493) (k : Nat) : ms_i τ' a k = ms_i τ a k := h.1 _ _ (by unfold FTm; omega)
theorem ok_si {a k : Nat} {x : Int32} (ha : a ≠ 1) : okT (ms_si σ a k x) ↔ okT σ := by
  unfold okT
  rw [i_si_ne (Or.inl (by omega))]
theorem ok_fr {σ' : MsSt} {P : Nat → Nat → Prop} (hF : Fr P σ σ') (hp : ¬ P 1 7) : okT σ' ↔ okT σ := by
  unfold okT
  rw [hF.1 _ _ hp]
theorem sim_si {a k b j : Nat} {x y : Int32} (h : Sim σ τ B E) (ha : 3 ≤ a) (hb : b ≠ 493 ∧ b ≠ 512) : Sim (ms_si σ a k x) (ms_si τ b j y) B E := h.fr (Fr.si (P := fun c _ => c = a) _ _ rfl) (Fr.si (P := fun c _ => c = b) _ _ rfl) (by intros; omega) (by intros; omega) (by intros; omega) (by intros; omega)
def FQ (q : Nat) : Nat → Nat → Prop := fun a k => FTc a k ∨ a = q
theorem fq_n {q : Nat} {σ' : MsSt} (h : Fr FTc σ σ') : Fr (FQ q) σ σ' := h.mono fun a k g => Or.inl g
theorem fq_s {q : Nat} (k : Nat) (x : Int32) : Fr (FQ q) σ (ms_si σ q k x) := Fr.si _ _ (Or.inr rfl)
theorem md_n {τ' : MsSt} (h : Fr FTm τ τ') : Fr FMd τ τ' := h.mono fun a k g => Or.inl g
theorem md_s (k : Nat) (x : Int32) : Fr FMd τ (ms_si τ 495 k x) := Fr.si _ _ (Or.inr (Or.inl rfl))
theorem md_g {τ' : MsSt} (h : Fr (fun a k => FTm a k ∨ a = 499) τ τ') : Fr FMd τ τ' := h.mono fun a k g => by
  rcases g with g | g
  · exact Or.inl g
  · exact Or.inr (Or.inr g)
theorem md_e {τ' : MsSt} (h : Fr (fun a k => FTm a k ∨ (a = 495 ∧ k = 0)) τ τ') : Fr FMd τ τ' := h.mono fun a k g => by
  rcases g with g | g
  · exact Or.inl g
  · exact Or.inr (Or.inl g.1)
theorem s_base {σ0 : MsSt} (ha : f_X9_advance σ0 1 = some σ) (hS : Sim σ τ B E) (hk : okT σ) (hD : DrR σ τ w N) (hSh : ShC σ (w 0)) (h39 : w 0 < 40) : ∃ σ' τ', f_X8_readBase σ0 139 = some σ' ∧ (f_X12_readBase τ 493 (iZ (w 0 : Int))).bind (fun s => f_X12_readSign_81 s 493) = some τ' ∧ Sim σ' τ' B E ∧ ShC σ' (w 0 + 1) ∧ (okT σ' → ∃ v N', DrR σ' τ' (asg w v) N') ∧ Fr FCd σ σ' ∧ Fr FMd τ τ' := by
  have l5 : ms_ln 495 = 527 := m_ln.2.1
  have hq : SgA (140 + 2 + 3 * w 0) := Or.inl ⟨w 0, h39, rfl⟩
  have hD0 := hD
  obtain ⟨⟨a0, a1⟩, a2, a3, a4, a5, a6, a7, a8, a9, rest⟩ := hD
  have ne : ∀ {s : MsSt} {a k j : Nat} {v : Int32}, j ≠ k → ms_i (ms_si s a k v) a j = ms_i s a j := fun h => i_si_ne (Or.inr h)
  have ne' : ∀ {s : MsSt} {a b k j : Nat} {v : Int32}, b ≠ a → ms_i (ms_si s a k v) b j = ms_i s b j := fun h => i_si_ne (Or.inl h)
  obtain ⟨x0, s4, t1, A1, A2, S1, K1, F1, G1⟩ := s_name hS hSh h39 (fun _ => ⟨a7 0 (by omega), a2, a3, a8⟩)
  obtain ⟨s5, B1, ⟨c1, c2, c3, c4⟩, R5, F5⟩ := c_begin (σ := s4) hq 0 x0
  have S5 : Sim s5 t1 B E := S1.fr F5 (Fr.refl (fun _ _ => False) _) (by intros; omega) (by intros; omega) (by intros; exact id) (by intros; exact id)
  obtain ⟨x1, y1, s6, t2, d1, d2, S6, K6, F6, G6⟩ := s_number S5 (lo := 1) (hi := 20) (by omega) (by omega)
  have S7 : Sim (ms_si s6 (140 + 2 + 3 * w 0) 6 x1) (ms_si t2 495 (247 + 7 * w 0 + 3) y1) B E := sim_si S6 (by omega) (by omega)
  obtain ⟨x2, y2, s8, t4, d3, d4, S8, K8, F8, G8⟩ := s_number S7 (lo := 1) (hi := 20) (by omega) (by omega)
  have S9 : Sim (ms_si s8 (140 + 2 + 3 * w 0) 7 x2) (ms_si t4 495 (247 + 7 * w 0 + 4) y2) B E := sim_si S8 (by omega) (by omega)
  obtain ⟨x3, y3, s10, t6, d5, d6, S10, K10, F10, G10⟩ := s_number S9 (lo := 0) (hi := 20) (by omega) (by omega)
  have S11 : Sim (ms_si s10 (140 + 2 + 3 * w 0) 8 x3) (ms_si t6 495 (247 + 7 * w 0 + 5) y3) B E := sim_si S10 (by omega) (by omega)
  obtain ⟨x4, y4, s12, t8, d7, d8, S12, K12, F12, G12⟩ := s_number S11 (lo := 0) (hi := 20) (by omega) (by omega)
  have S13 : Sim (ms_si s12 (140 + 2 + 3 * w 0) 9 x4) (ms_si t8 495 (247 + 7 * w 0 + 6) y4) B E := sim_si S12 (by omega) (by omega)
  have e4 : ms_i s4 140 4 = iZ (w 0 : Int) := (ft_no F1 (by omega) _).trans a0
  have FA : Fr (FQ (140 + 2 + 3 * w 0)) s5 (ms_si s12 (140 + 2 + 3 * w 0) 9 x4) := (((((((fq_n F6).trans (fq_s _ _)).trans (fq_n F8)).trans (fq_s _ _)).trans (fq_n F10)).trans (fq_s _ _)).trans (fq_n F12)).trans (fq_s _ _)
  have e13 : ms_i (ms_si s12 (140 + 2 + 3 * w 0) 9 x4) 140 4 = iZ (w 0 : Int) := by
    rw [FA.1 _ _ (by unfold FQ FTc; omega), F5.1 _ _ (by omega)]
    exact e4
  obtain ⟨s14, B2, R14, P14, F14⟩ := c_addPart (x := w 0) hq (R5.fr FA (by unfold FQ FTc; omega) (by unfold FQ FTc; intros; omega)) (by show 0 < 6; omega)
  have S14 : Sim s14 (ms_si t8 495 (247 + 7 * w 0 + 6) y4) B E := S13.fr F14 (Fr.refl (fun _ _ => False) _) (by intros; omega) (by intros; omega) (by intros; exact id) (by intros; exact id)
  have e14 : ms_i s14 140 4 = iZ (w 0 : Int) := (F14.1 _ _ (by omega)).trans e13
  have m14 : ms_i (ms_si t8 495 (247 + 7 * w 0 + 6) y4) 495 0 = iZ (w 0 : Int) := by
    rw [ne (by omega), gt_no G12 (by omega), ne (by omega), gt_no G10 (by omega), ne (by omega), gt_no G8 (by omega), ne (by omega), gt_no G6 (by omega), G1.1 _ _ (by unfold FTm; omega)]
    exact a7 0 (by omega)
  obtain ⟨σ', τ', B3, B4, S15, K15, e15, m15, F15, G15⟩ := s_endSign S14 e14 m14
  have A1' : f_X8_takeName σ 139 = some (x0, s4) := A1
  have ad : ∀ (t : MsSt) (f : Nat) (y : Int32), f < 7 → ms_ast t 495 (iZ (247 + 7 * (w 0 : Int) + (f : Int))) y = some (ms_si t 495 (247 + 7 * w 0 + f) y) := fun t f y hf => ast_z (by omega) (by omega) (by omega)
  have hcell : ∀ k, k ≠ 3 → ms_i σ' (140 + 2 + 3 * w 0) k = ms_i (ms_si s12 (140 + 2 + 3 * w 0) 9 x4) (140 + 2 + 3 * w 0) k := fun k hk3 => by
    rw [F15.1 _ _ (by unfold FTc; omega), F14.1 _ _ (by omega)]
  have FE : Fr FCd σ σ' := ((((F1.mono fun a k g => Or.inl g).trans (F5.mono fun a k g => Or.inr (by omega))).trans (FA.mono fun a k g => by rcases g with g | g; exact Or.inl g; exact Or.inr (by omega))).trans (F14.mono fun a k g => Or.inr (by omega))).trans (F15.mono fun a k g => by rcases g with g | g; exact Or.inl g; exact Or.inr (by omega))
  refine ⟨σ', τ', ?_, ?_, S15, ⟨e15, by omega, fun q hq' => ?_⟩, fun hok => ?_, FE, ?_⟩
  · have d1' : f_X9_takeNumber s5 1 1 20 = some (x1, s6) := d1
    have d3' : f_X9_takeNumber (ms_si s6 (140 + 2 + 3 * w 0) 6 x1) 1 1 20 = some (x2, s8) := d3
    have d5' : f_X9_takeNumber (ms_si s8 (140 + 2 + 3 * w 0) 7 x2) 1 0 20 = some (x3, s10) := d5
    have d7' : f_X9_takeNumber (ms_si s10 (140 + 2 + 3 * w 0) 8 x3) 1 0 20 = some (x4, s12) := d7
    unfold f_X8_readBase f_X8_beginSign
    rw [y_rf0, y_rf1, ha, Option.bind_some, a0, told_s (a := 140) (Or.inr rfl) (by omega), Option.bind_some, A1', b2_s, B1, Option.bind_some, b2_s, d1', b2_s, nm_s, d3', b2_s, nm_s, d5', b2_s, nm_s, d7', b2_s, nm_s, e13, B2, Option.bind_some, B3, Option.bind_some]
  · have d2' : f_X12_readNumber t1 493 1 20 = some (y1, t2) := d2
    have d4' : f_X12_readNumber (ms_si t2 495 (247 + 7 * w 0 + 3) y1) 493 1 20 = some (y2, t4) := d4
    have d6' : f_X12_readNumber (ms_si t4 495 (247 + 7 * w 0 + 4) y2) 493 0 20 = some (y3, t6) := d6
    have d8' : f_X12_readNumber (ms_si t6 495 (247 + 7 * w 0 + 5) y3) 493 0 20 = some (y4, t8) := d8
    have ad3 : ∀ t y, ms_ast t 495 (iZ (247 + 7 * (w 0 : Int) + 3)) y = some (ms_si t 495 (247 + 7 * w 0 + 3) y) := fun t y => ad t 3 y (by omega)
    have ad4 : ∀ t y, ms_ast t 495 (iZ (247 + 7 * (w 0 : Int) + 4)) y = some (ms_si t 495 (247 + 7 * w 0 + 4) y) := fun t y => ad t 4 y (by omega)
    have ad5 : ∀ t y, ms_ast t 495 (iZ (247 + 7 * (w 0 : Int) + 5)) y = some (ms_si t 495 (247 + 7 * w 0 + 5) y) := fun t y => ad t 5 y (by omega)
    have ad6 : ∀ t y, ms_ast t 495 (iZ (247 + 7 * (w 0 : Int) + 6)) y = some (ms_si t 495 (247 + 7 * w 0 + 6) y) := fun t y => ad t 6 y (by omega)
    unfold f_X12_readBase
    rw [m_rf1, A2, Option.bind_some, of_3, Option.bind_some, d2', b2_s, ad3, Option.bind_some, of_4, Option.bind_some, d4', b2_s, ad4, Option.bind_some, of_5, Option.bind_some, d6', b2_s, ad5, Option.bind_some, of_6, Option.bind_some, d8', b2_s, ad6, Option.bind_some, Option.bind_some, B4]
  · obtain ⟨c, g1, g2⟩ := hSh.2.2 q hq'
    by_cases qe : q = 140 + 2 + 3 * w 0
    · refine ⟨1, by omega, ?_⟩
      rw [qe, F15.1 _ _ (by unfold FTc; omega), R14.cnt]
      rfl
    · refine ⟨c, g1, ?_⟩
      have hr := sgA_row hq'
      have hd : q + 1 ≠ 140 + 2 + 3 * w 0 ∧ q + 1 ≠ 140 + 2 + 3 * w 0 + 1 ∧ q + 1 ≠ 140 + 2 + 3 * w 0 + 2 := by
        rcases hq' with ⟨s, hs, rfl⟩ | rfl <;> omega
      rw [F15.1 _ _ (by unfold FTc; omega), F14.1 _ _ (by omega), FA.1 _ _ (by unfold FQ FTc; omega), F5.1 _ _ (by omega), ft_no F1 (by omega)]
      exact g2
  · have o14 := K15 hok
    have o12 : okT s12 := (ok_si (by omega)).mp ((ok_fr F14 (by omega)).mp o14)
    obtain ⟨o11, v4, p7, p8, p9, p10⟩ := K12 o12
    obtain ⟨o9, v3, p11, p12, p13, p14⟩ := K10 ((ok_si (by omega)).mp o11)
    obtain ⟨o7, v2, p15, p16, p17, p18⟩ := K8 ((ok_si (by omega)).mp o9)
    obtain ⟨o5, v1, p19, p20, p21, p22⟩ := K6 ((ok_si (by omega)).mp o7)
    obtain ⟨-, N', n1, n2, n3, n4⟩ := K1 ((ok_fr F5 (by omega)).mp o5)
    have M1 : Mw t1 495 w := a7.fr G1 (by unfold FTm; intros; omega)
    have M3 := mw_up5 (i := 247 + 7 * w 0 + 3) (M1.fr G6 (by unfold FTm; intros; omega)) p20
    have M5 := mw_up5 (i := 247 + 7 * w 0 + 4) (M3.fr G8 (by unfold FTm; intros; omega)) p16
    have M7 := mw_up5 (i := 247 + 7 * w 0 + 5) (M5.fr G10 (by unfold FTm; intros; omega)) p12
    have M9 := mw_up5 (i := 247 + 7 * w 0 + 6) (M7.fr G12 (by unfold FTm; intros; omega)) p8
    have hz := rest.2.2.2.2
    refine ⟨fun f => if f = 3 then v1 else if f = 4 then v2 else if f = 5 then v3 else if f = 6 then v4 else 0, N', hD0.add (u := uw (uw (uw (uw (uw w (247 + 7 * w 0 + 3) v1) (247 + 7 * w 0 + 4) v2) (247 + 7 * w 0 + 5) v3) (247 + 7 * w 0 + 6) v4) 0 (w 0 + 1)) h39 ?_ e15 ?_ ?_ ?_ n1 (fun k hk => ?_) (fun k hk => ?_) (fun s k hs hk => ?_) n4⟩
    · exact ((((F1.mono fun a k g => Or.inl g.1).trans (F5.mono fun a k g => Or.inr (Or.inr (by omega)))).trans (FA.mono fun a k g => by unfold FQ FTc at g; omega)).trans (F14.mono fun a k g => Or.inr (Or.inr (by omega)))).trans (F15.mono fun a k g => by unfold FTc at g; omega)
    · refine ⟨by show 0 ≤ 2; omega, fun _ => ⟨rfl, p21, p22, p17, p18, p14, p10⟩, fun g => absurd (show (0 : Nat) = 1 from g) (by omega), fun g => absurd (show (0 : Nat) = 2 from g) (by omega), fun g => absurd (show (0 : Nat) = 2 from g) (by omega), fun g => absurd (show (0 : Nat) = 1 from g) (by omega)⟩
    · have hex : ex (asg w (fun f => if f = 3 then v1 else if f = 4 then v2 else if f = 5 then v3 else if f = 6 then v4 else 0)) (w 0) = [w 0] := ex_one (by rw [as_KdN]; show (0 : Nat) ≠ 2; omega)
      unfold SgRep
      rw [as_KdN, as_ClN, as_sgFN (by omega), as_sgFN (by omega), as_sgFN (by omega), as_sgFN (by omega), hex]
      have z1 : ms_i (ms_si s12 (140 + 2 + 3 * w 0) 9 x4) (140 + 2 + 3 * w 0) 8 = x3 := by rw [ne (by omega), ft_no F12 (by omega), i_si_same]
      have z2 : ms_i (ms_si s12 (140 + 2 + 3 * w 0) 9 x4) (140 + 2 + 3 * w 0) 7 = x2 := by rw [ne (by omega), ft_no F12 (by omega), ne (by omega), ft_no F10 (by omega), i_si_same]
      have z3 : ms_i (ms_si s12 (140 + 2 + 3 * w 0) 9 x4) (140 + 2 + 3 * w 0) 6 = x1 := by rw [ne (by omega), ft_no F12 (by omega), ne (by omega), ft_no F10 (by omega), ne (by omega), ft_no F8 (by omega), i_si_same]
      have z4 : ∀ k, k ≠ 6 → k ≠ 7 → k ≠ 8 → k ≠ 9 → ms_i (ms_si s12 (140 + 2 + 3 * w 0) 9 x4) (140 + 2 + 3 * w 0) k = ms_i s5 (140 + 2 + 3 * w 0) k := fun k g1 g2 g3 g4 => by rw [ne g4, ft_no F12 (by omega), ne g3, ft_no F10 (by omega), ne g2, ft_no F8 (by omega), ne g1, ft_no F6 (by omega)]
      refine ⟨by rw [hcell 1 (by omega), z4 1 (by omega) (by omega) (by omega) (by omega), c1]; rfl, ?_, by rw [hcell 4 (by omega), z4 4 (by omega) (by omega) (by omega) (by omega), c3]; rfl, ?_, fun _ => ⟨by rw [hcell 6 (by omega), z3, p19]; rfl, by rw [hcell 7 (by omega), z2, p15]; rfl, by rw [hcell 13 (by omega), z4 13 (by omega) (by omega) (by omega) (by omega), c4]; rfl⟩, fun _ => ⟨by rw [hcell 8 (by omega), z1, p11]; rfl, by rw [hcell 9 (by omega), i_si_same, p7]; rfl⟩, fun g => absurd (show (0 : Nat) = 1 from g) (by omega), fun g => absurd (show (0 : Nat) = 2 from g) (by omega)⟩
      · rw [F15.1 _ _ (by unfold FTc; omega), P14]
        rfl
      · have := R14.fr F15 (by unfold FTc; omega) (by unfold FTc; intros; omega)
        rw [show 140 + 2 + 3 * w 0 + 1 = 140 + 3 + 3 * w 0 from by omega] at this
        exact this
    · rw [hcell 2 (by omega), ne (by omega), ft_no F12 (by omega), ne (by omega), ft_no F10 (by omega), ne (by omega), ft_no F8 (by omega), ne (by omega), ft_no F6 (by omega), c2, n2]
    · by_cases g : k = 0
      · rw [g, m15, uw_eq]
      · rw [uw_ne g, G15.1 _ _ (by unfold FTm; omega)]
        exact M9 k hk
    · by_cases g : k = 0
      · rw [g, uw_eq, as_0]
      · rw [uw_ne g]
        by_cases g2 : 247 + 7 * w 0 ≤ k ∧ k < 254 + 7 * w 0
        · obtain ⟨f, hf, rfl⟩ : ∃ f, f < 7 ∧ k = 247 + 7 * w 0 + f := ⟨k - (247 + 7 * w 0), by omega, by omega⟩
          rw [as_f hf]
          have : f = 0 ∨ f = 1 ∨ f = 2 ∨ f = 3 ∨ f = 4 ∨ f = 5 ∨ f = 6 := by omega
          rcases this with rfl | rfl | rfl | rfl | rfl | rfl | rfl
          · rw [uw_ne (by omega), uw_ne (by omega), uw_ne (by omega), uw_ne (by omega)]; exact hz _ (by omega)
          · rw [uw_ne (by omega), uw_ne (by omega), uw_ne (by omega), uw_ne (by omega)]; exact hz _ (by omega)
          · rw [uw_ne (by omega), uw_ne (by omega), uw_ne (by omega), uw_ne (by omega)]; exact hz _ (by omega)
          · rw [uw_ne (by omega), uw_ne (by omega), uw_ne (by omega), uw_eq]; rfl
          · rw [uw_ne (by omega), uw_ne (by omega), uw_eq]; rfl
          · rw [uw_ne (by omega), uw_eq]; rfl
          · rw [uw_eq]; rfl
        · rw [uw_ne (by omega), uw_ne (by omega), uw_ne (by omega), uw_ne (by omega)]
          unfold asg
          rw [if_neg g, if_neg g2]
    · rw [G15.1 _ _ (by unfold FTm; omega), ne' (by omega), gt_no G12 (by omega), ne' (by omega), gt_no G10 (by omega), ne' (by omega), gt_no G8 (by omega), ne' (by omega), gt_no G6 (by omega)]
      exact n3 s k hs hk
  · exact (((((((((md_g G1).trans (md_n G6)).trans (md_s _ _)).trans (md_n G8)).trans (md_s _ _)).trans (md_n G10)).trans (md_s _ _)).trans (md_n G12)).trans (md_s _ _)).trans (md_e G15)
end As
