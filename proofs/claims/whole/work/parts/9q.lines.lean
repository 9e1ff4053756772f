/-! a line of a text -/
section Li2
variable {σ τ : MsSt} {B w N : Nat → Nat} {E : Nat}
/-- the script with a line begun -/
def wl (w : Nat → Nat) (i : Nat) (L : List Nat) : Nat → Nat := fun k => if k = 1 then i + 1 else if k = 3 + i then L.length else if 7 + 60 * i ≤ k ∧ k < 7 + 60 * i + L.length then L.getD (k - (7 + 60 * i)) 0 else w k
section Wl
variable {i : Nat} {L : List Nat}
theorem wl_1 : wl w i L 1 = i + 1 := if_pos rfl
theorem wl_n : wl w i L (3 + i) = L.length := by
  unfold wl
  rw [if_neg (by omega), if_pos rfl]
theorem wl_o {k : Nat} (h1 : k ≠ 1) (h2 : k ≠ 3 + i) (h3 : k < 7 + 60 * i ∨ 67 + 60 * i ≤ k) (h60 : L.length ≤ 60) : wl w i L k = w k := by
  unfold wl
  rw [if_neg h1, if_neg h2, if_neg (by omega)]
theorem wl_p {p : Nat} (hi : i < 4) (hp : p < L.length) : wl w i L (7 + 60 * i + p) = L[p] := by
  unfold wl
  rw [if_neg (by omega), if_neg (by omega), if_pos (by omega), show 7 + 60 * i + p - (7 + 60 * i) = p from by omega, getD_get hp]
theorem wl_hi {k : Nat} (hi : i < 4) (h60 : L.length ≤ 60) (hk : 247 ≤ k) : wl w i L k = w k := wl_o (by omega) (by omega) (by omega) h60
end Wl
theorem ShC.frl {σ' : MsSt} {n lo hi : Nat} (h : ShC σ n) (hF : Fr (In lo hi) σ σ') (h1 : 262 ≤ lo) (h2 : hi ≤ 272) : ShC σ' n :=
  ⟨(hF.at (by omega) _).trans h.1, h.2.1, fun q hq => by
    obtain ⟨c, c1, c2⟩ := h.2.2 q hq
    refine ⟨c, c1, (hF.at ?_ _).trans c2⟩
    rcases hq with ⟨s, hs, rfl⟩ | rfl <;> omega⟩
theorem DrM.fr {σ' τ' : MsSt} {P Q : Nat → Nat → Prop} (h : DrM σ τ w N) (hF : Fr P σ σ') (hG : Fr Q τ τ') (h1 : ∀ a k, 140 ≤ a → a < 263 → ¬ P a k) (h2 : ∀ k, ¬ Q 495 k) (h3 : ∀ k, ¬ Q 499 k) : DrM σ' τ' w N := by
  obtain ⟨a1, a2, a3, a4, a5, a6⟩ := h
  have h40 := a2.1
  exact ⟨sc_frq a1 hF (by intro a k g; exact h1 _ _ (by omega) (by omega)), a2, a3.fr hG h2, fun s hs => (hF.1 _ _ (h1 _ _ (by omega) (by omega))).trans (a4 s hs), a5, fun s k hs hk => (hG.1 _ _ (h3 _)).trans (a6 s k hs hk)⟩
/-- the class behind an error, the reference too -/
theorem s_lineEnd (h : Sim σ τ B E) (hk : ¬ okT σ) : (∀ n r x, f_X8_readLine_24 (n + 1) σ 139 r x = f_X8_readLine_81 σ 139) ∧ ∀ n x, f_X12_readLine_67 (n + 1) τ 493 x = (f_X12_expect τ 493 59).bind fun s => some s := by
  have h32 : ¬ ms_i τ 493 32 = 0 := fun g => hk (h.m0.mp g)
  obtain ⟨c, p, k1, k2, k3, k4, k5, k6⟩ := h.bad hk
  refine ⟨fun n r x => ?_, fun n x => ?_⟩
  · show (if (60 : Int32) < x then _ else _) = _
    by_cases g : (60 : Int32) < x
    · rw [if_pos g]
    · rw [if_neg g, y_rf0, ieqF (a := 0) (b := 1) k5.1 i1 (by omega) (by omega) (by omega) (by omega) (by omega)]
  · show (if ms_i τ 493 32 = 0 then _ else _) = _
    rw [if_neg h32]
def FLn (r : Nat) : Nat → Nat → Prop := fun a k => FTc a k ∨ a = r ∨ a = r + 1
def FL5 : Nat → Nat → Prop := fun a k => FTm a k ∨ a = 495
theorem s_lineLoop (i r : Nat) (hi : i < 4) (hr : r = 140 + 123 + 2 * i) : ∀ (d p n n' : Nat) (σ τ : MsSt) (L : List Nat), p + d = 61 → d < n → d + 1 < n' → Sim σ τ B E → okT σ → ShC σ (w 0) → Rw cN σ r 60 L → L.length = p → (∀ x ∈ L, x < w 0) → Mw τ 495 (wl w i L) → SgsOK w (w 0) → ScRep σ 140 w (w 0) → NmC σ 140 N (w 0) → NmOK N (w 0) → NmM τ 499 N (w 0) → ∃ σ' τ', f_X8_readLine_24 n σ 139 r (iZ (p : Int)) = f_X8_readLine_81 σ' 139 ∧ f_X12_readLine_67 n' τ 493 (iZ (i : Int)) = ((f_X12_expect τ' 493 59).bind fun s => some s) ∧ Sim σ' τ' B E ∧ (okT σ' → ∃ L', Rw cN σ' r 60 L' ∧ (∀ x ∈ L', x < w 0) ∧ Mw τ' 495 (wl w i L')) ∧ Fr (FLn r) σ σ' ∧ Fr FL5 τ τ' := by
  intro d
  induction d with
  | zero =>
    intro p n n' σ τ L hpd hn hn' hS hk hSh hR hp hL hM h1 h2 h3 h4 h5
    have := hR.2.1
    omega
  | succ d ih =>
    intro p n n' σ τ L hpd hn hn' hS hk hSh hR hp hL hM h1 h2 h3 h4 h5
    have hp60 := hR.2.1
    have l5 : ms_ln 495 = 527 := m_ln.2.1
    obtain ⟨m, rfl⟩ : ∃ m, n = m + 1 := ⟨n - 1, by omega⟩
    obtain ⟨m', rfl⟩ : ∃ m, n' = m + 1 + 1 := ⟨n' - 2, by omega⟩
    have h32 := hS.m0.mpr hk
    have h40 := h1.1
    obtain ⟨st, nx, kd, o1, o2, o3⟩ := hS.good hk
    have okd := o1.2.2.1
    have ep : iZ (p : Int) + 1 = iZ ((p + 1 : Nat) : Int) := by rw [i1, iZ_add]; rfl
    have hcl : ∀ n'', f_X8_readLine_24 (n'' + 1) σ 139 r (iZ (p : Int)) = (if ms_i σ 1 5 = 1 then ms_b2 (f_X8_findSign σ 139) fun v5 s6 => if (ms_i s6 r 1) < 60 then (f_X5_add s6 r v5).bind fun s7 => (f_X9_advance s7 (ms_rf 139 0)).bind fun s8 => (f_X8_readLine_24 n'') s8 139 r (iZ (p : Int) + 1) else (f_X9_fail s6 (ms_rf 139 0) 5).bind fun s9 => (f_X5_add s9 r v5).bind fun s10 => (f_X9_advance s10 (ms_rf 139 0)).bind fun s11 => (f_X8_readLine_24 n'') s11 139 r (iZ (p : Int) + 1) else f_X8_readLine_81 σ 139) := by
      intro n''
      show (if (60 : Int32) < iZ (p : Int) then _ else _) = _
      rw [iltF i60' rfl (by omega) (by omega) (by omega), y_rf0]
    by_cases qk : kd = 1
    · obtain ⟨z, y, σ1, τ1, a1, a2, a3, a4, a5, a6, a7, a8⟩ := s_find hS hSh (fun _ => ⟨by
        have := hM 0 (by omega)
        rw [this, wl_o (by omega) (by omega) (by omega) hp60], h3, h4, h5⟩)
      have hR1 : Rw cN σ1 r 60 L := hR.fr a7 (by unfold FTc; omega) (by unfold FTc; intros; omega)
      have hlook : ∀ n'', f_X12_readLine_67 (n'' + 1) τ 493 (iZ (i : Int)) = (if (ms_i τ1 493 32) = 0 then (ms_ald τ1 495 (3 + iZ (i : Int))).bind fun v20 => if v20 < 60 then f_X12_readLine_108 (f_X12_readLine_67 n'') τ1 493 (iZ (i : Int)) y 493 else f_X12_readLine_113 (f_X12_readLine_67 n'') τ1 493 (iZ (i : Int)) y 0 493 else f_X12_readLine_108 (f_X12_readLine_67 n'') τ1 493 (iZ (i : Int)) y 493) := by
        intro n''
        show (if ms_i τ 493 32 = 0 then _ else _) = _
        rw [if_pos h32, ieqT o3.2.2.2.1 i1 (by omega), a2, b2_s, m_rf1]
      rw [hcl, ieqT o2.2.2.2.1 i1 (by omega), a1, b2_s, y_rf0, hlook]
      by_cases hk1 : okT σ1
      · obtain ⟨-, rfl, rfl, k1, k2⟩ := a4 hk1
        obtain ⟨s, rfl⟩ : ∃ s : Nat, z = (s : Int) := ⟨z.toNat, by omega⟩
        have e3 : (3 : Int32) + iZ (i : Int) = iZ (3 + (i : Int)) := by rw [i3, iZ_add]
        have hg3 : ms_ald τ1 495 (iZ (3 + (i : Int))) = some (iZ (L.length : Int)) := by
          rw [mw_get hM (Or.inr rfl) (k := 3 + i) (by omega) (by omega), wl_n]
        by_cases q60 : L.length < 60
        · -- the sign comes into the line
          obtain ⟨s7, b1, b2, b3⟩ := add_s hR1 q60 s
          have b1' : f_X5_add σ1 r (iZ (s : Int)) = some s7 := b1
          have hs7 : Fr (FLn r) σ1 s7 := b3.mono fun a k g => by have g1 := g.1; have g2 := g.2; unfold FLn; omega
          have M1 : Mw (ms_si τ1 495 (7 + 60 * i + L.length) (iZ (s : Int))) 495 (uw (wl w i L) (7 + 60 * i + L.length) s) := mw_up5 hM rfl
          have M2 : Mw (ms_si (ms_si τ1 495 (7 + 60 * i + L.length) (iZ (s : Int))) 495 (3 + i) (iZ ((L.length + 1 : Nat) : Int))) 495 (uw (uw (wl w i L) (7 + 60 * i + L.length) s) (3 + i) (L.length + 1)) := mw_up5 M1 rfl
          have hwl : ∀ k, k < 527 → uw (uw (wl w i L) (7 + 60 * i + L.length) s) (3 + i) (L.length + 1) k = wl w i (L ++ [s]) k := by
            intro k hk'
            have hlen : (L ++ [s]).length = L.length + 1 := by rw [List.length_append]; rfl
            by_cases g1 : k = 3 + i
            · rw [g1, uw_eq, wl_n, hlen]
            · rw [uw_ne g1]
              by_cases g2 : k = 7 + 60 * i + L.length
              · rw [g2, uw_eq, wl_p hi (by omega), List.getElem_append_right (Nat.le_refl _)]
                simp
              · rw [uw_ne g2]
                by_cases g3 : k = 1
                · rw [g3, wl_1, wl_1]
                · by_cases g4 : 7 + 60 * i ≤ k ∧ k < 7 + 60 * i + L.length
                  · obtain ⟨p', hp', rfl⟩ : ∃ p', p' < L.length ∧ k = 7 + 60 * i + p' := ⟨k - (7 + 60 * i), by omega, by omega⟩
                    rw [wl_p hi hp', wl_p hi (by omega), List.getElem_append_left hp']
                  · unfold wl
                    rw [if_neg g3, if_neg g1, if_neg g4, if_neg g3, if_neg g1, if_neg (by omega)]
          have hG1 : Fr FL5 τ1 (ms_si (ms_si τ1 495 (7 + 60 * i + L.length) (iZ (s : Int))) 495 (3 + i) (iZ ((L.length + 1 : Nat) : Int))) := (Fr.si _ _ (Or.inr rfl)).trans (Fr.si _ _ (Or.inr rfl))
          have S7 : Sim s7 (ms_si (ms_si τ1 495 (7 + 60 * i + L.length) (iZ (s : Int))) 495 (3 + i) (iZ ((L.length + 1 : Nat) : Int))) B E := a3.fr b3 ((Fr.si (P := fun c _ => c = 495) _ _ rfl).trans (Fr.si _ _ rfl)) (by intro k hk' g; have g1 := g.1; have g2 := g.2; omega) (by intro k g; have g1 := g.1; have g2 := g.2; omega) (by intros; omega) (by intros; omega)
          obtain ⟨σ2, τ2, c1, c2, c3, c4, c5, c6⟩ := s_advance S7
          have hk7 : okT s7 := by
            unfold okT
            rw [b3.at (by omega)]
            exact hk1
          have hk2 := c4.mpr hk7
          obtain ⟨σ', τ', f1, f2, f3, f4, f5, f6⟩ := ih (p + 1) m (m' + 1) σ2 τ2 (L ++ [s]) (by omega) (by omega) (by omega) c3 hk2 ((hSh.frl b3 (by omega) (by omega)).fr c5 (by unfold FTc; intros; omega)) (b2.fr c5 (by unfold FTc; omega) (by unfold FTc; intros; omega)) (by rw [List.length_append]; show L.length + 1 = p + 1; omega) (fun x hx => by
            rcases List.mem_append.mp hx with g | g
            · exact hL x g
            · rw [List.mem_singleton.mp g]; omega) (fun k hk' => by rw [gt_no c6 (by omega), M2 k hk', hwl k hk']) h1 (sc_frq (sc_frq h2 b3 (by intro a k g1 g2; have g3 := g2.1; have g4 := g2.2; omega)) c5 (by unfold FTc; intros; omega)) (fun t ht => by
              rw [ft_no c5 (by omega), b3.at (by omega)]
              exact h3 t ht) h4 (fun t k ht hk' => by
              rw [gt_no c6 (by omega), i_si_ne (Or.inl (by omega)), i_si_ne (Or.inl (by omega))]
              exact h5 t k ht hk')
          refine ⟨σ', τ', ?_, ?_, f3, f4, (hs7.trans (c5.mono fun a k g => Or.inl g)).trans f5, (hG1.trans (c6.mono fun a k g => Or.inl g)).trans f6⟩
          · rw [iltT hR1.cnt i60' (by omega) (by omega) (by omega), b1', Option.bind_some, c1, Option.bind_some, ep, f1]
          · rw [if_pos h32, e3, hg3, Option.bind_some, iltT rfl i60' (by omega) (by omega) (by omega)]
            unfold f_X12_readLine_108 f_X12_readLine_113
            have e4 : iZ (L.length : Int) + 1 = iZ ((L.length + 1 : Nat) : Int) := by rw [i1, iZ_add]; rfl
            have hg4 : ms_ald (ms_si τ1 495 (7 + 60 * i + L.length) (iZ (s : Int))) 495 (iZ (3 + (i : Int))) = some (iZ (L.length : Int)) := by
              rw [mw_get M1 (Or.inr rfl) (k := 3 + i) (by omega) (by omega), uw_ne (by omega), wl_n]
            rw [m_check1, Option.bind_some, if_pos h32, m_rf1, e3, hg3, Option.bind_some, spot_s, Option.bind_some, k2, ast_z (k := 7 + 60 * i + L.length) (by omega) (by omega) (by omega), Option.bind_some, hg4, Option.bind_some, e4, ast_z (k := 3 + i) (by omega) (by omega) (by omega), Option.bind_some, c2, Option.bind_some, f2]
        · -- it is full
          obtain ⟨u1, v1, a1', a2', a3', a4', a5', a6'⟩ := s_fail a3 (c := 5) (by omega) (by omega)
          have b1' : f_X9_fail _ 1 5 = some u1 := a1'
          have b2' : f_X12_check _ 493 0 5 = some v1 := a2'
          obtain ⟨u2, v2, c1, c2, c3, c4, c5, c6⟩ := s_advance a3'
          have hk2 : ¬ okT u2 := fun g => a4' (c4.mp g)
          have hv1 : ¬ ms_i v1 493 32 = 0 := fun g => a4' (a3'.m0.mp g)
          have hRu : Rw cN u1 r 60 L := hR1.fr a5' (by unfold FTc; omega) (by unfold FTc; intros; omega)
          obtain ⟨g1, g2⟩ := s_lineEnd c3 hk2
          obtain ⟨m2, rfl⟩ : ∃ m2, m = m2 + 1 := ⟨m - 1, by omega⟩
          refine ⟨u2, v2, ?_, ?_, c3, fun g => absurd g hk2, (a5'.trans c5).mono fun a k g => Or.inl g, (a6'.trans c6).mono fun a k g => Or.inl g⟩
          · rw [iltF hR1.cnt i60' (by omega) (by omega) (by omega), b1', Option.bind_some, add_full hRu (by omega), Option.bind_some, c1, Option.bind_some, g1]
          · rw [if_pos h32, e3, hg3, Option.bind_some, iltF rfl i60' (by omega) (by omega) (by omega)]
            unfold f_X12_readLine_113
            rw [b2', Option.bind_some, if_neg hv1, c2, Option.bind_some, g2]
      · -- no sign of that name
        have hv1 : ¬ ms_i τ1 493 32 = 0 := fun g => hk1 (a3.m0.mp g)
        obtain ⟨t1, σ2, t2, t3⟩ := s_stuck a3 hk1
        obtain ⟨m2, rfl⟩ : ∃ m2, m = m2 + 1 := ⟨m - 1, by omega⟩
        have href : f_X12_readLine_108 (f_X12_readLine_67 (m' + 1)) τ1 493 (iZ (i : Int)) y 493 = (f_X12_expect τ1 493 59).bind fun s => some s := by
          unfold f_X12_readLine_108 f_X12_readLine_113
          rw [m_check1, Option.bind_some, if_neg hv1, t1, Option.bind_some]
          exact (s_lineEnd a3 hk1).2 _ _
        rw [if_neg hv1, href]
        by_cases q60 : L.length < 60
        · obtain ⟨LL, l1, l2⟩ := row_any hR1.1 hR1.cnt hR1.2.1
          obtain ⟨s7, b1, b2, b3⟩ := add_s l1 (by omega) z
          have b1' : f_X5_add σ1 r (iZ z) = some s7 := b1
          have S7 : Sim s7 τ1 B E := a3.fr b3 (Fr.refl (fun _ _ => False) _) (by intro k hk' g; have g1 := g.1; have g2 := g.2; omega) (by intro k g; have g1 := g.1; have g2 := g.2; omega) (by intros; exact id) (by intros; exact id)
          have hk7 : ¬ okT s7 := fun g => hk1 (by unfold okT at g ⊢; rw [b3.at (by omega)] at g; exact g)
          obtain ⟨-, σ3, t4, t5⟩ := s_stuck S7 hk7
          subst t5
          refine ⟨σ3, τ1, ?_, rfl, S7, fun g => absurd g hk7, (a7.mono fun a k g => Or.inl g).trans (b3.mono fun a k g => by have g1 := g.1; have g2 := g.2; omega), a8.mono fun a k g => Or.inl g⟩
          rw [iltT hR1.cnt i60' (by omega) (by omega) (by omega), b1', Option.bind_some, t4, Option.bind_some, (s_lineEnd S7 hk7).1]
        · obtain ⟨u2, c1, c2, c3, c4⟩ := s_stuckF a3 hk1 (c := 5) (by omega) (by omega)
          cases hf : f_X9_fail σ1 1 5 with
          | none => exact absurd (show (f_X9_fail σ1 1 5).bind _ = some u2 from c1) (by rw [hf]; intro g; cases g)
          | some u1 =>
            have c1' : (f_X9_fail σ1 1 5).bind (fun s => f_X9_advance s 1) = some u2 := c1
            rw [hf, Option.bind_some] at c1'
            have hu1 : ms_i u1 r 1 = ms_i σ1 r 1 := by
              unfold f_X9_fail at hf
              have hk1' : ¬ ms_i σ1 1 7 = 0 := hk1
              rw [if_neg hk1', nm_s] at hf
              rw [← Option.some.inj hf, i_si_ne (Or.inl (by omega))]
            have hRu : Rw cN u1 r 60 L := by
              unfold f_X9_fail at hf
              have hk1' : ¬ ms_i σ1 1 7 = 0 := hk1
              rw [if_neg hk1', nm_s] at hf
              rw [← Option.some.inj hf]
              exact hR1.fr (Fr.si (P := fun a _ => a = 1) _ _ rfl) (by omega) (by intros; omega)
            refine ⟨u2, τ1, ?_, rfl, c2, fun g => absurd g c3, (a7.trans c4).mono fun a k g => Or.inl g, a8.mono fun a k g => Or.inl g⟩
            rw [iltF hR1.cnt i60' (by omega) (by omega) (by omega), Option.bind_some, add_full hRu (by omega), Option.bind_some, c1', Option.bind_some, (s_lineEnd c2 c3).1]
    · refine ⟨σ, τ, ?_, ?_, hS, fun _ => ⟨L, hR, hL, hM⟩, Fr.refl _ _, Fr.refl _ _⟩
      · rw [hcl, ieqF o2.2.2.2.1 i1 (by omega) (by omega) (by omega) (by omega) (by omega)]
      · show (if ms_i τ 493 32 = 0 then _ else _) = _
        rw [if_pos h32, ieqF o3.2.2.2.1 i1 (by omega) (by omega) (by omega) (by omega) (by omega)]
end Li2
