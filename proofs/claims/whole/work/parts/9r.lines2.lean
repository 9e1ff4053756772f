/-! all lines of a text, the line at hand, the end -/
section Ln2
variable {σ τ : MsSt} {B w N : Nat → Nat} {E : Nat}
theorem wl_LU {i : Nat} {L : List Nat} (hi : i < 4) (h60 : L.length ≤ 60) : LU (uw w 1 (i + 1)) i L (wl w i L) := by
  refine ⟨fun k h1 h2 => ?_, wl_n, fun p hp => wl_p hi hp⟩
  by_cases g : k = 1
  · rw [g, wl_1, uw_eq]
  · rw [uw_ne g, wl_o g h1 h2 h60]
theorem m_line1 (hw : Mw τ 495 w) : ms_ald τ 495 1 = some (iZ (w 1 : Int)) := mw_get (z := 1) (k := 1) hw (Or.inr rfl) rfl (by omega)
theorem DrR.m (h : DrR σ τ w N) : DrM σ τ w N := ⟨h.1, h.2.2.2.2.2.2.2.2.1, h.2.2.2.2.2.2.1, h.2.1, h.2.2.1, h.2.2.2.2.2.2.2.1⟩
/-- one line -/
theorem s_line (hS : Sim σ τ B E) (hk : okT σ) (hD : DrR σ τ w N) (hSh : ShC σ (w 0)) (h4 : w 1 < 4) (hb : f_X12_isWord τ 493 633 = some 1) : ∃ σ' τ', f_X8_readLine σ 139 = some σ' ∧ f_X12_readLine τ 493 = some τ' ∧ Sim σ' τ' B E ∧ ShC σ' (w 0) ∧ (okT σ' → ∃ w', DrR σ' τ' w' N ∧ w' 0 = w 0 ∧ w' 1 = w 1 + 1 ∧ w' 2 = w 2) ∧ Fr FCd σ σ' ∧ Fr FMd τ τ' := by
  have l5 : ms_ln 495 = 527 := m_ln.2.1
  have hD0 := hD
  obtain ⟨⟨a0, a1⟩, a2, a3, a4, a5, a6, a7, a8, a9, r1, r2, r3, r4, r5⟩ := hD
  have h40 := a9.1
  have h32 := hS.m0.mpr hk
  have e1 : iZ (w 1 : Int) + 1 = iZ ((w 1 + 1 : Nat) : Int) := by rw [i1, iZ_add]; rfl
  -- the line is counted in the reference, then both are a token further
  have hw1 : ms_ast τ 495 1 (iZ ((w 1 + 1 : Nat) : Int)) = some (ms_si τ 495 1 (iZ ((w 1 + 1 : Nat) : Int))) := ast_iZ (k := 1) (by omega) (by omega)
  have S0 : Sim σ (ms_si τ 495 1 (iZ ((w 1 + 1 : Nat) : Int))) B E := hS.fr (Fr.refl (fun _ _ => False) σ) (Fr.si (P := fun a _ => a = 495) _ _ rfl) (by intros; exact id) (by intros; exact id) (by intros; omega) (by intros; omega)
  have M0 : Mw (ms_si τ 495 1 (iZ ((w 1 + 1 : Nat) : Int))) 495 (uw w 1 (w 1 + 1)) := mw_up5 a7 rfl
  obtain ⟨s1, t1, b1, b2, b3, b4, b5, b6⟩ := s_advance S0
  have hk1 := b4.mpr hk
  have hln : ln w (w 1) = [] := List.eq_nil_of_length_eq_zero (by rw [ln_length, r3 (w 1) h4 (Nat.le_refl _)])
  have hrow : Rw cN s1 (140 + 123 + 2 * w 1) 60 ([] : List Nat) := by
    have := (a4 (w 1) h4).fr b5 (by unfold FTc; omega) (by unfold FTc; intros; omega)
    rw [hln] at this
    exact this
  have hM1 : Mw t1 495 (wl w (w 1) []) := fun k hk' => by
    rw [gt_no b6 (by omega), M0 k hk']
    congr 2
    by_cases g : k = 1
    · rw [g, uw_eq, wl_1]
    · rw [uw_ne g]
      unfold wl
      rw [if_neg g]
      by_cases g2 : k = 3 + w 1
      · rw [if_pos g2, g2, r3 (w 1) h4 (Nat.le_refl _)]
        rfl
      · rw [if_neg g2, if_neg (by rw [List.length_nil]; omega)]
  have hSc1 : ScRep s1 140 w (w 0) := sc_frq ⟨a0, a1⟩ b5 (by unfold FTc; intros; omega)
  obtain ⟨s2, t2, c1, c2, c3, c4, c5, c6⟩ := s_lineLoop (w := w) (N := N) (B := B) (E := E) (w 1) (140 + 123 + 2 * w 1) h4 rfl 61 0 ms_fuel ms_fuel s1 t1 [] rfl (show 61 < 100000 by omega) (show 62 < 100000 by omega) b3 hk1 (hSh.fr b5 (by unfold FTc; intros; omega)) hrow rfl (fun x hx => by cases hx) hM1 a9 hSc1 (fun s hs => (ft_no b5 (by omega) _).trans (a2 s hs)) a3 (fun s k hs hk' => by
    rw [gt_no b6 (by omega), i_si_ne (Or.inl (by omega))]
    exact a8 s k hs hk')
  obtain ⟨s3, t3, d1, d2, d3, d4, d5, d6⟩ := s_expect c3 (c := 59) (by omega)
  have d1' : f_X9_takeSymbol s2 1 59 = some s3 := d1
  have d2' : f_X12_expect t2 493 59 = some t3 := d2
  have F3 : Fr (fun a k => FTc a k ∨ a = 140 + 123 + 2 * w 1 ∨ a = 140 + 123 + 2 * w 1 + 1) σ s3 := ((b5.mono fun a k g => Or.inl g).trans c5).trans (d5.mono fun a k g => Or.inl g)
  have e5 : ms_i s3 140 5 = iZ (w 1 : Int) := (F3.1 _ _ (by unfold FTc; omega)).trans a5
  have F4 : Fr (fun a k => FTc a k ∨ a = 140 + 123 + 2 * w 1 ∨ a = 140 + 123 + 2 * w 1 + 1 ∨ (a = 140 ∧ k = 5)) σ (ms_si s3 140 5 (iZ ((w 1 + 1 : Nat) : Int))) := (F3.mono fun a k g => by unfold FTc at g ⊢; omega).trans (Fr.si _ _ (Or.inr (Or.inr (Or.inr ⟨rfl, rfl⟩))))
  refine ⟨ms_si s3 140 5 (iZ ((w 1 + 1 : Nat) : Int)), t3, ?_, ?_, d3.fr (Fr.si (P := fun a _ => a = 140) _ _ rfl) (Fr.refl (fun _ _ => False) _) (by intros; omega) (by intros; omega) (by intros; exact id) (by intros; exact id), ?_, fun hok => ?_, F4.mono fun a k g => by unfold FTc at g; unfold FCd FTc; omega, ((md_s _ _).trans (md_n b6)).trans ((c6.mono fun a k g => by rcases g with g | g; exact Or.inl g; exact Or.inr (Or.inl g)).trans (md_n d6))⟩
  · have e5' : ms_i s1 140 5 = iZ (w 1 : Int) := (ft_no b5 (by omega) _).trans a5
    have c1' : f_X8_readLine_24 ms_fuel s1 139 (140 + 123 + 2 * w 1) 0 = f_X8_readLine_81 s2 139 := c1
    unfold f_X8_readLine
    rw [y_rf0, y_rf1, b1, Option.bind_some, e5', lineAt_s (a := 140) (Or.inr rfl) h4, Option.bind_some, c1']
    unfold f_X8_readLine_81
    rw [y_rf0, y_rf1, d1', Option.bind_some, nm_s, e5, e1]
  · unfold f_X12_readLine
    rw [hb, Option.bind_some, m_check1, Option.bind_some, if_pos h32, m_rf1, m_line1 a7, Option.bind_some, iltT rfl i4 (by omega) (by omega) (by omega)]
    unfold f_X12_readLine_29 f_X12_readLine_34
    rw [m_check1, Option.bind_some, if_pos h32, m_rf1, m_line1 a7, Option.bind_some, Option.bind_some, e1, hw1, Option.bind_some, b2, Option.bind_some, c2, d2', Option.bind_some]
  · refine ⟨(F4.1 _ _ (by unfold FTc; omega)).trans hSh.1, hSh.2.1, fun q hq => ?_⟩
    obtain ⟨c, g1, g2⟩ := hSh.2.2 q hq
    refine ⟨c, g1, (F4.1 _ _ ?_).trans g2⟩
    rcases hq with ⟨s, hs, rfl⟩ | rfl <;> (unfold FTc; omega)
  · have o3 : okT s3 := (ok_si (by omega)).mp hok
    obtain ⟨L, l1, l2, l3⟩ := c4 (d4 o3)
    have hL60 := l1.2.1
    have hLU := wl_LU (w := w) h4 hL60
    have x0 : wl w (w 1) L 0 = w 0 := wl_o (by omega) (by omega) (by omega) hL60
    have x2 : wl w (w 1) L 2 = w 2 := wl_o (by omega) (by omega) (by omega) hL60
    have hS1 : SgsOK (uw w 1 (w 1 + 1)) (w 0) := lo_SgsOK (by omega) a9
    have hcn : ∀ l, l < 4 → l ≠ w 1 → wl w (w 1) L (3 + l) = w (3 + l) := fun l hl hne => wl_o (by omega) (by omega) (by omega) hL60
    have hcp : ∀ l p, l < 4 → l ≠ w 1 → p < w (3 + l) → wl w (w 1) L (7 + 60 * l + p) = w (7 + 60 * l + p) := fun l p hl hne hp => by
      have := r2 l hl
      exact wl_o (by omega) (by omega) (by omega) hL60
    refine ⟨wl w (w 1) L, ⟨⟨?_, fun s hs => ?_⟩, fun s hs => ?_, by rw [x0]; exact a3, fun l hl => ?_, ?_, ?_, fun k hk' => by rw [gt_no d6 (by omega)]; exact l3 k hk', fun s k hs hk' => ?_, by rw [x0]; exact hLU.SgsOK h4 hS1, by rw [wl_1]; omega, fun l hl => ?_, fun l hl hle => ?_, fun l p hl hp => ?_, fun k hk' => ?_⟩, x0, wl_1, x2⟩
    · rw [x0, F4.1 _ _ (by unfold FTc; omega)]; exact a0
    · rw [x0] at hs
      have hR : SgRep (ms_si s3 140 5 (iZ ((w 1 + 1 : Nat) : Int))) 140 w s := (a1 s hs).frD F4 (fun b k g1 g2 => by unfold FTc; omega)
      exact hLU.SgRep h4 (lo_SgRep (by omega) hR)
    · rw [x0] at hs
      rw [F4.1 _ _ (by unfold FTc; omega)]
      exact a2 s hs
    · by_cases q : l = w 1
      · rw [q, hLU.ln_self]
        exact (l1.fr d5 (by unfold FTc; omega) (by unfold FTc; intros; omega)).fr (Fr.si (P := fun a _ => a = 140) _ _ rfl) (by omega) (by intros; omega)
      · have e : ln (wl w (w 1) L) l = ln w l := by
          unfold ln
          rw [hcn l hl q]
          exact List.map_congr_left fun p hp => hcp l p hl q (List.mem_range.mp hp)
        rw [e]
        exact (a4 l hl).fr F4 (by unfold FTc; omega) (by unfold FTc; intros; omega)
    · rw [wl_1, i_si_same]
    · rw [x2, F4.1 _ _ (by unfold FTc; omega)]; exact a6
    · rw [x0] at hs
      rw [gt_no d6 (by omega), c6.1 _ _ (by unfold FL5 FTm; omega), gt_no b6 (by omega), i_si_ne (Or.inl (by omega))]
      exact a8 s k hs hk'
    · by_cases q : l = w 1
      · rw [q, wl_n]; exact hL60
      · rw [hcn l hl q]; exact r2 l hl
    · rw [wl_1] at hle
      rw [hcn l hl (by omega)]
      exact r3 l hl (by omega)
    · rw [x0]
      by_cases q : l = w 1
      · subst q
        rw [wl_n] at hp
        rw [wl_p hl hp]
        exact l2 _ (List.getElem_mem hp)
      · rw [hcn l hl q] at hp
        rw [hcp l p hl q hp]
        exact r4 l p hl hp
    · rw [x0] at hk'
      rw [wl_hi h4 hL60 (by omega)]
      exact r5 k hk'
/-- behind an error no line is ahead -/
theorem s_noLine (h : Sim σ τ B E) (hk : ¬ okT σ) : (∀ n x, f_X8_readText_115 (n + 1) σ 139 x = f_X8_readText_162 σ 139) ∧ (∀ n, f_X12_readAll_25 (n + 1) τ 493 = f_X12_readAll_48 τ 493) ∧ f_X12_readLine τ 493 = some τ := by
  obtain ⟨b, u1, u2, u3, -⟩ := s_word h str_line.2.1 str_line.2.2
  have hb : ¬ b = true := fun g => hk (u3 g)
  have h32 : ¬ ms_i τ 493 32 = 0 := fun g => hk (h.m0.mp g)
  refine ⟨fun n x => ?_, fun n => ?_, ?_⟩
  · have h142 : f_X8_readText_142 σ 139 = f_X8_readText_162 σ 139 := by
      unfold f_X8_readText_142
      rw [y_rf0, u1, Option.bind_some, ibF hb]
    show (if x < 4 then _ else _) = _
    by_cases g : x < 4
    · rw [if_pos g, y_rf0, u1, Option.bind_some, ibF hb, h142]
    · rw [if_neg g, h142]
  · show (if ms_i τ 493 32 = 0 then _ else _) = _
    rw [if_neg h32]
  · unfold f_X12_readLine
    rw [u2, Option.bind_some, b01F hb]
    have hc : f_X12_check τ 493 0 1 = some τ := by
      unfold f_X12_check f_X12_flaw
      rw [if_pos rfl, if_neg h32, Option.bind_some]
    rw [hc, Option.bind_some, if_neg h32]
    unfold f_X12_readLine_29 f_X12_readLine_34
    rw [m_check1, Option.bind_some, if_neg h32]
theorem s_lines : ∀ (d i n n' : Nat) (σ τ : MsSt) (w : Nat → Nat), i + d = 4 → d < n → d + 1 < n' → Sim σ τ B E → okT σ → DrR σ τ w N → ShC σ (w 0) → w 1 = i → 1 ≤ i → w 2 = 0 → ∃ σ' τ', f_X8_readText_115 n σ 139 (iZ (i : Int)) = f_X8_readText_162 σ' 139 ∧ f_X12_readAll_25 n' τ 493 = f_X12_readAll_48 τ' 493 ∧ Sim σ' τ' B E ∧ (okT σ' → ∃ w', DrR σ' τ' w' N ∧ 1 ≤ w' 1 ∧ w' 2 = 0) ∧ (∃ n, ShC σ' n) ∧ Fr FCd σ σ' ∧ Fr FMd τ τ' := by
  intro d
  induction d with
  | zero =>
    intro i n n' σ τ w hid hn hn' hS hk hD hSh hi h1 h2
    obtain ⟨m, rfl⟩ : ∃ m, n = m + 1 := ⟨n - 1, by omega⟩
    obtain ⟨m', rfl⟩ : ∃ m, n' = m + 1 + 1 := ⟨n' - 2, by omega⟩
    obtain ⟨b, u1, u2, u3, -⟩ := s_word hS str_line.2.1 str_line.2.2
    have h32 := hS.m0.mpr hk
    have h115 : f_X8_readText_115 (m + 1) σ 139 (iZ (i : Int)) = f_X8_readText_142 σ 139 := by
      show (if iZ (i : Int) < 4 then _ else _) = _
      rw [iltF rfl i4 (by omega) (by omega) (by omega)]
    rw [h115]
    unfold f_X8_readText_142
    rw [y_rf0, u1, Option.bind_some]
    by_cases g : b = true
    · obtain ⟨σ1, τ1, a1, a2, a3, a4, a5, a6⟩ := s_fail hS (c := 5) (by omega) (by omega)
      have a1' : f_X9_fail σ 1 5 = some σ1 := a1
      have a2' : f_X12_check τ 493 0 5 = some τ1 := a2
      have h32' : ¬ ms_i τ1 493 32 = 0 := fun g => a4 (a3.m0.mp g)
      have hr : f_X12_readLine τ 493 = some τ1 := by
        unfold f_X12_readLine
        rw [u2, Option.bind_some, b01T g, m_check1, Option.bind_some, if_pos h32, m_rf1, m_line1 hD.2.2.2.2.2.2.1, Option.bind_some, iltF rfl i4 (by omega) (by omega) (by omega)]
        unfold f_X12_readLine_34
        rw [a2', Option.bind_some, if_neg h32']
      refine ⟨σ1, τ1, ?_, ?_, a3, fun g => absurd g a4, ⟨_, hSh.fr a5 (by unfold FTc; intros; omega)⟩, fcd_t a5, md_n a6⟩
      · rw [ibT g, a1', Option.bind_some]
      · show (if ms_i τ 493 32 = 0 then _ else _) = _
        rw [if_pos h32, u2, Option.bind_some, ibT g, hr, Option.bind_some]
        exact (s_noLine a3 a4).2.1 m'
    · refine ⟨σ, τ, ?_, ?_, hS, fun _ => ⟨w, hD, by omega, h2⟩, ⟨_, hSh⟩, Fr.refl _ _, Fr.refl _ _⟩
      · rw [ibF g]
      · show (if ms_i τ 493 32 = 0 then _ else _) = _
        rw [if_pos h32, u2, Option.bind_some, ibF g]
  | succ d ih =>
    intro i n n' σ τ w hid hn hn' hS hk hD hSh hi h1 h2
    obtain ⟨m, rfl⟩ : ∃ m, n = m + 1 := ⟨n - 1, by omega⟩
    obtain ⟨m', rfl⟩ : ∃ m, n' = m + 1 := ⟨n' - 1, by omega⟩
    obtain ⟨b, u1, u2, u3, -⟩ := s_word hS str_line.2.1 str_line.2.2
    have h32 := hS.m0.mpr hk
    have ei : iZ (i : Int) + 1 = iZ ((i + 1 : Nat) : Int) := by rw [i1, iZ_add]; rfl
    by_cases g : b = true
    · obtain ⟨σ1, τ1, a1, a2, a3, a4, a5, a6, a7⟩ := s_line hS hk hD hSh (by omega) (by rw [u2, b01T g])
      have hcls : f_X8_readText_115 (m + 1) σ 139 (iZ (i : Int)) = f_X8_readText_115 m σ1 139 (iZ ((i + 1 : Nat) : Int)) := by
        show (if iZ (i : Int) < 4 then _ else _) = _
        rw [iltT rfl i4 (by omega) (by omega) (by omega), y_rf0, u1, Option.bind_some, ibT g, a1, Option.bind_some, ei]
      have hrf : f_X12_readAll_25 (m' + 1) τ 493 = f_X12_readAll_25 m' τ1 493 := by
        show (if ms_i τ 493 32 = 0 then _ else _) = _
        rw [if_pos h32, u2, Option.bind_some, ibT g, a2, Option.bind_some]
      rw [hcls, hrf]
      by_cases hk1 : okT σ1
      · obtain ⟨w', c1, c2, c3, c4⟩ := a5 hk1
        obtain ⟨σ', τ', e1, e2, e3, e4, e5, e6, e7⟩ := ih (i + 1) m m' σ1 τ1 w' (by omega) (by omega) (by omega) a3 hk1 c1 (by rw [c2]; exact a4) (by omega) (by omega) (by omega)
        exact ⟨σ', τ', e1, e2, e3, e4, e5, a6.trans e6, a7.trans e7⟩
      · obtain ⟨m2, rfl⟩ : ∃ m2, m = m2 + 1 := ⟨m - 1, by omega⟩
        obtain ⟨m2', rfl⟩ : ∃ m2, m' = m2 + 1 := ⟨m' - 1, by omega⟩
        obtain ⟨c1, c2, -⟩ := s_noLine a3 hk1
        exact ⟨σ1, τ1, c1 _ _, c2 _, a3, fun g => absurd g hk1, ⟨_, a4⟩, a6, a7⟩
    · refine ⟨σ, τ, ?_, ?_, hS, fun _ => ⟨w, hD, by omega, h2⟩, ⟨_, hSh⟩, Fr.refl _ _, Fr.refl _ _⟩
      · show (if iZ (i : Int) < 4 then _ else _) = _
        rw [iltT rfl i4 (by omega) (by omega) (by omega), y_rf0, u1, Option.bind_some, ibF g]
        unfold f_X8_readText_142
        rw [y_rf0, u1, Option.bind_some, ibF g]
      · show (if ms_i τ 493 32 = 0 then _ else _) = _
        rw [if_pos h32, u2, Option.bind_some, ibF g]
/-- from the first line on -/
theorem s_body (hS : Sim σ τ B E) {n0 : Nat} (hSh : ShC σ n0) (hD : okT σ → ∃ w N, DrR σ τ w N ∧ w 1 = 0 ∧ w 2 = 0) : ∃ σ' τ', f_X8_readText_93 σ 139 = f_X8_readText_162 σ' 139 ∧ ((f_X12_readLine τ 493).bind fun s15 => f_X12_readAll_25 ms_fuel s15 493) = f_X12_readAll_48 τ' 493 ∧ Sim σ' τ' B E ∧ (okT σ' → ∃ w' N, DrR σ' τ' w' N ∧ 1 ≤ w' 1 ∧ w' 2 = 0) ∧ (∃ n, ShC σ' n) ∧ Fr FCd σ σ' ∧ Fr FMd τ τ' := by
  obtain ⟨b, u1, u2, u3, -⟩ := s_word hS str_line.2.1 str_line.2.2
  unfold f_X8_readText_93
  rw [y_rf0, u1, Option.bind_some]
  by_cases g : b = true
  · have hk := u3 g
    have h32 := hS.m0.mpr hk
    obtain ⟨w, N, hD1, hw1, hw2⟩ := hD hk
    have hn0 : n0 = w 0 := by
      have e := hSh.1.symm.trans hD1.1.1
      have := hSh.2.1
      have h40 := hD1.2.2.2.2.2.2.2.2.1.1
      rw [iZ_eq (by omega) (by omega) (by omega) (by omega)] at e
      omega
    rw [hn0] at hSh
    obtain ⟨σ1, τ1, a1, a2, a3, a4, a5, a6, a7⟩ := s_line hS hk hD1 hSh (by omega) (by rw [u2, b01T g])
    rw [ibT g, a2, Option.bind_some]
    have hcls : f_X8_readText_115 ms_fuel σ 139 0 = f_X8_readText_115 99999 σ1 139 (iZ ((1 : Nat) : Int)) := by
      show f_X8_readText_115 (99999 + 1) σ 139 0 = _
      show (if (0 : Int32) < 4 then _ else _) = _
      rw [if_pos (by decide), y_rf0, u1, Option.bind_some, ibT g, a1, Option.bind_some]
      rfl
    rw [hcls]
    by_cases hk1 : okT σ1
    · obtain ⟨w', c1, c2, c3, c4⟩ := a5 hk1
      obtain ⟨σ', τ', e1, e2, e3, e4, e5, e6, e7⟩ := s_lines 3 1 99999 ms_fuel σ1 τ1 w' (by omega) (by omega) (show 4 < 100000 by omega) a3 hk1 c1 (by rw [c2]; exact a4) (by omega) (by omega) (by omega)
      exact ⟨σ', τ', e1, e2, e3, fun o => by
        obtain ⟨w2, g1, g2⟩ := e4 o
        exact ⟨w2, N, g1, g2⟩, e5, a6.trans e6, a7.trans e7⟩
    · obtain ⟨c1, c2, -⟩ := s_noLine a3 hk1
      exact ⟨σ1, τ1, c1 99998 _, c2 99999, a3, fun g => absurd g hk1, ⟨_, a4⟩, a6, a7⟩
  · obtain ⟨σ1, τ1, a1, a2, a3, a4, a5, a6⟩ := s_fail hS (c := 1) (by omega) (by omega)
    have a1' : f_X9_fail σ 1 1 = some σ1 := a1
    have a2' : f_X12_check τ 493 0 1 = some τ1 := a2
    have h32' : ¬ ms_i τ1 493 32 = 0 := fun g => a4 (a3.m0.mp g)
    obtain ⟨c1, c2, -⟩ := s_noLine a3 a4
    refine ⟨σ1, τ1, ?_, ?_, a3, fun g => absurd g a4, ⟨_, hSh.fr a5 (by unfold FTc; intros; omega)⟩, fcd_t a5, md_n a6⟩
    · rw [ibF g, a1', Option.bind_some]
      exact c1 99999 0
    · have hr : f_X12_readLine τ 493 = some τ1 := by
        unfold f_X12_readLine
        rw [u2, Option.bind_some, b01F g, a2', Option.bind_some, if_neg h32']
        unfold f_X12_readLine_29 f_X12_readLine_34
        rw [m_check1, Option.bind_some, if_neg h32']
      rw [hr, Option.bind_some]
      exact c2 99999
/-- the line at hand, and the end -/
theorem s_hand (hS : Sim σ τ B E) {n0 : Nat} (hSh : ShC σ n0) (hD : okT σ → ∃ w N, DrR σ τ w N ∧ 1 ≤ w 1 ∧ w 2 = 0) : ∃ σ' τ', f_X8_readText_162 σ 139 = some (ms_i σ' 1 7, σ') ∧ f_X12_readAll_48 τ 493 = some τ' ∧ Sim σ' τ' B E ∧ (okT σ' → ∃ w' N, DrR σ' τ' w' N ∧ w' 2 < w' 1) ∧ (∃ n, ShC σ' n) ∧ Fr FCd σ σ' ∧ Fr FMd τ τ' := by
  have l5 : ms_ln 495 = 527 := m_ln.2.1
  obtain ⟨b, u1, hacc⟩ := s_accept hS str_hand.2.1 str_hand.2.2
  unfold f_X8_readText_162 f_X12_readAll_48
  rw [y_rf0, y_rf1, u1, Option.bind_some]
  rcases hacc with ⟨g, h2⟩ | ⟨g, hk, s1, t1, a1, a2, a3, a4, a5, a6⟩
  · obtain ⟨σ', τ', e1, e2, e3, e4, e5, e6⟩ := s_end hS
    refine ⟨σ', τ', ?_, ?_, e3, fun o => ?_, ⟨_, hSh.fr e5 (by unfold FTc; intros; omega)⟩, fcd_t e5, md_n e6⟩
    · rw [ibF g, e1, Option.bind_some]
    · rw [h2, b2_s, if_pos rfl, e2]
    · obtain ⟨w, N, d1, d2, d3⟩ := hD (e4 o)
      exact ⟨w, N, d1.fr e5 e6 (by unfold FTc; intros; omega) (by unfold FTm; intros; omega) (by unfold FTm; intros; omega), by omega⟩
  · obtain ⟨w, N, d1, d2, d3⟩ := hD hk
    have d1' : DrR s1 t1 w N := d1.fr a5 a6 (by unfold FTc; intros; omega) (by unfold FTm; intros; omega) (by unfold FTm; intros; omega)
    obtain ⟨⟨p0, p1⟩, p2, p3, p4, p5, p6, p7, p8, p9, r1, r2, r3, r4, r5⟩ := d1'
    have ew : iZ (w 1 : Int) - 1 = iZ ((w 1 - 1 : Nat) : Int) := by rw [i1, iZ_sub]; congr 1; omega
    obtain ⟨x, y, s2, t2, b1, b2, b3, b4, b5, b6⟩ := s_number a3 (lo := 0) (hi := w 1 - 1) (by omega) (by omega)
    have b1' : f_X9_takeNumber s1 1 0 (iZ ((w 1 - 1 : Nat) : Int)) = some (x, s2) := b1
    have b2' : f_X12_readNumber t1 493 0 (iZ ((w 1 - 1 : Nat) : Int)) = some (y, t2) := b2
    have S3 : Sim (ms_si s2 140 6 x) (ms_si t2 495 2 y) B E := sim_si b3 (by omega) (by omega)
    obtain ⟨s4, t4, c1, c2, c3, c4, c5, c6⟩ := s_expect S3 (c := 59) (by omega)
    have c1' : f_X9_takeSymbol (ms_si s2 140 6 x) 1 59 = some s4 := c1
    have c2' : f_X12_expect (ms_si t2 495 2 y) 493 59 = some t4 := c2
    obtain ⟨σ', τ', e1, e2, e3, e4, e5, e6⟩ := s_end c3
    have hast : ms_ast t2 495 2 y = some (ms_si t2 495 2 y) := ast_iZ (k := 2) (by omega) (by omega)
    have FT : Fr (fun a k => FTc a k ∨ (a = 140 ∧ k = 6)) s1 σ' := (((b5.mono fun a k g => Or.inl g).trans (Fr.si _ _ (Or.inr ⟨rfl, rfl⟩))).trans (c5.mono fun a k g => Or.inl g)).trans (e5.mono fun a k g => Or.inl g)
    refine ⟨σ', τ', ?_, ?_, e3, fun o => ?_, ⟨n0, ?_⟩, (fcd_t a5).trans (FT.mono fun a k g => by rcases g with g | g; exact Or.inl g; exact Or.inr (by omega)), ((((md_n a6).trans (md_n b6)).trans (md_s _ _)).trans (md_n c6)).trans (md_n e6)⟩
    · rw [ibT g, a1, Option.bind_some, p5, ew, b1', b2_s, nm_s, c1', Option.bind_some, e1, Option.bind_some]
    · rw [a2, b2_s, if_neg (by decide), m_rf1, m_line1 p7, Option.bind_some, ew, b2', b2_s, hast, Option.bind_some, c2', Option.bind_some, e2]
    · obtain ⟨-, v, v1, v2, v3, v4⟩ := b4 ((ok_si (by omega)).mp (c4 (e4 o)))
      have x0 : ∀ k, k ≠ 2 → uw w 2 v k = w k := fun k hk' => uw_ne hk'
      have M3 : Mw (ms_si t2 495 2 y) 495 (uw w 2 v) := mw_up5 (p7.fr b6 (by unfold FTm; intros; omega)) v2
      refine ⟨uw w 2 v, N, ⟨⟨?_, fun s hs => ?_⟩, fun s hs => ?_, by rw [x0 0 (by omega)]; exact p3, fun l hl => ?_, ?_, ?_, (M3.fr c6 (by unfold FTm; intros; omega)).fr e6 (by unfold FTm; intros; omega), fun s k hs hk' => ?_, by rw [x0 0 (by omega)]; exact lo_SgsOK (by omega) p9, by rw [x0 1 (by omega)]; exact r1, fun l hl => by rw [x0 _ (by omega)]; exact r2 l hl, fun l hl => by rw [x0 1 (by omega), x0 _ (by omega)]; exact r3 l hl, fun l p hl hp => ?_, fun k hk' => ?_⟩, ?_⟩
      · rw [x0 0 (by omega), FT.1 _ _ (by unfold FTc; omega)]; exact p0
      · rw [x0 0 (by omega)] at hs
        have h40 := p9.1
        exact lo_SgRep (by omega) ((p1 s hs).frD FT (fun b k g1 g2 => by unfold FTc; omega))
      · rw [x0 0 (by omega)] at hs
        rw [FT.1 _ _ (by unfold FTc; omega)]
        exact p2 s hs
      · have e : ln (uw w 2 v) l = ln w l := by
          unfold ln
          rw [x0 _ (by omega)]
          exact List.map_congr_left fun p hp => x0 _ (by omega)
        rw [e]
        exact (p4 l hl).fr FT (by unfold FTc; omega) (by unfold FTc; intros; omega)
      · rw [x0 1 (by omega), FT.1 _ _ (by unfold FTc; omega)]; exact p5
      · rw [uw_eq, ft_no e5 (by omega), ft_no c5 (by omega), i_si_same, v1]
      · rw [x0 0 (by omega)] at hs
        rw [gt_no e6 (by omega), gt_no c6 (by omega), i_si_ne (Or.inl (by omega)), gt_no b6 (by omega)]
        exact p8 s k hs hk'
      · rw [x0 _ (by omega)] at hp
        rw [x0 0 (by omega), x0 _ (by omega)]
        exact r4 l p hl hp
      · rw [x0 0 (by omega)] at hk'
        rw [x0 _ (by omega)]
        exact r5 k hk'
      · rw [uw_eq, x0 1 (by omega)]; omega
    · have hs1 := hSh.fr a5 (by unfold FTc; intros; omega)
      exact ⟨(FT.1 _ _ (by unfold FTc; omega)).trans hs1.1, hs1.2.1, fun q hq => by
        obtain ⟨c, k1, k2⟩ := hs1.2.2 q hq
        have := sgA_row hq
        exact ⟨c, k1, (FT.1 _ _ (by unfold FTc; omega)).trans k2⟩⟩
end Ln2
