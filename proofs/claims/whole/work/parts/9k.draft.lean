/-! the draft on both sides; a name is read -/
section Dr
variable {σ τ : MsSt} {B w N : Nat → Nat} {E n : Nat}
theorem y_rf0 : ms_rf 139 0 = 1 := by decide +kernel
theorem y_rf1 : ms_rf 139 1 = 140 := by decide +kernel
theorem sgA_row {q : Nat} (h : SgA q) : ms_rf q 0 = q + 1 ∧ RowAt (q + 1) 6 ∧ 142 ≤ q ∧ q ≤ 271 := by
  rcases h with ⟨s, hs, rfl⟩ | rfl
  · obtain ⟨-, h2, h3⟩ := sc_sign (a := 140) (Or.inr rfl) hs
    rw [show 140 + 2 + 3 * s + 1 = 140 + 3 + 3 * s from by omega]
    exact ⟨h2, h3, by omega, by omega⟩
  · exact ⟨by decide +kernel, ⟨by decide +kernel, by decide +kernel, by omega⟩, by omega, by omega⟩
/-- enough to end -/
def ShC (σ : MsSt) (n : Nat) : Prop := ms_i σ 140 4 = iZ (n : Int) ∧ n ≤ 40 ∧ ∀ q, SgA q → ∃ c : Nat, c ≤ 6 ∧ ms_i σ (q + 1) 1 = iZ (c : Int)
theorem ShC.fr {σ' : MsSt} {P : Nat → Nat → Prop} (h : ShC σ n) (hF : Fr P σ σ') (h1 : ∀ a k, 140 ≤ a → a < 276 → (k = 1 ∨ a = 140) → ¬ P a k) : ShC σ' n :=
  ⟨(hF.1 _ _ (h1 _ _ (by omega) (by omega) (Or.inr rfl))).trans h.1, h.2.1, fun q hq => by
    obtain ⟨c, c1, c2⟩ := h.2.2 q hq
    have := sgA_row hq
    exact ⟨c, c1, (hF.1 _ _ (h1 _ _ (by omega) (by omega) (Or.inl rfl))).trans c2⟩⟩
theorem row_any {r M c : Nat} (hr : RowAt r M) (hc : ms_i σ r 1 = iZ (c : Int)) (hM : c ≤ M) : ∃ L : List Int, Rw cI σ r M L ∧ L.length = c := by
  refine ⟨(List.range c).map fun k => (ms_i σ (r + 1) k).toInt, ⟨hr, ?_, ?_, fun k hk => ?_⟩, by rw [List.length_map, List.length_range]⟩
  · rw [List.length_map, List.length_range]; exact hM
  · rw [List.length_map, List.length_range]; exact hc
  · rw [List.getElem_map, List.getElem_range]
    exact (Int32.ofInt_toInt _).symm
def DrR (σ τ : MsSt) (w N : Nat → Nat) : Prop := ScRep σ 140 w (w 0) ∧ NmC σ 140 N (w 0) ∧ NmOK N (w 0) ∧ LnRep σ 140 w ∧ ms_i σ 140 5 = iZ (w 1 : Int) ∧ ms_i σ 140 6 = iZ (w 2 : Int) ∧ Mw τ 495 w ∧ NmM τ 499 N (w 0) ∧ SgsOK w (w 0) ∧ w 1 ≤ 4 ∧ (∀ l, l < 4 → w (3 + l) ≤ 60) ∧ (∀ l, l < 4 → w 1 ≤ l → w (3 + l) = 0) ∧ (∀ l p, l < 4 → p < w (3 + l) → w (7 + 60 * l + p) < w 0) ∧ ∀ k, 247 + 7 * w 0 ≤ k → w k = 0
theorem SgRep.frD {σ' : MsSt} {P : Nat → Nat → Prop} {s : Nat} (h : SgRep σ 140 w s) (hF : Fr P σ σ') (hp : ∀ b k, 140 + 2 + 3 * s ≤ b → b ≤ 140 + 4 + 3 * s → ¬ P b k) : SgRep σ' 140 w s := by
  obtain ⟨h1, h2, h3, h4, h5, h6, h7, h8⟩ := h
  have q : ∀ k, ms_i σ' (140 + 2 + 3 * s) k = ms_i σ (140 + 2 + 3 * s) k := fun k => hF.1 _ _ (hp _ _ (by omega) (by omega))
  refine ⟨by rw [q]; exact h1, by rw [q]; exact h2, by rw [q]; exact h3, h4.fr hF (hp _ _ (by omega) (by omega)) (fun k => hp _ _ (by omega) (by omega)), fun c => ?_, fun c => ?_, fun c => ?_, fun c => ?_⟩
  · rw [q, q, q]; exact h5 c
  · rw [q, q]; exact h6 c
  · rw [q, q]; exact h7 c
  · rw [q, q, q]; exact h8 c
theorem DrR.fr {σ' τ' : MsSt} {P Q : Nat → Nat → Prop} (h : DrR σ τ w N) (hF : Fr P σ σ') (hG : Fr Q τ τ') (h1 : ∀ a k, 140 ≤ a → a < 276 → ¬ P a k) (h2 : ∀ k, ¬ Q 495 k) (h3 : ∀ k, ¬ Q 499 k) : DrR σ' τ' w N := by
  obtain ⟨⟨a0, a1⟩, a2, a3, a4, a5, a6, a7, a8, a9, r⟩ := h
  have h40 := a9.1
  exact ⟨⟨(hF.1 _ _ (h1 _ _ (by omega) (by omega))).trans a0, fun s hs => (a1 s hs).frD hF (fun b k b1 b2 => h1 _ _ (by omega) (by omega))⟩, fun s hs => (hF.1 _ _ (h1 _ _ (by omega) (by omega))).trans (a2 s hs), a3, fun l hl => (a4 l hl).fr hF (h1 _ _ (by omega) (by omega)) (fun k => h1 _ _ (by omega) (by omega)), (hF.1 _ _ (h1 _ _ (by omega) (by omega))).trans a5, (hF.1 _ _ (h1 _ _ (by omega) (by omega))).trans a6, a7.fr hG h2, fun s k hs hk => (hG.1 _ _ (h3 _)).trans (a8 s k hs hk), a9, r⟩
/-! a sign begins -/
theorem c_begin {q : Nat} (hq : SgA q) (k v : Int32) : ∃ σ', f_X7_begin σ q k v = some σ' ∧ (ms_i σ' q 1 = k ∧ ms_i σ' q 2 = v ∧ ms_i σ' q 4 = 0 ∧ ms_i σ' q 13 = 0) ∧ Rw cN σ' (q + 1) 6 ([] : List Nat) ∧ Fr (fun a j => a = q ∨ (a = q + 1 ∧ j = 1)) σ σ' := by
  obtain ⟨r0, r1, r2, r3⟩ := sgA_row hq
  have ne : ∀ {s : MsSt} {k j : Nat} {v : Int32}, j ≠ k → ms_i (ms_si s q k v) q j = ms_i s q j := fun h => i_si_ne (Or.inr h)
  have nr : ∀ {s : MsSt} {v : Int32} {j : Nat}, ms_i (ms_si s (q + 1) 1 v) q j = ms_i s q j := fun {s v j} => i_si_ne (Or.inl (by omega))
  unfold f_X7_begin f_X5_clear
  rw [r0]
  refine ⟨_, rfl, ⟨?_, ?_, ?_, ?_⟩, ⟨r1, Nat.zero_le _, by rw [i_si_same]; rfl, fun k hk => absurd hk (Nat.not_lt_zero _)⟩, ?_⟩
  · rw [nr, ne (by omega), ne (by omega), ne (by omega), ne (by omega), ne (by omega), ne (by omega), ne (by omega), ne (by omega), ne (by omega), ne (by omega), ne (by omega), ne (by omega), i_si_same]
  · rw [nr, ne (by omega), ne (by omega), ne (by omega), ne (by omega), ne (by omega), ne (by omega), ne (by omega), ne (by omega), ne (by omega), ne (by omega), ne (by omega), i_si_same]
  · rw [nr, ne (by omega), ne (by omega), ne (by omega), ne (by omega), ne (by omega), ne (by omega), ne (by omega), ne (by omega), ne (by omega), i_si_same]
  · rw [nr, i_si_same]
  · have S : ∀ (s : MsSt) (j : Nat) (x : Int32), Fr (fun a j => a = q ∨ (a = q + 1 ∧ j = 1)) σ s → Fr (fun a j => a = q ∨ (a = q + 1 ∧ j = 1)) σ (ms_si s q j x) := fun s j x h => h.trans (Fr.si _ _ (Or.inl rfl))
    exact (S _ _ _ (S _ _ _ (S _ _ _ (S _ _ _ (S _ _ _ (S _ _ _ (S _ _ _ (S _ _ _ (S _ _ _ (S _ _ _ (S _ _ _ (S _ _ _ (S _ _ _ (Fr.refl _ _)))))))))))))).trans (Fr.si _ _ (Or.inr ⟨rfl, rfl⟩))
theorem c_addPart {q x : Nat} {L : List Nat} (hq : SgA q) (h : Rw cN σ (q + 1) 6 L) (hL : L.length < 6) : ∃ σ', f_X7_addPart σ q (iZ (x : Int)) = some σ' ∧ Rw cN σ' (q + 1) 6 (L ++ [x]) ∧ ms_i σ' q 3 = iZ ((L.length + 1 : Nat) : Int) ∧ Fr (fun a j => (a = q ∧ j = 3) ∨ a = q + 1 ∨ a = q + 2) σ σ' := by
  obtain ⟨r0, r1, r2, r3⟩ := sgA_row hq
  obtain ⟨s1, a1, a2, a3⟩ := add_s h hL x
  have a1' : f_X5_add σ (q + 1) (iZ (x : Int)) = some s1 := a1
  refine ⟨ms_si s1 q 3 (iZ ((L.length + 1 : Nat) : Int)), ?_, a2.fr (Fr.si (P := fun a _ => a = q) _ _ rfl) (by omega) (by intros; omega), i_si_same _ _ _ _, (a3.mono fun a j g => by have g1 := g.1; have g2 := g.2; omega).trans (Fr.si _ _ (Or.inl ⟨rfl, rfl⟩))⟩
  unfold f_X7_addPart
  rw [r0, a1', Option.bind_some, nm_s, a2.cnt, List.length_append]
  rfl
/-- behind a sign: the sign is counted -/
theorem s_endSign (h : Sim σ τ B E) {m : Nat} (hc : ms_i σ 140 4 = iZ (n : Int)) (hm : ms_i τ 495 0 = iZ (m : Int)) : ∃ σ' τ', f_X8_endSign σ 139 = some σ' ∧ f_X12_readSign_81 τ 493 = some τ' ∧ Sim σ' τ' B E ∧ (okT σ' → okT σ) ∧ ms_i σ' 140 4 = iZ ((n + 1 : Nat) : Int) ∧ ms_i τ' 495 0 = iZ ((m + 1 : Nat) : Int) ∧ Fr (fun a k => FTc a k ∨ (a = 140 ∧ k = 4)) σ σ' ∧ Fr (fun a k => FTm a k ∨ (a = 495 ∧ k = 0)) τ τ' := by
  have l5 : ms_ln 495 = 527 := m_ln.2.1
  have e1 : iZ (m : Int) + 1 = iZ ((m + 1 : Nat) : Int) := by rw [i1, iZ_add]; rfl
  have e2 : iZ (n : Int) + 1 = iZ ((n + 1 : Nat) : Int) := by rw [i1, iZ_add]; rfl
  have hr : ms_ald τ 495 0 = some (iZ (m : Int)) := by
    have := ald_iZ (σ := τ) (a := 495) (k := 0) (by omega) (by omega)
    rw [hm] at this
    exact this
  have hw : ms_ast τ 495 0 (iZ ((m + 1 : Nat) : Int)) = some (ms_si τ 495 0 (iZ ((m + 1 : Nat) : Int))) := ast_iZ (k := 0) (by omega) (by omega)
  have h1 : Sim σ (ms_si τ 495 0 (iZ ((m + 1 : Nat) : Int))) B E := h.fr (Fr.refl (fun _ _ => False) σ) (Fr.si (P := fun a _ => a = 495) _ _ rfl) (by intros; exact id) (by intros; exact id) (by intros; omega) (by intros; omega)
  obtain ⟨σ2, τ2, b1, b2, b3, b4, b5, b6⟩ := s_expect h1 (c := 59) (by omega)
  have b1' : f_X9_takeSymbol σ 1 59 = some σ2 := b1
  have b2' : f_X12_expect (ms_si τ 495 0 (iZ ((m + 1 : Nat) : Int))) 493 59 = some τ2 := b2
  have e4 : ms_i σ2 140 4 = iZ (n : Int) := (b5.1 _ _ (by unfold FTc; omega)).trans hc
  refine ⟨ms_si σ2 140 4 (iZ ((n + 1 : Nat) : Int)), τ2, ?_, ?_, b3.fr (Fr.si (P := fun a _ => a = 140) _ _ rfl) (Fr.refl (fun _ _ => False) _) (by intros; omega) (by intros; omega) (by intros; exact id) (by intros; exact id), fun g => b4 (by unfold okT at g ⊢; rw [i_si_ne (Or.inl (by omega))] at g; exact g), i_si_same _ _ _ _, ?_, (b5.mono fun a k g => Or.inl g).trans (Fr.si _ _ (Or.inr ⟨rfl, rfl⟩)), (Fr.si (P := fun a k => FTm a k ∨ (a = 495 ∧ k = 0)) _ _ (Or.inr ⟨rfl, rfl⟩)).trans (b6.mono fun a k g => Or.inl g)⟩
  · unfold f_X8_endSign
    rw [y_rf0, y_rf1, b1', Option.bind_some, nm_s, e4, e2]
  · unfold f_X12_readSign_81
    rw [m_rf1, hr, Option.bind_some, e1, hw, Option.bind_some, b2', Option.bind_some]
  · rw [b6.1 _ _ (by unfold FTm; omega), i_si_same]
/-! a name is read -/
theorem m_nameLoop {st nx : Nat} (h : GdM τ B E st nx 1) (hO : TkOK B E st nx 1) (h0 : ms_i τ 495 0 = iZ (n : Int)) (hn : n < 40) : ∃ τ' m, f_X12_readName_36 ms_fuel τ 493 0 = f_X12_readName_36 (m + 1) τ' 493 4 ∧ (∀ k, k < 4 → ms_i τ' 499 (4 * n + k) = iZ (ltr B st nx k : Int)) ∧ Fr (fun a j => a = 499 ∧ 4 * n ≤ j) τ τ' := by
  have l5 : ms_ln 495 = 527 := m_ln.2.1
  have l9 : ms_ln 499 = 160 := m_ln.2.2.2.2.2.1
  have key := lpe (S := MsSt × Int32) (f := fun n t => f_X12_readName_36 n t.1 493 t.2) (fun i t => t.2 = iZ (i : Int) ∧ (∀ k, k < i → ms_i t.1 499 (4 * n + k) = iZ (ltr B st nx k : Int)) ∧ Fr (fun a j => a = 499 ∧ 4 * n ≤ j) τ t.1) 4 ?_ 4 0 (τ, 0) ms_fuel ⟨rfl, fun k hk => absurd hk (by omega), Fr.refl _ _⟩ rfl (show 4 < 100000 by omega)
  · obtain ⟨⟨t, x⟩, m, ⟨k1, k2, k3⟩, k4⟩ := key
    dsimp only at k1 k2 k3 k4
    subst k1
    exact ⟨t, m, k4, k2, k3⟩
  · rintro i ⟨t, x⟩ ⟨hx, hk, hF⟩ hlt
    dsimp only at hx hk hF ⊢
    subst hx
    have ht : GdM t B E st nx 1 := h.fr hF (by intros; omega) (by intros; omega)
    have e1 : iZ (i : Int) + 1 = iZ ((i + 1 : Nat) : Int) := by rw [i1, iZ_add]; rfl
    have hr : ms_ald t 495 0 = some (iZ (n : Int)) := by
      have := ald_iZ (σ := t) (a := 495) (k := 0) (by omega) (by omega)
      rw [hF.1 _ _ (by omega), h0] at this
      exact this
    have e : (4 : Int32) * iZ (n : Int) + iZ (i : Int) = iZ ((4 * n + i : Nat) : Int) := by rw [i4, iZ_mul, iZ_add]; rfl
    refine ⟨(ms_si t 499 (4 * n + i) (iZ (ltr B st nx i : Int)), iZ ((i + 1 : Nat) : Int)), ⟨rfl, fun k hk2 => ?_, hF.trans (Fr.si _ _ ⟨rfl, by omega⟩)⟩, fun n' => ?_⟩
    · rw [ms_i_si]
      by_cases g : k = i
      · rw [if_pos ⟨rfl, by omega⟩, g]
      · rw [if_neg (by omega)]
        exact hk k (by omega)
    · show (if iZ (i : Int) < 4 then _ else _) = _
      rw [iltT rfl i4 (by omega) (by omega) (by omega), if_pos ht.2.2.2.2, m_rf1, hr, Option.bind_some, m_letter ht hO hlt, Option.bind_some, e, m_rf5, ast_iZ (by omega) (by omega), Option.bind_some, e1]
def nmN (N : Nat → Nat) (n : Nat) (B : Nat → Nat) (st nx : Nat) : Nat → Nat := fun i => if i < 4 * n then N i else ltr B st nx (i - 4 * n)
theorem nmN_lo {st nx i : Nat} (h : i < 4 * n) : nmN N n B st nx i = N i := if_pos h
theorem nmN_hi {st nx k : Nat} : nmN N n B st nx (4 * n + k) = ltr B st nx k := by
  unfold nmN
  rw [if_neg (by omega), show 4 * n + k - 4 * n = k from by omega]
theorem nmN_ok {st nx : Nat} (hO : TkOK B E st nx 1) (hN : NmOK N n) : NmOK (nmN N n B st nx) (n + 1) := by
  intro s hs
  by_cases q : s = n
  · subst q
    refine ⟨fun k hk => ?_, fun k hk hz => ?_⟩
    · rw [nmN_hi]; exact ltr_lt hO k
    · rw [nmN_hi] at hz ⊢
      have : ¬ st + k < nx := fun g => by
        rcases ltr_lt hO k with g2 | g2
        · have e : ltr B st nx k = B (st + k) := if_pos g
          have := letB_iff.mp (hO.2.2.2.2.1 rfl (st + k) (by omega) g)
          omega
        · omega
      exact if_neg (by omega)
  · have h := hN s (by omega)
    refine ⟨fun k hk => ?_, fun k hk hz => ?_⟩
    · rw [nmN_lo (by omega)]; exact h.1 k hk
    · rw [nmN_lo (by omega)] at hz ⊢
      exact h.2 k hk hz
theorem s_name (h : Sim σ τ B E) (hSh : ShC σ n) (hn : n < 40) (hD : okT σ → ms_i τ 495 0 = iZ (n : Int) ∧ NmC σ 140 N n ∧ NmOK N n ∧ NmM τ 499 N n) : ∃ x σ' τ', f_X8_takeName σ 139 = some (x, σ') ∧ f_X12_readName τ 493 = some τ' ∧ Sim σ' τ' B E ∧ (okT σ' → okT σ ∧ ∃ N', (∀ i, i < 4 * n → N' i = N i) ∧ x = iZ (nmW N' n : Int) ∧ NmM τ' 499 N' (n + 1) ∧ NmOK N' (n + 1)) ∧ Fr FTc σ σ' ∧ Fr (fun a k => FTm a k ∨ (a = 499)) τ τ' := by
  obtain ⟨b, u1, u2, u3⟩ := s_isName h
  -- an error
  have bad : ∀ c : Nat, 1 ≤ c → c ≤ 5 → ∃ σ1 τ1 σ2 τ2, f_X9_fail σ 1 (iZ (c : Int)) = some σ1 ∧ f_X12_check τ 493 0 (iZ (c : Int)) = some τ1 ∧ f_X9_advance σ1 1 = some σ2 ∧ f_X12_readName_36 ms_fuel τ1 493 0 = some τ2 ∧ ¬ ms_i τ1 493 32 = 0 ∧ Sim σ2 τ2 B E ∧ ¬ okT σ2 ∧ Fr FTc σ σ2 ∧ Fr FTm τ τ2 := by
    intro c c1 c2
    obtain ⟨σ1, τ1, a1, a2, a3, a4, a5, a6⟩ := s_fail h c1 c2
    obtain ⟨σ2, τ2, b1, b2, b3, b4, b5, b6⟩ := s_advance a3
    have h32 : ¬ ms_i τ1 493 32 = 0 := fun g => a4 (a3.m0.mp g)
    refine ⟨σ1, τ1, σ2, τ2, a1, a2, b1, ?_, h32, b3, fun g => a4 (b4.mp g), a5.trans b5, a6.trans b6⟩
    show f_X12_readName_36 (99999 + 1) τ1 493 0 = _
    show (if (0 : Int32) < 4 then _ else _) = _
    rw [if_pos (by decide), if_neg h32, b2, Option.bind_some]
  unfold f_X8_takeName f_X12_readName
  rw [y_rf0, y_rf1, u2, Option.bind_some]
  by_cases q : b = true
  · obtain ⟨hk, st, nx, t1, t2, t3, t4⟩ := u3 q
    obtain ⟨d1, d2, d3, d4⟩ := hD hk
    have hl : ∀ k : Nat, k < 4 → f_X12_letterHere τ 493 (iZ (k : Int)) = some (iZ (ltr B st nx k : Int)) ∧ ltr B st nx k < 128 := fun k hk => ⟨m_letter t3 t1 hk, ltr_128 t1 k⟩
    have hm := m_named (l := ltr B st nx) d1 hl d4 d3 hSh.2.1
    have hc := c_findName (σ := σ) (l0 := ltr B st nx 0) (l1 := ltr B st nx 1) (l2 := ltr B st nx 2) (l3 := ltr B st nx 3) hSh.1 hSh.2.1 d2 d3 (ltr_128 t1 0) (ltr_128 t1 1) (ltr_128 t1 2) (ltr_128 t1 3)
    have hpk : f_X9_packedName σ 1 = some (iZ (pkN (ltr B st nx 0) (ltr B st nx 1) (ltr B st nx 2) (ltr B st nx 3) : Int)) := c_packed t2 t1
    have h32 := t3.2.2.2.2
    rw [hpk, Option.bind_some, u1, Option.bind_some, ibT q, hc, Option.bind_some, b01T q, m_check1, Option.bind_some, if_pos h32, hm, Option.bind_some]
    by_cases g : fsU (nmP N (ltr B st nx 0) (ltr B st nx 1) (ltr B st nx 2) (ltr B st nx 3)) 0 n = -1
    · obtain ⟨τ1, m, e1, e2, e3⟩ := m_nameLoop t3 t1 d1 hn
      have hS1 : Sim σ τ1 B E := h.fr (Fr.refl (fun _ _ => False) σ) e3 (by intros; exact id) (by intros; exact id) (by intros; omega) (by intros; omega)
      obtain ⟨σ2, τ2, b1, b2, b3, b4, b5, b6⟩ := s_advance hS1
      refine ⟨iZ (nmH B st nx : Int), σ2, τ2, ?_, ?_, b3, fun _ => ⟨hk, nmN N n B st nx, fun i hi => nmN_lo hi, ?_, fun s k hs hk4 => ?_, nmN_ok t1 d3⟩, b5, (e3.mono fun a j q => Or.inr q.1).trans (b6.mono fun a j q => Or.inl q)⟩
      · rw [ieqT rfl im1 g, b1, Option.bind_some]
        rfl
      · rw [ieqT rfl im1 g, m_check1, Option.bind_some, e1]
        show (if (4 : Int32) < 4 then _ else _) = _
        rw [if_neg (by decide), b2, Option.bind_some]
      · unfold nmW nmH
        rw [nmN_hi, nmN_hi, nmN_hi]
        have := nmN_hi (N := N) (B := B) (n := n) (st := st) (nx := nx) (k := 0)
        rw [Nat.add_zero] at this
        rw [this]
      · rw [b6.1 _ _ (by unfold FTm; omega)]
        by_cases qs : s = n
        · rw [qs, nmN_hi]
          exact e2 k hk4
        · rw [nmN_lo (by omega), e3.1 _ _ (by omega)]
          exact d4 s k (by omega) hk4
    · have hb := fsU_lt (nmP N (ltr B st nx 0) (ltr B st nx 1) (ltr B st nx 2) (ltr B st nx 3)) n 0
      obtain ⟨σ1, τ1, σ2, τ2, a1, a2, b1, b2, b3, b4, b5, b6, b7⟩ := bad 3 (by omega) (by omega)
      have a1' : f_X9_fail σ 1 3 = some σ1 := a1
      have a2' : f_X12_check τ 493 0 3 = some τ1 := a2
      have hsm := hSh.2.1
      refine ⟨iZ (pkN (ltr B st nx 0) (ltr B st nx 1) (ltr B st nx 2) (ltr B st nx 3) : Int), σ2, τ2, ?_, ?_, b4, fun g => absurd g b5, b6, b7.mono fun a j q => Or.inl q⟩
      · rw [ieqF rfl im1 g (by omega) (by omega) (by omega) (by omega), a1', Option.bind_some, b1, Option.bind_some]
      · rw [ieqF rfl im1 g (by omega) (by omega) (by omega) (by omega), a2', Option.bind_some, b2]
  · obtain ⟨v, hv⟩ := c_packT (σ := σ)
    obtain ⟨σ1, τ1, σ2, τ2, a1, a2, b1, b2, b3, b4, b5, b6, b7⟩ := bad 1 (by omega) (by omega)
    have a1' : f_X9_fail σ 1 1 = some σ1 := a1
    have a2' : f_X12_check τ 493 0 1 = some τ1 := a2
    refine ⟨v, σ2, τ2, ?_, ?_, b4, fun g => absurd g b5, b6, b7.mono fun a j q => Or.inl q⟩
    · rw [hv, Option.bind_some, u1, Option.bind_some, ibF q, a1', Option.bind_some, b1, Option.bind_some]
    · rw [b01F q, a2', Option.bind_some, if_neg b3, m_check1, Option.bind_some, b2]
end Dr
