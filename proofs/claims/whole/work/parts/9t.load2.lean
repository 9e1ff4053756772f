/-! load: the draft is taken over, or the error is told -/
section Lo
variable {σ τ : MsSt} {B w N : Nat → Nat} {E : Nat}
/-- a cell of one object into another -/
def cst (t : MsSt) (q p k : Nat) : MsSt := ms_si t q k (ms_i t p k)
def cpy (t : MsSt) (q p : Nat) : Nat → MsSt
  | 0 => t
  | n + 1 => cst (cpy t q p n) q p (n + 1)
theorem nm_c {β : Type} {t : MsSt} {q p k : Nat} {f : MsSt → Option β} : ms_nm (ms_si t q k (ms_i t p k)) f = f (cst t q p k) := rfl
theorem cpy_fr {t : MsSt} {q p : Nat} : ∀ n, Fr (fun a _ => a = q) t (cpy t q p n) := by
  intro n
  induction n with
  | zero => exact Fr.refl _ _
  | succ n ih => exact ih.trans (Fr.si _ _ rfl)
theorem cpy_get {t : MsSt} {q p : Nat} (hqp : p ≠ q) {j : Nat} (hj : 1 ≤ j) : ∀ n, j ≤ n → ms_i (cpy t q p n) q j = ms_i t p j := by
  intro n
  induction n with
  | zero => intro h; omega
  | succ n ih =>
    intro h
    show ms_i (ms_si (cpy t q p n) q (n + 1) (ms_i (cpy t q p n) p (n + 1))) q j = _
    by_cases g : j = n + 1
    · rw [g, i_si_same, (cpy_fr n).1 _ _ hqp]
    · rw [i_si_ne (Or.inr g)]
      exact ih (by omega)
theorem bz_01 {c : Nat} (h : c ≤ 1) : ms_bz (iZ (c : Int)) = some (iZ (c : Int)) := by
  have : c = 0 ∨ c = 1 := by omega
  rcases this with rfl | rfl <;> rfl
theorem c_takeSign {s : Nat} (hs : s < 40) (h : SgRep σ 140 w s) (hok : SgOK w s) (h6 : (ex w s).length ≤ 6) : ∃ σ', f_X7_takeOver σ (3 + 2 + 3 * s) (140 + 2 + 3 * s) = some σ' ∧ SgRep σ' 3 w s ∧ ms_i σ' (3 + 2 + 3 * s) 2 = ms_i σ (140 + 2 + 3 * s) 2 ∧ Fr (In (3 + 2 + 3 * s) (3 + 5 + 3 * s)) σ σ' := by
  obtain ⟨h1, h2, h3, h4, h5, h6', h7, h8⟩ := h
  obtain ⟨-, r1, r2⟩ := sc_sign (a := 3) (Or.inl rfl) hs
  obtain ⟨-, r3, r4⟩ := sc_sign (a := 140) (Or.inr rfl) hs
  obtain ⟨s1, a1, a2, a3⟩ := takeOver_s r2 h4 (by omega) h6
  have hqp : (140 + 2 + 3 * s : Nat) ≠ 3 + 2 + 3 * s := by omega
  have hz : ∃ c : Nat, c ≤ 1 ∧ ms_i σ (140 + 2 + 3 * s) 13 = iZ (c : Int) := by
    by_cases q : Kd w s = 2
    · exact ⟨_, (hok.2.2.2 q).2.2.2.2.2, (h8 q).2.2⟩
    · exact ⟨0, by omega, (h5 q).2.2⟩
  obtain ⟨c, c1, c2⟩ := hz
  have p13 : ms_i (cpy s1 (3 + 2 + 3 * s) (140 + 2 + 3 * s) 12) (140 + 2 + 3 * s) 13 = iZ (c : Int) := by
    rw [(cpy_fr 12).1 _ _ hqp, a3.at (by omega), c2]
  have G : Fr (fun a _ => a = 3 + 2 + 3 * s) s1 (ms_si (cpy s1 (3 + 2 + 3 * s) (140 + 2 + 3 * s) 12) (3 + 2 + 3 * s) 13 (iZ (c : Int))) := (cpy_fr 12).trans (Fr.si _ _ rfl)
  have get : ∀ j, 1 ≤ j → j ≤ 13 → ms_i (ms_si (cpy s1 (3 + 2 + 3 * s) (140 + 2 + 3 * s) 12) (3 + 2 + 3 * s) 13 (iZ (c : Int))) (3 + 2 + 3 * s) j = ms_i σ (140 + 2 + 3 * s) j := by
    intro j j1 j2
    by_cases g : j = 13
    · rw [g, i_si_same, c2]
    · rw [i_si_ne (Or.inr g), cpy_get hqp j1 12 (by omega), a3.at (by omega)]
  refine ⟨ms_si (cpy s1 (3 + 2 + 3 * s) (140 + 2 + 3 * s) 12) (3 + 2 + 3 * s) 13 (iZ (c : Int)), ?_, ⟨(get 1 (by omega) (by omega)).trans h1, (get 3 (by omega) (by omega)).trans h2, (get 4 (by omega) (by omega)).trans h3, a2.fr G (by omega) (by intros; omega), fun q => ?_, fun q => ?_, fun q => ?_, fun q => ?_⟩, get 2 (by omega) (by omega), (a3.widen (by omega) (by omega)).trans (G.mono fun a k g => ⟨by omega, by omega⟩)⟩
  · unfold f_X7_takeOver
    rw [r1, r3, a1, Option.bind_some, nm_c, nm_c, nm_c, nm_c, nm_c, nm_c, nm_c, nm_c, nm_c, nm_c, nm_c, nm_c]
    show (ms_bz (ms_i (cpy s1 (3 + 2 + 3 * s) (140 + 2 + 3 * s) 12) (140 + 2 + 3 * s) 13)).bind _ = _
    rw [p13, bz_01 c1, Option.bind_some]
    rfl
  · obtain ⟨g1, g2, g3⟩ := h5 q
    exact ⟨(get 6 (by omega) (by omega)).trans g1, (get 7 (by omega) (by omega)).trans g2, (get 13 (by omega) (by omega)).trans g3⟩
  · obtain ⟨g1, g2⟩ := h6' q
    exact ⟨(get 8 (by omega) (by omega)).trans g1, (get 9 (by omega) (by omega)).trans g2⟩
  · obtain ⟨g1, g2⟩ := h7 q
    exact ⟨(get 10 (by omega) (by omega)).trans g1, (get 5 (by omega) (by omega)).trans g2⟩
  · obtain ⟨g1, g2, g3⟩ := h8 q
    exact ⟨(get 11 (by omega) (by omega)).trans g1, (get 12 (by omega) (by omega)).trans g2, (get 13 (by omega) (by omega)).trans g3⟩
/-- the object's script becomes the draft -/
theorem c_take (hs : SgsOK w (w 0)) (hS : ScRep σ 140 w (w 0)) (hN : NmC σ 140 N (w 0)) (hL : LnRep σ 140 w) (h5 : ms_i σ 140 5 = iZ (w 1 : Int)) (h6 : ms_i σ 140 6 = iZ (w 2 : Int)) (h60 : ∀ l, l < 4 → w (3 + l) ≤ 60) : ∃ σ', f_X6_takeOver σ 3 140 = some σ' ∧ NowRep σ' 3 w ∧ NmC σ' 3 N (w 0) ∧ Fr (In 3 139) σ σ' := by
  have h40 := hs.1
  obtain ⟨r0, r1, r2, r3, r4, r5⟩ := sc_refs (a := 3) (Or.inl rfl)
  have lines : ∀ s1, Fr (In 3 139) σ s1 → (∀ s, s < w 0 → SgRep s1 3 w s ∧ ms_i s1 (3 + 2 + 3 * s) 2 = iZ (nmW N s : Int)) → ∃ σ', f_X6_takeOver_31 ms_fuel s1 3 140 0 = some σ' ∧ NowRep σ' 3 w ∧ NmC σ' 3 N (w 0) ∧ Fr (In 3 139) σ σ' := by
    intro s1 hF1 hG1
    refine lp0 (S := MsSt × Int32) (f := fun n t => f_X6_takeOver_31 n t.1 3 140 t.2) (Q := fun σ' => NowRep σ' 3 w ∧ NmC σ' 3 N (w 0) ∧ Fr (In 3 139) σ σ')
      (fun i t => t.2 = iZ (i : Int) ∧ i ≤ 4 ∧ Fr (In 3 139) σ t.1 ∧ (∀ s, s < w 0 → SgRep t.1 3 w s ∧ ms_i t.1 (3 + 2 + 3 * s) 2 = iZ (nmW N s : Int)) ∧ ∀ l, l < i → Rw cN t.1 (3 + 123 + 2 * l) 60 (ln w l)) 4 (s := (s1, 0)) ⟨rfl, by omega, hF1, hG1, fun l hl => absurd hl (by omega)⟩ (by omega) ?_ ?_
    · rintro i ⟨t, x⟩ ⟨hx, hi, hF, hG, hR⟩ hlt
      dsimp only at hx hF hG hR ⊢
      subst hx
      left
      obtain ⟨s2, b1, b2, b3⟩ := takeOver_s (sc_line (a := 3) (Or.inl rfl) hlt).2 ((hL i hlt).away hF (by omega)) (by omega) (by rw [ln_length]; exact h60 i hlt)
      refine ⟨(s2, iZ ((i + 1 : Nat) : Int)), ⟨rfl, by omega, hF.trans (b3.widen (by omega) (by omega)), fun s hs => ?_, fun l hl => ?_⟩, fun n' => ?_⟩
      · obtain ⟨g1, g2⟩ := hG s hs
        exact ⟨g1.away b3 (by omega), (b3.at (by omega) _).trans g2⟩
      · by_cases q : l = i
        · rw [q]; exact b2
        · exact (hR l (by omega)).away b3 (by omega)
      · show (if iZ (i : Int) < Int32.ofNat (ms_ln (ms_rf 3 1)) then _ else _) = _
        rw [r1, r5, iltT rfl (iZ_nat 4) (by omega) (by omega) (by omega), lineAt_s (a := 3) (Or.inl rfl) hlt, Option.bind_some, lineAt_s (a := 140) (Or.inr rfl) hlt, Option.bind_some, b1, Option.bind_some, i1, iZ_add]
        rfl
    · rintro ⟨t, x⟩ ⟨hx, hi, hF, hG, hR⟩
      dsimp only at hx hF hG hR ⊢
      subst hx
      have e4 : ms_i t 140 4 = iZ (w 0 : Int) := (hF.at (by omega) _).trans hS.1
      have e5 : ms_i t 140 5 = iZ (w 1 : Int) := (hF.at (by omega) _).trans h5
      have e6 : ms_i t 140 6 = iZ (w 2 : Int) := (hF.at (by omega) _).trans h6
      have G : Fr (fun a _ => a = 3) t (ms_si (ms_si (ms_si t 3 4 (iZ (w 0 : Int))) 3 5 (iZ (w 1 : Int))) 3 6 (iZ (w 2 : Int))) := ((Fr.si (P := fun a _ => a = 3) _ _ rfl).trans (Fr.si (P := fun a _ => a = 3) _ _ rfl)).trans (Fr.si (P := fun a _ => a = 3) _ _ rfl)
      refine ⟨ms_si (ms_si (ms_si t 3 4 (iZ (w 0 : Int))) 3 5 (iZ (w 1 : Int))) 3 6 (iZ (w 2 : Int)), ⟨⟨⟨by rw [i_si_ne (Or.inr (by omega)), i_si_ne (Or.inr (by omega)), i_si_same], fun s hs => (hG s hs).1.away (G.mono fun a k g => (⟨by omega, by omega⟩ : In 3 4 a k)) (by omega)⟩, by rw [i_si_ne (Or.inr (by omega)), i_si_same], i_si_same _ _ _ _, fun l hl => (hR l hl).fr G (by omega) (by intros; omega)⟩, fun s hs => (G.1 _ _ (by omega)).trans (hG s hs).2, hF.trans (G.mono fun a k g => ⟨by omega, by omega⟩)⟩, fun n' => ?_⟩
      show (if iZ ((4 : Nat) : Int) < Int32.ofNat (ms_ln (ms_rf 3 1)) then _ else _) = _
      rw [r1, r5, iltF rfl (iZ_nat 4) (by omega) (by omega) (by omega), e4, nm_s, i_si_ne (Or.inl (by omega)), e5, nm_s, i_si_ne (Or.inl (by omega)), i_si_ne (Or.inl (by omega)), e6, nm_s]
  unfold f_X6_takeOver
  refine lp0 (S := MsSt × Int32) (f := fun n t => f_X6_takeOver_2 n t.1 3 140 t.2) (Q := fun σ' => NowRep σ' 3 w ∧ NmC σ' 3 N (w 0) ∧ Fr (In 3 139) σ σ')
    (fun i t => t.2 = iZ (i : Int) ∧ i ≤ w 0 ∧ Fr (In 3 139) σ t.1 ∧ (∀ s, s < i → SgRep t.1 3 w s ∧ ms_i t.1 (3 + 2 + 3 * s) 2 = iZ (nmW N s : Int))) (w 0) (s := (σ, 0)) ⟨rfl, by omega, Fr.refl _ _, fun l hl => absurd hl (by omega)⟩ (by omega) ?_ ?_
  · rintro i ⟨t, x⟩ ⟨hx, hi, hF, hG⟩ hlt
    dsimp only at hx hF hG ⊢
    subst hx
    left
    obtain ⟨s2, b1, b2, b3, b4⟩ := c_takeSign (by omega) ((hS.2 i hlt).away hF (by omega)) (hs.2.1 i hlt).1 (hs.2.1 i hlt).2
    refine ⟨(s2, iZ ((i + 1 : Nat) : Int)), ⟨rfl, by omega, hF.trans (b4.widen (by omega) (by omega)), fun s hs => ?_⟩, fun n' => ?_⟩
    · by_cases q : s = i
      · rw [q]
        exact ⟨b2, b3.trans ((hF.at (by omega) _).trans (hN i hlt))⟩
      · obtain ⟨g1, g2⟩ := hG s (by omega)
        exact ⟨g1.away b4 (by omega), (b4.at (by omega) _).trans g2⟩
    · have e4 : ms_i t 140 4 = iZ (w 0 : Int) := (hF.at (by omega) _).trans hS.1
      show (if iZ (i : Int) < ms_i t 140 4 then _ else _) = _
      rw [iltT rfl e4 (by omega) (by omega) (by omega), told_s (a := 3) (Or.inl rfl) (by omega), Option.bind_some, told_s (a := 140) (Or.inr rfl) (by omega), Option.bind_some, b1, Option.bind_some, i1, iZ_add]
      rfl
  · rintro ⟨t, x⟩ ⟨hx, hi, hF, hG⟩
    dsimp only at hx hF hG ⊢
    subst hx
    have e4 : ms_i t 140 4 = iZ (w 0 : Int) := (hF.at (by omega) _).trans hS.1
    obtain ⟨σ', c1, c2⟩ := lines t hF hG
    refine ⟨σ', c2, fun n' => ?_⟩
    show (if iZ ((w 0 : Nat) : Int) < ms_i t 140 4 then _ else _) = _
    rw [iltF rfl e4 (by omega) (by omega) (by omega), c1]
/-- the reference takes the draft's names over -/
theorem m_names {n : Nat} (hn : n ≤ 40) (hN : NmM τ 499 N n) : ∃ τ', f_X12_load_86 ms_fuel τ 493 0 = some (ms_i τ 494 0, τ') ∧ ms_i τ' 493 6 = 0 ∧ ms_i τ' 493 8 = 0 ∧ NmM τ' 498 N n ∧ Fr (fun a k => a = 498 ∨ (a = 493 ∧ (k = 6 ∨ k = 8))) τ τ' := by
  have l4 : ms_ln 494 = 527 := m_ln.1
  have l8 : ms_ln 498 = 160 := m_ln.2.2.2.2.1
  have l9 : ms_ln 499 = 160 := m_ln.2.2.2.2.2.1
  have i160 : (160 : Int32) = iZ 160 := rfl
  have key := lpe (S := MsSt × Int32) (f := fun n t => f_X12_load_86 n t.1 493 t.2) (fun i t => t.2 = iZ (i : Int) ∧ i ≤ 160 ∧ (∀ k, k < i → ms_i t.1 498 k = ms_i τ 499 k) ∧ Fr (fun a _ => a = 498) τ t.1) 160 ?_ 160 0 (τ, 0) ms_fuel ⟨rfl, by omega, fun k hk => absurd hk (by omega), Fr.refl _ _⟩ (by omega) (show 160 < 100000 by omega)
  · obtain ⟨⟨t, y⟩, m, ⟨k1, k2, k3, k4⟩, k5⟩ := key
    dsimp only at k1 k3 k4 k5
    subst k1
    have hr : ms_ald (ms_si (ms_si t 493 6 0) 493 8 0) 494 0 = some (ms_i τ 494 0) := by
      have := ald_iZ (σ := ms_si (ms_si t 493 6 0) 493 8 0) (a := 494) (k := 0) (by omega) (by omega)
      rw [i_si_ne (Or.inl (by omega)), i_si_ne (Or.inl (by omega)), k4.1 _ _ (by omega)] at this
      exact this
    refine ⟨ms_si (ms_si t 493 6 0) 493 8 0, k5.trans ?_, by rw [i_si_ne (Or.inr (by omega)), i_si_same], i_si_same _ _ _ _, fun s k hs hk => ?_, ((k4.mono fun a k g => Or.inl g).trans (Fr.si _ _ (Or.inr ⟨rfl, Or.inl rfl⟩))).trans (Fr.si _ _ (Or.inr ⟨rfl, Or.inr rfl⟩))⟩
    · show (if iZ ((160 : Nat) : Int) < 160 then _ else _) = _
      rw [iltF rfl i160 (by omega) (by omega) (by omega), nm_s, nm_s, m_rf0, hr, Option.bind_some]
    · rw [i_si_ne (Or.inl (by omega)), i_si_ne (Or.inl (by omega)), k3 _ (by omega)]
      exact hN s k hs hk
  · rintro i ⟨t, y⟩ ⟨h1, h2, h3, h4⟩ hlt
    dsimp only at h1 h3 h4 ⊢
    subst h1
    have hr : ms_ald t 499 (iZ (i : Int)) = some (ms_i τ 499 i) := by
      rw [ald_iZ (by omega) (by omega), h4.1 _ _ (by omega)]
    refine ⟨(ms_si t 498 i (ms_i τ 499 i), iZ ((i + 1 : Nat) : Int)), ⟨rfl, by omega, fun k hk => ?_, h4.trans (Fr.si _ _ rfl)⟩, fun n' => ?_⟩
    · by_cases q : k = i
      · rw [q, i_si_same]
      · dsimp only
        rw [i_si_ne (Or.inr q)]
        exact h3 k (by omega)
    · show (if iZ (i : Int) < 160 then _ else _) = _
      rw [iltT rfl i160 (by omega) (by omega) (by omega), m_rf5, hr, Option.bind_some, m_rf4, ast_iZ (by omega) (by omega), Option.bind_some, i1, iZ_add]
      rfl
end Lo
