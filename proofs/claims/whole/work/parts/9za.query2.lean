/-! query: tokens are counted, codes are written, values are read -/
section Q2
variable {σ τ : MsSt} {B w : Nat → Nat} {E : Nat}
def FQm : Nat → Nat → Prop := fun a k => FTm a k ∨ a = 515 ∨ (a = 493 ∧ (k = 40 ∨ k = 40))
def FQp : Nat → Nat → Prop := fun a k => FTm a k ∨ a = 515 ∨ (a = 493 ∧ (k = 35 ∨ k = 40))
theorem adv_pos {σ' : MsSt} {s : Nat} (h : Sim σ τ B E) (hk : okT σ) (ha : f_X9_advance σ 1 = some σ') (hs : ms_i σ 1 3 = iZ (s : Int)) (hsE : s ≤ 900) : ∃ s' : Nat, ms_i σ' 1 3 = iZ (s' : Int) ∧ s' ≤ E ∧ s ≤ s' ∧ (ms_i σ 1 5 ≠ 0 → s + 1 ≤ s') := by
  obtain ⟨st, nx, kd, k1, k2, k3⟩ := h.good hk
  obtain ⟨st', nx', kd', t1, t2, t3⟩ := tk_ex B k1.2.1
  obtain ⟨σ'', a1, a2, a3⟩ := c_advance k2.1 k2.2.2.1 k2.2.2.2.2.1 k2.2.2.2.2.2.1 t1 t2
  have e : σ'' = σ' := Option.some.inj (a1.symm.trans ha)
  subst e
  have hE : E ≤ 900 := k2.1.2.1
  have h1 := k1.1
  have h2 := k1.2.1
  have es : s = st := by
    have := hs.symm.trans k2.2.1
    rw [iZ_eq (by omega) (by omega) (by omega) (by omega)] at this
    omega
  have h3 := t2.1
  have h4 := t2.2.1
  refine ⟨st', a2.2.1, by omega, by omega, fun g => ?_⟩
  have hkd : kd ≠ 0 := fun q => g (by rw [k2.2.2.2.1, q]; rfl)
  have := k1.2.2.2.2.2.2 hkd
  omega
theorem word_kd {id : Nat} (h : f_X9_isWord σ 1 id = some 1) : ms_i σ 1 5 ≠ 0 := by
  intro q
  unfold f_X9_isWord at h
  rw [q, if_neg (by decide)] at h
  exact absurd (Option.some.inj h) (by decide)
theorem sym_kd {c : Int32} (h : f_X9_isSymbol σ 1 c = some 1) : ms_i σ 1 5 ≠ 0 := by
  intro q
  unfold f_X9_isSymbol at h
  rw [q, if_neg (by decide)] at h
  exact absurd (Option.some.inj h) (by decide)
theorem bad_kd (h : Sim σ τ B E) (hk : ¬ okT σ) : ms_i σ 1 5 = 0 := by
  obtain ⟨c, p, h1, h2, h3, h4, h5, h6⟩ := h.bad hk
  exact h5.1
theorem num_pos {σ' : MsSt} {x lo hi : Int32} (h : Sim σ τ B E) (hk : okT σ) (ht : f_X9_takeNumber σ 1 lo hi = some (x, σ')) (hk' : okT σ') : f_X9_advance σ 1 = some σ' := by
  have bad : ∀ (c : Nat), 1 ≤ c → c ≤ 5 → ∀ (y : MsSt → Int32), ((f_X9_fail σ 1 (iZ (c : Int))).bind fun s1 => (f_X9_advance s1 1).bind fun s2 => some (y s1, s2)) = some (x, σ') → False := by
    intro c c1 c2 y e
    obtain ⟨s1, t1, a1, a2, a3, a4, a5, a6⟩ := s_fail h c1 c2
    obtain ⟨s2, t2, b1, b2, b3, b4, b5, b6⟩ := s_advance a3
    rw [a1, Option.bind_some, b1, Option.bind_some] at e
    have := (Prod.mk.inj (Option.some.inj e)).2
    subst this
    exact a4 (b4.mp hk')
  unfold f_X9_takeNumber at ht
  by_cases g : ms_i σ 1 5 = 2
  · rw [if_pos g] at ht
    by_cases g1 : ms_i σ 1 6 < lo
    · rw [if_pos g1] at ht
      exact (bad 2 (by omega) (by omega) _ ht).elim
    · rw [if_neg g1] at ht
      by_cases g2 : hi < ms_i σ 1 6
      · rw [if_pos g2] at ht
        exact (bad 2 (by omega) (by omega) _ ht).elim
      · rw [if_neg g2] at ht
        obtain ⟨s2, t2, b1, b2, b3, b4, b5, b6⟩ := s_advance h
        rw [b1, Option.bind_some] at ht
        rw [b1, (Prod.mk.inj (Option.some.inj ht)).2]
  · rw [if_neg g] at ht
    exact (bad 1 (by omega) (by omega) _ ht).elim
/-- where both are, and the codes so far -/
def OkQ (σ τ : MsSt) (E : Nat) (C : List Int) (s : Nat) : Prop := ms_i σ 1 3 = iZ (s : Int) ∧ s ≤ E ∧ ms_i τ 493 40 = iZ (C.length : Int) ∧ CodeAt τ 0 C
theorem OkQ.fr {σ' τ' : MsSt} {C : List Int} {s : Nat} {P Q : Nat → Nat → Prop} (h : OkQ σ τ E C s) (hF : Fr P σ σ') (hG : Fr Q τ τ') (h1 : ¬ P 1 3) (h2 : ¬ Q 493 40) (h3 : ∀ k, ¬ Q 515 k) : OkQ σ' τ' E C s :=
  ⟨(hF.1 _ _ h1).trans h.1, h.2.1, (hG.1 _ _ h2).trans h.2.2.1, h.2.2.2.eq _ _ fun k _ => hG.1 _ _ (h3 k)⟩
/-- the class goes on: the codes stay -/
theorem OkQ.adv {σ' τ' : MsSt} {C : List Int} {s : Nat} {Q : Nat → Nat → Prop} (h : OkQ σ τ E C s) (hE : E ≤ 200) (hS : Sim σ τ B E) (hk : okT σ) (ha : f_X9_advance σ 1 = some σ') (hG : Fr Q τ τ') (h2 : ¬ Q 493 40) (h3 : ∀ k, ¬ Q 515 k) : ∃ s' : Nat, OkQ σ' τ' E C s' ∧ s ≤ s' ∧ (ms_i σ 1 5 ≠ 0 → s + 1 ≤ s') := by
  have hsE := h.2.1
  obtain ⟨s', a1, a2, a3, a4⟩ := adv_pos hS hk ha h.1 (by omega)
  exact ⟨s', ⟨a1, a2, (hG.1 _ _ h2).trans h.2.2.1, h.2.2.2.eq _ _ fun k _ => hG.1 _ _ (h3 k)⟩, a3, a4⟩
theorem m_emitOk {C : List Int} {s : Nat} (h : OkQ σ τ E C s) (h32 : ms_i τ 493 32 = 0) (hn : C.length < 200) (c : Int) : ∃ τ', f_X12_emit τ 493 (iZ c) = some τ' ∧ OkQ σ τ' E (C ++ [c]) s ∧ Fr (fun a k => a = 515 ∨ (a = 493 ∧ k = 40)) τ τ' := by
  obtain ⟨h1, h2, h3, h4⟩ := h
  have e : iZ (C.length : Int) + 1 = iZ (((C ++ [c]).length : Nat) : Int) := by
    rw [i1, iZ_add, List.length_append]
    rfl
  have l5 := l515
  have F : Fr (fun a k => a = 515 ∨ (a = 493 ∧ k = 40)) τ (ms_si (ms_si τ 515 C.length (iZ c)) 493 40 (iZ (((C ++ [c]).length : Nat) : Int))) := (Fr.si _ _ (Or.inl rfl)).trans (Fr.si _ _ (Or.inr ⟨rfl, rfl⟩))
  refine ⟨_, ?_, ⟨h1, h2, i_si_same _ _ _ _, ?_⟩, F⟩
  · unfold f_X12_emit
    rw [if_pos h32, m_rf38, h3, ast_iZ (by omega) (by omega), Option.bind_some, i_si_ne (Or.inl (by omega)), h3, e, nm_s]
  · rw [codeAt_append]
    refine ⟨h4.eq _ _ fun k hk => ?_, ?_, trivial⟩
    · rw [i_si_ne (Or.inl (by omega)), i_si_ne (Or.inr (by omega))]
    · rw [Nat.zero_add, i_si_ne (Or.inl (by omega)), i_si_same]
theorem m_emitBad (h32 : ¬ ms_i τ 493 32 = 0) (c : Int32) : f_X12_emit τ 493 c = some τ := by
  unfold f_X12_emit
  rw [if_neg h32]
/-! the class's rows of values -/
theorem c_fill {r : Nat} (hr : r = 281 ∨ r = 283) (hR : Rw cN σ 277 60 (qL w)) (h60 : (qL w).length ≤ 60) {s0 : MsSt} (h0 : Rw cI s0 r 60 ([] : List Int)) (hF0 : Fr (fun a k => a ≠ 277 ∧ a ≠ 278) σ s0) (X : Int) : ∃ σ', f_X4_readValue_29 ms_fuel s0 276 r (iZ X) 0 = some σ' ∧ Rw cI σ' r 60 (upTo (fun _ => X) (qL w).length) ∧ Fr (In r (r + 2)) s0 σ' := by
  have hR0 : Rw cN s0 277 60 (qL w) := hR.fr hF0 (by omega) (by intros; omega)
  refine lp0 (S := MsSt × Int32) (f := fun n t => f_X4_readValue_29 n t.1 276 r (iZ X) t.2) (Q := fun σ' => Rw cI σ' r 60 (upTo (fun _ => X) (qL w).length) ∧ Fr (In r (r + 2)) s0 σ')
    (fun i t => t.2 = iZ (i : Int) ∧ i ≤ (qL w).length ∧ Rw cI t.1 r 60 (upTo (fun _ => X) i) ∧ Fr (In r (r + 2)) s0 t.1) (qL w).length (s := (s0, 0)) ⟨rfl, Nat.zero_le _, h0, Fr.refl _ _⟩ (by omega) ?_ ?_
  · rintro i ⟨t, x⟩ ⟨hx, hi, hC, hF⟩ hlt'
    dsimp only at hx hC hF ⊢
    subst hx
    left
    have hRt := hR0.away hF (by omega)
    obtain ⟨s3, c1, c2, c3⟩ := add_s hC (by rw [upTo_length]; omega) X
    have c1' : f_X5_add t r (iZ X) = some s3 := c1
    refine ⟨(s3, iZ ((i + 1 : Nat) : Int)), ⟨rfl, hlt', by rw [upTo_succ]; exact c2, hF.trans c3⟩, fun n' => ?_⟩
    show (if iZ (i : Int) < ms_i t (ms_rf 276 2) 1 then _ else _) = _
    rw [z_rf2, iltT rfl hRt.cnt (by omega) (by omega) (by omega), c1', Option.bind_some, i1, iZ_add]
    rfl
  · rintro ⟨t, x⟩ ⟨hx, hi, hC, hF⟩
    dsimp only at hx hC hF ⊢
    subst hx
    have hRt := hR0.away hF (by omega)
    refine ⟨t, ⟨hC, hF⟩, fun n' => ?_⟩
    show (if iZ ((qL w).length : Int) < ms_i t (ms_rf 276 2) 1 then _ else _) = _
    rw [z_rf2, iltF rfl hRt.cnt (by omega) (by omega) (by omega)]
theorem c_fillP {r : Nat} (hr : r = 281 ∨ r = 283) {s0 : MsSt} (hQ : QE s0 w) (h0 : Rw cI s0 r 60 ([] : List Int)) {i : Int} (i1' : -10 ≤ i) (i2 : i < 10) : ∃ σ', f_X4_readValue_72 ms_fuel s0 276 r (iZ i) 0 = (f_X9_advance σ' 1).bind (fun s => some s) ∧ Rw cI σ' r 60 (upTo (fun p => (pv w p i : Int)) (qL w).length) ∧ Fr (In r (r + 2)) s0 σ' := by
  obtain ⟨k2, k60, klt⟩ := qL_ok hQ.1.1
  have hQf : ∀ t, Fr (In r (r + 2)) s0 t → QE t w := fun t hF => ⟨hQ.1.fr (hF.mono fun a k g => by have g1 := g.1; have g2 := g.2; unfold FScr; omega), hQ.2.1.away hF (by omega), hQ.2.2.away hF (by omega)⟩
  have key := lpe (S := MsSt × Int32) (f := fun n t => f_X4_readValue_72 n t.1 276 r (iZ i) t.2)
    (fun p t => t.2 = iZ (p : Int) ∧ p ≤ (qL w).length ∧ Rw cI t.1 r 60 (upTo (fun p => (pv w p i : Int)) p) ∧ Fr (In r (r + 2)) s0 t.1) (qL w).length ?_ (qL w).length 0 (s0, 0) ms_fuel ⟨rfl, Nat.zero_le _, h0, Fr.refl _ _⟩ (by omega) (show _ < 100000 by omega)
  · obtain ⟨⟨t, y⟩, m, ⟨k1, -, k3, k4⟩, k5⟩ := key
    dsimp only at k1 k3 k4 k5
    subst k1
    refine ⟨t, k5.trans ?_, k3, k4⟩
    show (if iZ ((qL w).length : Int) < ms_i t (ms_rf 276 2) 1 then _ else _) = _
    rw [z_rf2, iltF rfl (hQf t k4).2.1.cnt (by omega) (by omega) (by omega), z_rf0]
  · rintro p ⟨t, x⟩ ⟨hx, hp, hC, hF⟩ hlt'
    dsimp only at hx hC hF ⊢
    subst hx
    have hQt := hQf t hF
    obtain ⟨s3, c1, c2, c3⟩ := add_s hC (by rw [upTo_length]; omega) (pv w p i : Int)
    have c1' : f_X5_add t r (iZ (pv w p i : Int)) = some s3 := c1
    refine ⟨(s3, iZ ((p + 1 : Nat) : Int)), ⟨rfl, hlt', by rw [upTo_succ]; exact c2, hF.trans c3⟩, fun n' => ?_⟩
    show (if iZ (p : Int) < ms_i t (ms_rf 276 2) 1 then _ else _) = _
    rw [z_rf2, iltT rfl hQt.2.1.cnt (by omega) (by omega) (by omega), c_valueAt hQt hlt' i1' i2, Option.bind_some, c1', Option.bind_some, i1, iZ_add]
    rfl
end Q2
