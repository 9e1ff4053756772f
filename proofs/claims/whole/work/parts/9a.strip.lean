/-! strip -/
section Sp2
variable {σ : MsSt} {w : Nat → Nat}
/-- a loop runs to its end, and is there with some fuel left -/
theorem lpe {S β : Type} {f : Nat → S → β} (I : Nat → S → Prop) (N : Nat) (hs : ∀ i s, I i s → i < N → ∃ s', I (i + 1) s' ∧ ∀ n, f (n + 1) s = f n s') : ∀ (k i : Nat) (s : S) (n : Nat), I i s → i + k = N → k < n → ∃ s' m, I N s' ∧ f n s = f (m + 1) s' := by
  intro k
  induction k with
  | zero =>
    intro i s n hi hN hn
    obtain ⟨m, rfl⟩ : ∃ m, n = m + 1 := ⟨n - 1, by omega⟩
    have hiN : i = N := by omega
    subst hiN
    exact ⟨s, m, hi, rfl⟩
  | succ k ih =>
    intro i s n hi hN hn
    obtain ⟨m, rfl⟩ : ∃ m, n = m + 1 := ⟨n - 1, by omega⟩
    obtain ⟨s', h1, h2⟩ := hs i s hi (by omega)
    obtain ⟨s2, m2, h3, h4⟩ := ih (i + 1) s' m h1 (by omega) (by omega)
    exact ⟨s2, m2, h3, by rw [h2, h4]⟩
theorem cnt_add (P : Nat → Bool) (a : Nat) : ∀ b, cnt P (a + b) = cnt P a + cnt (fun d => P (a + d)) b := by
  intro b
  induction b with
  | zero => rfl
  | succ b ih =>
    rw [show a + (b + 1) = (a + b) + 1 from rfl, cnt_succ, cnt_succ, ih, Nat.add_assoc]
theorem cnt_all {P : Nat → Bool} : ∀ n, (∀ t, t < n → P t = true) → cnt P n = n := by
  intro n
  induction n with
  | zero => intro _; rfl
  | succ n ih => intro h; rw [cnt_succ, ih fun t ht => h t (by omega), if_pos (h n (by omega))]
theorem cnt_not {P Q : Nat → Bool} : ∀ n, (∀ t, t < n → Q t = !P t) → cnt Q n + cnt P n = n := by
  intro n
  induction n with
  | zero => intro _; rfl
  | succ n ih =>
    intro h
    have := ih fun t ht => h t (by omega)
    rw [cnt_succ, cnt_succ, h n (by omega)]
    by_cases g : P n = true
    · rw [g]; simp; omega
    · rw [Bool.eq_false_iff.mpr g]; simp; omega
def sdB (w : Nat → Nat) (t : Int) (x : Nat) : Bool := decide (t = 3) || decide ((sgF w x 6 : Int) = t)
def kpB (w : Nat → Nat) (D : List Nat) (c : Nat) (t : Int) (k : Nat) : Bool := !(decide (fm w D c ≤ k) && (decide (k < be w D (c + 1)) && sdB w t (D.getD k 0)))
def stL (w : Nat → Nat) (D : List Nat) (c : Nat) (t : Int) : Nat → List Nat
  | 0 => []
  | i + 1 => if kpB w D c t i = true then stL w D c t i ++ [D.getD i 0] else stL w D c t i
def goN (w : Nat → Nat) (D : List Nat) (c : Nat) (t : Int) : Nat := cnt (fun d => sdB w t (D.getD (fm w D c + d) 0)) (mks w D c)
section Ml
variable {D : List Nat} {c : Nat} {t : Int}
theorem stL_t {i : Nat} (h : kpB w D c t i = true) : stL w D c t (i + 1) = stL w D c t i ++ [D.getD i 0] := if_pos h
theorem stL_f {i : Nat} (h : ¬ kpB w D c t i = true) : stL w D c t (i + 1) = stL w D c t i := if_neg h
theorem stL_length : ∀ i, (stL w D c t i).length = cnt (kpB w D c t) i := by
  intro i
  induction i with
  | zero => rfl
  | succ i ih =>
    rw [cnt_succ]
    by_cases g : kpB w D c t i = true
    · rw [stL_t g, if_pos g, List.length_append, ih]; rfl
    · rw [stL_f g, if_neg g, ih]; rfl
theorem stL_mono {i j : Nat} (h : i ≤ j) : (stL w D c t i).length ≤ (stL w D c t j).length := by
  obtain ⟨d, rfl⟩ : ∃ d, j = i + d := ⟨j - i, by omega⟩
  rw [stL_length, stL_length, cnt_add]
  omega
theorem stL_mem {x : Nat} : ∀ i, i ≤ D.length → x ∈ stL w D c t i → x ∈ D := by
  intro i
  induction i with
  | zero => intro _ h; cases h
  | succ i ih =>
    intro hi h
    by_cases g : kpB w D c t i = true
    · rw [stL_t g] at h
      rcases List.mem_append.mp h with h | h
      · exact ih (by omega) h
      · rw [List.mem_singleton.mp h, getD_get (by omega)]
        exact List.getElem_mem _
    · rw [stL_f g] at h
      exact ih (by omega) h
theorem stL_go (hc : c < (bg w D).length) : (stL w D c t D.length).length + goN w D c t = D.length ∧ goN w D c t ≤ mks w D c := by
  have hf := fm_le (w := w) (D := D) hc
  have hb := be_lt (w := w) (D := D) hc
  have hmk : mks w D c = be w D (c + 1) - fm w D c := rfl
  have e : D.length = fm w D c + (mks w D c + (D.length - be w D (c + 1))) := by omega
  have hg := cnt_le (fun d => sdB w t (D.getD (fm w D c + d) 0)) (mks w D c)
  refine ⟨?_, hg⟩
  have h1 : cnt (kpB w D c t) (fm w D c) = fm w D c := cnt_all _ fun k hk => by
    unfold kpB
    rw [decide_eq_false (by omega)]
    rfl
  have h2 : cnt (fun d => kpB w D c t (fm w D c + d)) (mks w D c) + goN w D c t = mks w D c := cnt_not _ fun d hd => by
    unfold kpB
    rw [decide_eq_true (by omega : fm w D c ≤ fm w D c + d), decide_eq_true (by omega : fm w D c + d < be w D (c + 1))]
    rfl
  have h3 : cnt (fun d => kpB w D c t (fm w D c + (mks w D c + d))) (D.length - be w D (c + 1)) = D.length - be w D (c + 1) := cnt_all _ fun d hd => by
    unfold kpB
    rw [decide_eq_false (by omega : ¬ fm w D c + (mks w D c + d) < be w D (c + 1))]
    simp
  have h4 := cnt_add (kpB w D c t) (fm w D c) (mks w D c + (D.length - be w D (c + 1)))
  have h5 := cnt_add (fun d => kpB w D c t (fm w D c + d)) (mks w D c) (D.length - be w D (c + 1))
  rw [← e] at h4
  rw [stL_length]
  omega
end Ml
theorem c_isOfSide {F n x : Nat} {t : Int} (hF : FmAt F) (hs : SgsOK w n) (hc : ScRep σ 3 w n) (hx : x < n) (hk : Kd w x = 1) (t1 : 0 ≤ t) (t2 : t ≤ 3) : f_X1_isOfSide σ F (iZ (x : Int)) (iZ t) = some (b01 (sdB w t x = true)) := by
  have h40 := hs.1
  obtain ⟨r0, r1, r2, r3, r4, r5, r6⟩ := fm_refs hF
  have h6 := ((hs.2.1 x hx).1.2.2.1 hk).2.2.2.2.2.2.2
  unfold f_X1_isOfSide
  by_cases g : t = 3
  · have e : sdB w t x = true := by unfold sdB; rw [decide_eq_true g]; rfl
    rw [ieqT rfl i3 g]
    unfold b01
    rw [if_pos e]
  · rw [ieqF rfl i3 g (by omega) (by omega) (by omega) (by omega), r0, told_s (a := 3) (Or.inl rfl) (by omega), Option.bind_some, ((hc.2 x hx).2.2.2.2.2.2.1 hk).2]
    by_cases g2 : (sgF w x 6 : Int) = t
    · have e : sdB w t x = true := by unfold sdB; rw [decide_eq_true g2, Bool.or_true]
      rw [ieqT rfl rfl g2]
      unfold b01
      rw [if_pos e]
    · have e : ¬ sdB w t x = true := by unfold sdB; rw [decide_eq_false g, decide_eq_false g2]; simp
      rw [ieqF rfl rfl g2 (by omega) (by omega) (by omega) (by omega)]
      unfold b01
      rw [if_neg e]
section Cl2
variable {F n c : Nat} {t : Int} {D : List Nat}
theorem c_marksOfSide (hF : FmAt F) (hs : SgsOK w n) (hc : ScRep σ 3 w n) (hD : ∀ y ∈ D, y < n ∧ Kd w y ≤ 1 ∧ Cl w y ≤ 60) (hR : FmR σ F w D) (hcc : c < (bg w D).length) (h66 : mks w D c ≤ 66) (t1 : 0 ≤ t) (t2 : t ≤ 3) : f_X1_marksOfSide σ F (iZ (c : Int)) (iZ t) = some (iZ (goN w D c t : Int)) := by
  have h40 := hs.1
  have hf := fm_le (w := w) (D := D) hcc
  have hb := be_lt (w := w) (D := D) hcc
  have hm : mks w D c = be w D (c + 1) - fm w D c := rfl
  have hlen := hR.1.len
  obtain ⟨r0, r1, r2, r3, r4, r5, r6⟩ := fm_refs hF
  unfold f_X1_marksOfSide
  rw [c_firstMark hR hF hcc (fun y hy => by have := (hD y hy).1; omega), Option.bind_some]
  refine lpx (S := Int32 × Int32) (f := fun n p => f_X1_marksOfSide_9 σ n F (iZ (c : Int)) (iZ t) p.1 p.2) (o := some (iZ (goN w D c t : Int)))
    (fun i p => p.1 = iZ (cnt (fun d => sdB w t (D.getD (fm w D c + d) 0)) i : Int) ∧ p.2 = iZ ((fm w D c + i : Nat) : Int) ∧ i ≤ mks w D c) (mks w D c) ?_ ?_ (mks w D c) 0 (0, iZ (fm w D c : Int)) ms_fuel ⟨rfl, rfl, Nat.zero_le _⟩ (by omega) (show mks w D c < 100000 by omega)
  · rintro i ⟨a, x⟩ ⟨ha, hx, hi⟩ hlt
    dsimp only at ha hx ⊢
    subst ha; subst hx
    have hcnt := cnt_le (fun d => sdB w t (D.getD (fm w D c + d) 0)) i
    have hkl : fm w D c + i < D.length := by omega
    have hy := hD _ (List.getElem_mem hkl)
    rw [← getD_get hkl] at hy
    have hk1 := fm_mark (w := w) (D := D) (k := fm w D c + i) hcc (by omega) (by omega)
    have e1 : iZ ((fm w D c + i : Nat) : Int) + 1 = iZ ((fm w D c + (i + 1) : Nat) : Int) := by rw [i1, iZ_add]; rfl
    refine ⟨(iZ (cnt (fun d => sdB w t (D.getD (fm w D c + d) 0)) (i + 1) : Int), iZ ((fm w D c + (i + 1) : Nat) : Int)), ⟨rfl, rfl, hlt⟩, fun n' => ?_⟩
    show (f_X1_endOf σ F (iZ (c : Int))).bind _ = _
    rw [c_endOf hR hF hcc, Option.bind_some, iltT rfl rfl (by omega) (by omega) (by omega), r2, c_sgn hR hkl, Option.bind_some, c_isOfSide hF hs hc hy.1 hk1 t1 t2, Option.bind_some, e1, cnt_succ]
    by_cases g : sdB w t (D.getD (fm w D c + i) 0) = true
    · have e2 : iZ (cnt (fun d => sdB w t (D.getD (fm w D c + d) 0)) i : Int) + 1 = iZ ((cnt (fun d => sdB w t (D.getD (fm w D c + d) 0)) i + 1 : Nat) : Int) := by rw [i1, iZ_add]; rfl
      rw [if_pos g, ibT g, e2]
    · rw [if_neg g, ibF g]
      rfl
  · rintro ⟨a, x⟩ ⟨ha, hx, hi⟩ n'
    dsimp only at ha hx ⊢
    subst ha; subst hx
    show (f_X1_endOf σ F (iZ (c : Int))).bind _ = _
    rw [c_endOf hR hF hcc, Option.bind_some, iltF rfl rfl (by omega) (by omega) (by omega)]
    rfl
theorem c_writeWithout {r : Nat} (hr : RowAt r 60) (hrF : r + 2 ≤ F) (hr3 : 125 ≤ r) (hF : FmAt F) (hs : SgsOK w n) (hc : ScRep σ 3 w n) (hD : ∀ y ∈ D, y < n ∧ Kd w y ≤ 1 ∧ Cl w y ≤ 60) (hR : FmR σ F w D) (hcc : c < (bg w D).length) (h60 : (stL w D c t D.length).length ≤ 60) (t1 : 0 ≤ t) (t2 : t ≤ 3) : ∃ σ', f_X1_writeWithout σ F (iZ (c : Int)) (iZ t) r = some σ' ∧ Rw cN σ' r 60 (stL w D c t D.length) ∧ Fr (In r (r + 2)) σ σ' := by
  have h40 := hs.1
  have hf := fm_le (w := w) (D := D) hcc
  have hb := be_lt (w := w) (D := D) hcc
  have hlen := hR.1.len
  obtain ⟨r0, r1, r2, r3, r4, r5, r6⟩ := fm_refs hF
  obtain ⟨s1, a1, a2, a3⟩ := clear_s (e := cN) (σ := σ) hr
  have key := lp0 (S := MsSt × Int32) (f := fun n p => f_X1_writeWithout_21 n p.1 F (iZ t) r (iZ (fm w D c : Int)) (iZ (be w D (c + 1) : Int)) p.2) (Q := fun σ' => Rw cN σ' r 60 (stL w D c t D.length) ∧ Fr (In r (r + 2)) σ σ')
    (fun i p => p.2 = iZ (i : Int) ∧ i ≤ D.length ∧ Rw cN p.1 r 60 (stL w D c t i) ∧ Fr (In r (r + 2)) σ p.1) D.length (s := (s1, 0)) ⟨rfl, Nat.zero_le _, a2, a3⟩ (by omega) ?_ ?_
  · obtain ⟨σ', b1, b2⟩ := key
    refine ⟨σ', ?_, b2⟩
    unfold f_X1_writeWithout
    rw [c_firstMark hR hF hcc (fun y hy => by have := (hD y hy).1; omega), Option.bind_some, c_endOf hR hF hcc, Option.bind_some, a1, Option.bind_some, b1]
  · rintro i ⟨p, x⟩ ⟨hx, hi, hp, hFp⟩ hlt
    dsimp only at hx hp hFp ⊢
    subst hx
    left
    have hRp : FmR p F w D := hR.away hFp (by omega)
    have hcp : ScRep p 3 w n := hc.away hFp h40 (by omega)
    have e1 : iZ (i : Int) + 1 = iZ ((i + 1 : Nat) : Int) := by rw [i1, iZ_add]; rfl
    have hy := hD _ (List.getElem_mem hlt)
    rw [← getD_get hlt] at hy
    have hh : (if iZ (i : Int) < ms_i p (ms_rf F 2) 1 then (f_X5_get p (ms_rf F 2) (iZ (i : Int))) else none) = some (iZ ((D.getD i 0 : Nat) : Int)) := by
      rw [r2, iltT rfl hRp.1.cnt (by omega) (by omega) (by omega), c_sgn hRp hlt]
    have keep : kpB w D c t i = true → ∃ s2, f_X5_add p r (iZ ((D.getD i 0 : Nat) : Int)) = some s2 ∧ Rw cN s2 r 60 (stL w D c t (i + 1)) ∧ Fr (In r (r + 2)) σ s2 := by
      intro g
      have hm := stL_mono (w := w) (D := D) (c := c) (t := t) (i := i + 1) (j := D.length) hlt
      rw [stL_t g, List.length_append, List.length_singleton] at hm
      obtain ⟨s2, d1, d2, d3⟩ := add_s hp (by omega) (D.getD i 0)
      exact ⟨s2, d1, by rw [stL_t g]; exact d2, hFp.trans d3⟩
    by_cases g1 : i < fm w D c
    · have gk : kpB w D c t i = true := by unfold kpB; rw [decide_eq_false (by omega)]; rfl
      obtain ⟨s2, d1, d2, d3⟩ := keep gk
      refine ⟨(s2, iZ ((i + 1 : Nat) : Int)), ⟨rfl, hlt, d2, d3⟩, fun n' => ?_⟩
      show (if iZ (i : Int) < ms_i p (ms_rf F 2) 1 then _ else _) = _
      rw [r2, iltT rfl hRp.1.cnt (by omega) (by omega) (by omega), c_sgn hRp hlt, Option.bind_some, iltT rfl rfl (by omega) (by omega) (by omega), d1, Option.bind_some, e1]
    · by_cases g2 : i < be w D (c + 1)
      · have hk1 := fm_mark (w := w) (D := D) (k := i) hcc (by omega) g2
        have hsd := c_isOfSide hF hs hcp hy.1 hk1 t1 t2
        by_cases g3 : sdB w t (D.getD i 0) = true
        · have gk : ¬ kpB w D c t i = true := by unfold kpB; rw [decide_eq_true (by omega : fm w D c ≤ i), decide_eq_true g2, g3]; simp
          refine ⟨(p, iZ ((i + 1 : Nat) : Int)), ⟨rfl, hlt, by rw [stL_f gk]; exact hp, hFp⟩, fun n' => ?_⟩
          show (if iZ (i : Int) < ms_i p (ms_rf F 2) 1 then _ else _) = _
          rw [r2, iltT rfl hRp.1.cnt (by omega) (by omega) (by omega), c_sgn hRp hlt, Option.bind_some, iltF rfl rfl (by omega) (by omega) (by omega), iltT rfl rfl (by omega) (by omega) (by omega), hsd, Option.bind_some, ibT g3, e1]
        · have gk : kpB w D c t i = true := by unfold kpB; rw [Bool.eq_false_iff.mpr g3]; simp
          obtain ⟨s2, d1, d2, d3⟩ := keep gk
          refine ⟨(s2, iZ ((i + 1 : Nat) : Int)), ⟨rfl, hlt, d2, d3⟩, fun n' => ?_⟩
          show (if iZ (i : Int) < ms_i p (ms_rf F 2) 1 then _ else _) = _
          rw [r2, iltT rfl hRp.1.cnt (by omega) (by omega) (by omega), c_sgn hRp hlt, Option.bind_some, iltF rfl rfl (by omega) (by omega) (by omega), iltT rfl rfl (by omega) (by omega) (by omega), hsd, Option.bind_some, ibF g3, d1, Option.bind_some, e1]
      · have gk : kpB w D c t i = true := by unfold kpB; rw [decide_eq_false g2]; simp
        obtain ⟨s2, d1, d2, d3⟩ := keep gk
        refine ⟨(s2, iZ ((i + 1 : Nat) : Int)), ⟨rfl, hlt, d2, d3⟩, fun n' => ?_⟩
        show (if iZ (i : Int) < ms_i p (ms_rf F 2) 1 then _ else _) = _
        rw [r2, iltT rfl hRp.1.cnt (by omega) (by omega) (by omega), c_sgn hRp hlt, Option.bind_some, iltF rfl rfl (by omega) (by omega) (by omega), iltF rfl rfl (by omega) (by omega) (by omega), d1, Option.bind_some, e1]
  · rintro ⟨p, x⟩ ⟨hx, hi, hp, hFp⟩
    dsimp only at hx hp hFp ⊢
    subst hx
    have hRp : FmR p F w D := hR.away hFp (by omega)
    refine ⟨p, ⟨hp, hFp⟩, fun n' => ?_⟩
    show (if iZ (D.length : Int) < ms_i p (ms_rf F 2) 1 then _ else _) = _
    rw [r2, iltF rfl hRp.1.cnt (by omega) (by omega) (by omega)]
end Cl2
/-- the reference goes through the decomposed form -/
theorem m_strip49 {n l c : Nat} {t : Int} {D : List Nat} (h : LcS σ w n D) (hcc : c < (bg w D).length) (t1 : 0 ≤ t) (t2 : t ≤ 3) : ∃ σ' m, f_X12_strip_49 ms_fuel σ 493 (iZ (l : Int)) (iZ (c : Int)) (iZ t) 0 0 = f_X12_strip_49 (m + 1) σ' 493 (iZ (l : Int)) (iZ (c : Int)) (iZ t) (iZ ((stL w D c t D.length).length : Int)) (iZ (D.length : Int)) ∧ Aw σ' 509 (stL w D c t D.length) ∧ Fr (fun a _ => a = 509) σ σ' := by
  have hf := fm_le (w := w) (D := D) hcc
  have hb := be_lt (w := w) (D := D) hcc
  have h360 := h.2.2.2.2.1
  have h40 := h.2.2.1.1
  have l9 : ms_ln 509 = 361 := m_ln.2.2.2.2.2.2.2.2.2.2.2.2.2.1
  have key := lpe (S := MsSt × Int32 × Int32) (f := fun n p => f_X12_strip_49 n p.1 493 (iZ (l : Int)) (iZ (c : Int)) (iZ t) p.2.1 p.2.2)
    (fun i p => p.2.1 = iZ ((stL w D c t i).length : Int) ∧ p.2.2 = iZ (i : Int) ∧ i ≤ D.length ∧ Aw p.1 509 (stL w D c t i) ∧ Fr (fun a _ => a = 509) σ p.1) D.length ?_ D.length 0 (σ, 0, 0) ms_fuel ⟨rfl, rfl, Nat.zero_le _, Aw.nil _ _, Fr.refl _ _⟩ (by omega) (show D.length < 100000 by omega)
  · obtain ⟨⟨σ', a, x⟩, m, ⟨g1, g2, g3, g4, g5⟩, g6⟩ := key
    dsimp only at g1 g2 g4 g5 g6
    subst g1; subst g2
    exact ⟨σ', m, g6, g4, g5⟩
  · rintro i ⟨p, a, x⟩ ⟨ha, hx, hi, hA, hF⟩ hlt
    dsimp only at ha hx hA hF ⊢
    subst ha; subst hx
    have hL : LcS p w n D := h.fr hF (by intros; omega) (by intros; omega) (by intros; omega) (by omega) (by omega)
    have hlen : (stL w D c t i).length ≤ i := by rw [stL_length]; exact cnt_le _ _
    have e1 : iZ (i : Int) + 1 = iZ ((i + 1 : Nat) : Int) := by rw [i1, iZ_add]; rfl
    have e2 : iZ ((stL w D c t i).length : Int) + 1 = iZ (((stL w D c t i).length + 1 : Nat) : Int) := by rw [i1, iZ_add]; rfl
    have e3 : iZ ((stL w D c t i).length : Int) + 0 = iZ ((stL w D c t i).length : Int) := by rw [i0, iZ_add, Int.add_zero]
    have h11 : ms_i p 493 11 = iZ (D.length : Int) := hL.2.2.2.2.2.2.2.1
    have hF2 : Fr (fun a _ => a = 509) σ (ms_si p 509 (stL w D c t i).length (iZ (D.getD i 0 : Int))) := hF.trans (Fr.si _ _ rfl)
    have h123 : ∀ k49 : MsSt → Nat → Int32 → Int32 → Int32 → Int32 → Int32 → Option (Int32 × MsSt), f_X12_strip_123 k49 p 493 (iZ (l : Int)) (iZ (c : Int)) (iZ t) (iZ ((stL w D c t i).length : Int)) (iZ (i : Int)) = k49 (ms_si p 509 (stL w D c t i).length (iZ (D.getD i 0 : Int))) 493 (iZ (l : Int)) (iZ (c : Int)) (iZ t) (iZ (((stL w D c t i).length + 1 : Nat) : Int)) (iZ ((i + 1 : Nat) : Int)) := by
      intro k49
      unfold f_X12_strip_123 f_X12_strip_124
      rw [m_rf10, m_sgn hL hlt, Option.bind_some, m_rf20, ast_iZ (by omega) (by omega), Option.bind_some, if_pos rfl, e1, e2]
    have h119 : ∀ k49 : MsSt → Nat → Int32 → Int32 → Int32 → Int32 → Int32 → Option (Int32 × MsSt), f_X12_strip_119 k49 p 493 (iZ (l : Int)) (iZ (c : Int)) (iZ t) (iZ ((stL w D c t i).length : Int)) (iZ (i : Int)) = k49 (ms_si p 509 (stL w D c t i).length (iZ (D.getD i 0 : Int))) 493 (iZ (l : Int)) (iZ (c : Int)) (iZ t) (iZ ((stL w D c t i).length : Int)) (iZ ((i + 1 : Nat) : Int)) := by
      intro k49
      unfold f_X12_strip_119 f_X12_strip_124
      rw [m_rf10, m_sgn hL hlt, Option.bind_some, m_rf20, ast_iZ (by omega) (by omega), Option.bind_some, if_neg (by decide), e1, e3]
    have keep : kpB w D c t i = true → Aw (ms_si p 509 (stL w D c t i).length (iZ (D.getD i 0 : Int))) 509 (stL w D c t (i + 1)) ∧ (stL w D c t (i + 1)).length = (stL w D c t i).length + 1 := fun g => by
      rw [stL_t g]
      exact ⟨hA.snoc _, by rw [List.length_append]; rfl⟩
    by_cases g1 : fm w D c ≤ i ∧ i < be w D (c + 1) ∧ sdB w t (D.getD i 0) = true
    · have gk : ¬ kpB w D c t i = true := by unfold kpB; rw [decide_eq_true g1.1, decide_eq_true g1.2.1, g1.2.2]; simp
      refine ⟨(ms_si p 509 (stL w D c t i).length (iZ (D.getD i 0 : Int)), iZ ((stL w D c t i).length : Int), iZ ((i + 1 : Nat) : Int)), ⟨by rw [stL_f gk], rfl, hlt, ?_, hF2⟩, fun n' => ?_⟩
      · rw [stL_f gk]
        intro k hk
        rw [i_si_ne (Or.inr (by omega))]
        exact hA k hk
      · obtain ⟨y1, y2, y3, y4⟩ := hL.at hlt
        show (if iZ (i : Int) < ms_i p 493 11 then _ else _) = _
        rw [iltT rfl h11 (by omega) (by omega) (by omega), m_firstMark hL hcc, Option.bind_some, iltF rfl rfl (by omega) (by omega) (by omega)]
        have e4 : iZ (c : Int) + 1 = iZ ((c + 1 : Nat) : Int) := by rw [i1, iZ_add]; rfl
        rw [e4, m_rf16, m_begin hL (c := c + 1) (by omega), Option.bind_some, iltT rfl rfl (by omega) (by omega) (by omega)]
        unfold f_X12_strip_86
        rw [if_neg (by decide)]
        by_cases g3 : t = 3
        · rw [ieqT rfl i3 g3, h119]
        · have g4 : (sgF w (D.getD i 0) 6 : Int) = t := by
            have := g1.2.2
            unfold sdB at this
            rw [decide_eq_false g3, Bool.false_or] at this
            exact of_decide_eq_true this
          rw [ieqF rfl i3 g3 (by omega) (by omega) (by omega) (by omega), m_rf10, m_sgn hL hlt, Option.bind_some, of_6, Option.bind_some, m_rf0, mw_get hL.1 (Or.inl rfl) (k := 247 + 7 * D.getD i 0 + 6) (by omega) (by omega), Option.bind_some, ieqT (x := iZ (w (247 + 7 * D.getD i 0 + 6) : Int)) (y := iZ t) (a := (sgF w (D.getD i 0) 6 : Int)) (b := t) rfl rfl g4, h119]
    · have gk : kpB w D c t i = true := by
        unfold kpB
        rw [Bool.not_eq_true', Bool.eq_false_iff]
        intro g
        rw [Bool.and_eq_true, Bool.and_eq_true] at g
        exact g1 ⟨of_decide_eq_true g.1, of_decide_eq_true g.2.1, g.2.2⟩
      obtain ⟨k1, k2⟩ := keep gk
      refine ⟨(ms_si p 509 (stL w D c t i).length (iZ (D.getD i 0 : Int)), iZ (((stL w D c t i).length + 1 : Nat) : Int), iZ ((i + 1 : Nat) : Int)), ⟨by rw [k2], rfl, hlt, k1, hF2⟩, fun n' => ?_⟩
      show (if iZ (i : Int) < ms_i p 493 11 then _ else _) = _
      rw [iltT rfl h11 (by omega) (by omega) (by omega), m_firstMark hL hcc, Option.bind_some]
      have h85 : f_X12_strip_85 (f_X12_strip_49 n') p 493 (iZ (l : Int)) (iZ (c : Int)) (iZ t) (iZ ((stL w D c t i).length : Int)) (iZ (i : Int)) = f_X12_strip_49 n' (ms_si p 509 (stL w D c t i).length (iZ (D.getD i 0 : Int))) 493 (iZ (l : Int)) (iZ (c : Int)) (iZ t) (iZ (((stL w D c t i).length + 1 : Nat) : Int)) (iZ ((i + 1 : Nat) : Int)) := by
        unfold f_X12_strip_85 f_X12_strip_86
        rw [if_pos rfl, h123]
      by_cases g2 : i < fm w D c
      · rw [iltT rfl rfl (by omega) (by omega) (by omega), h85]
      · have e4 : iZ (c : Int) + 1 = iZ ((c + 1 : Nat) : Int) := by rw [i1, iZ_add]; rfl
        rw [iltF rfl rfl (by omega) (by omega) (by omega), e4, m_rf16, m_begin hL (c := c + 1) (by omega), Option.bind_some]
        by_cases g3 : i < be w D (c + 1)
        · have g4 : ¬ sdB w t (D.getD i 0) = true := fun g => g1 ⟨by omega, g3, g⟩
          obtain ⟨y1, y2, y3, y4⟩ := hL.at hlt
          have g5 : t ≠ 3 := fun g => g4 (by unfold sdB; rw [decide_eq_true g]; rfl)
          have g6 : ¬ (sgF w (D.getD i 0) 6 : Int) = t := fun g => g4 (by unfold sdB; rw [decide_eq_true g, Bool.or_true])
          have hk1 := fm_mark (w := w) (D := D) (k := i) hcc (by omega) g3
          have h6 := ((h.2.2.1.2.1 _ y1).1.2.2.1 hk1).2.2.2.2.2.2.2
          rw [iltT rfl rfl (by omega) (by omega) (by omega)]
          unfold f_X12_strip_86
          rw [if_neg (by decide), ieqF rfl i3 g5 (by omega) (by omega) (by omega) (by omega), m_rf10, m_sgn hL hlt, Option.bind_some, of_6, Option.bind_some, m_rf0, mw_get hL.1 (Or.inl rfl) (k := 247 + 7 * D.getD i 0 + 6) (by omega) (by omega), Option.bind_some, ieqF (x := iZ (w (247 + 7 * D.getD i 0 + 6) : Int)) (y := iZ t) (a := (sgF w (D.getD i 0) 6 : Int)) (b := t) rfl rfl g6 (by omega) (by omega) (by omega) (by omega), h123]
        · rw [iltF rfl rfl (by omega) (by omega) (by omega), h85]
theorem sp_bad (x y v : Int32) (t : Int32) (ht : t ≠ 0) : f_X12_strip_31 σ 493 x y v t 493 = some (0, ms_si σ 493 7 t) := by
  unfold f_X12_strip_31
  rw [nm_s, i_si_same, if_neg ht]
theorem al03 {σ : MsSt} {k : Int} (k1 : -2147483648 ≤ k) (k2 : k < 2147483648) : f_X10_allowIn σ (iZ k) 0 3 = some (if 0 ≤ k ∧ k ≤ 3 then none else some 1) := allowIn_s (b := 0) (c := 3) k1 k2 (by omega) (by omega) (by omega) (by omega)
theorem rg3 {σ : MsSt} {k : Int} (k1 : -2147483648 ≤ k) (k2 : k < 2147483648) : f_X12_inRange σ (iZ k).toInt64 0 3 = some (b01 (0 ≤ k ∧ k ≤ 3)) := inRi (b := 0) (c := 3) k1 k2 (by omega) (by omega) (by omega) (by omega)
theorem q_strip {p n b : Nat} {H : Nat → Nat → Nat} {S : Nat → Nat} (h : InvM σ w p n H b S) (x y v : Int32) : MO σ w b S (f_X10_strip σ 0 x y v) (fun s => f_X12_strip s 493 x y v) := by
  obtain ⟨z, z1, z2, rfl⟩ := iZ_of x
  obtain ⟨k, k1, k2, rfl⟩ := iZ_of y
  obtain ⟨t, t1, t2, rfl⟩ := iZ_of v
  have hI := h.1
  have h40 := hI.1.1.1
  have h4 := hI.1.2.2.1
  obtain ⟨r0, r1, r2, r3, r4, r5, r6⟩ := fm_refs (F := 441) (Or.inl rfl)
  by_cases q : 0 ≤ z ∧ z ≤ (w 1 : Int) - 1
  · obtain ⟨l, rfl⟩ : ∃ l : Nat, z = (l : Int) := ⟨z.toNat, by omega⟩
    have hl : l < 4 := by omega
    obtain ⟨n1, n2, n3, n4⟩ := lnok hI.1 hl
    obtain ⟨s4, a1, ⟨a2, a3, a4, a5⟩, a6⟩ := c_needCT hI hl q k1 k2
    have hF4 := fm_scr (F := 441) (Or.inl rfl) a6
    have h5 := h.fr hF4
    obtain ⟨t4, c1, c2, c3, c4⟩ := m_isCl h5.1 hl q k1 k2
    by_cases g : 0 ≤ k ∧ k ≤ ((bg w (dF w (ln w l))).length : Int) - 1
    · obtain ⟨c, rfl⟩ : ∃ c : Nat, k = (c : Int) := ⟨k.toNat, by omega⟩
      have hc : c < (bg w (dF w (ln w l))).length := by omega
      rw [if_pos g] at a1
      by_cases g1 : 0 ≤ t ∧ t ≤ 3
      · obtain ⟨w1, w2⟩ := stL_go (w := w) (D := dF w (ln w l)) (t := t) hc
        have h66 := n4 c hc
        have hgo := c_marksOfSide (F := 441) (t := t) (Or.inl rfl) hI.1.1 h5.1.2.1.1 n1 a3 hc h66 g1.1 g1.2
        have e5 : iZ ((dF w (ln w l)).length : Int) - iZ (goN w (dF w (ln w l)) c t : Int) = iZ ((stL w (dF w (ln w l)) c t (dF w (ln w l)).length).length : Int) := by rw [iZ_sub]; congr 1; omega
        have e6 : iZ ((dF w (ln w l)).length : Int) - iZ ((stL w (dF w (ln w l)) c t (dF w (ln w l)).length).length : Int) = iZ (goN w (dF w (ln w l)) c t : Int) := by rw [iZ_sub]; congr 1; omega
        have l9 : ms_ln 509 = 361 := m_ln.2.2.2.2.2.2.2.2.2.2.2.2.2.1
        by_cases g3 : (stL w (dF w (ln w l)) c t (dF w (ln w l)).length).length ≤ 60
        · obtain ⟨s1, p', b1, b2, b3⟩ := c_record h5.1.1 h5.1.2.1 h5.2.1
          have hN1 := h5.1.2.1.away b3 h40 (by omega)
          have a3' : FmR s1 441 w (dF w (ln w l)) := a3.away b3 (by omega)
          obtain ⟨σ1, d1, d2, d3⟩ := c_writeWithout (r := 3 + 123 + 2 * l) (F := 441) (t := t) (sc_line (a := 3) (Or.inl rfl) hl).2 (by omega) (by omega) (Or.inl rfl) hI.1.1 hN1.1 n1 a3' hc g3 g1.1 g1.2
          have G1 : Fr (fun a k => FScr a k ∨ (3 ≤ a ∧ a < 139) ∨ (285 ≤ a ∧ a < 427)) σ σ1 := ((hF4.mono fun a k q => Or.inl q).trans (b3.mono fun a k q => Or.inr (Or.inr ⟨q.1, q.2⟩))).trans (d3.mono fun a k q => Or.inr (Or.inl (by have q1 := q.1; have q2 := q.2; omega)))
          have hM1 := hI.2.2.fr G1 (by unfold FScr; intros; omega)
          have hR1 := h.2.2.1.frP G1 (by unfold FScr; omega) (by unfold FScr; intros; omega)
          obtain ⟨y4, f1, f2, f3⟩ := m_isClM hI.1 hM1 hl q k1 k2
          have G7 : Fr (fun a k => FLC a k ∨ (a = 493 ∧ k = 7)) σ1 (ms_si y4 493 7 0) := (f3.mono fun a k q => Or.inl q).trans (Fr.si _ _ (Or.inr ⟨rfl, rfl⟩))
          have f2' : LcS (ms_si y4 493 7 0) w (w 0) (dF w (ln w l)) := f2.fr (Fr.si (P := fun a k => a = 493 ∧ k = 7) y4 (0 : Int32) ⟨rfl, rfl⟩) (by intros; omega) (by intros; omega) (by intros; omega) (by omega) (by omega)
          obtain ⟨y5, m, j1, j2, j3⟩ := m_strip49 (l := l) (t := t) f2' hc g1.1 g1.2
          have G8 : Fr (fun a k => FLC a k ∨ (a = 493 ∧ k = 7) ∨ a = 509) σ1 y5 := (G7.mono fun a k q => by rcases q with q | q; exact Or.inl q; exact Or.inr (Or.inl q)).trans (j3.mono fun a k q => Or.inr (Or.inr q))
          have f5 : LcS y5 w (w 0) (dF w (ln w l)) := f2'.fr j3 (by intros; omega) (by intros; omega) (by intros; omega) (by omega) (by omega)
          have hR7 := hR1.frP G8 (by unfold FLC; omega) (by unfold FLC; intros; omega)
          obtain ⟨σ2, u, o1, o2, o3, o4, o5⟩ := m_write (c := 509) hl g3 ⟨by omega, by omega, by omega⟩ (by omega) (by omega) f5.1 j2 hR7 h.2.1.2.2.2.1
          have Fm : Fr FRef σ1 σ2 := (G8.mono fun a k q => by unfold FLC at q; show FRef a k; unfold FRef FScr; omega).trans (o5.mono fun a k q => by unfold FWr at q; show FRef a k; unfold FRef FScr; omega)
          refine MO.line (σ1 := σ1) (σ2 := σ2) (v := iZ (goN w (dF w (ln w l)) c t : Int)) h hF4 b2 b3 (d3.mono fun a k q => Or.inr (by have q1 := q.1; have q2 := q.2; omega)) (o4.now hl hI.1 hN1 d3 d2) o2 o3 Fm (o4.wf hI.1 (by omega) g3 (fun x hx => (n1 x (stL_mem _ (Nat.le_refl _) hx)).1)) (o4.same hl) ?_ ?_ ?_
          · rw [o5.1 _ _ (by unfold FWr; omega), j3.1 _ _ (by omega), i_si_same]
          · unfold f_X10_strip
            rw [a1, bu_n, al03 t1 t2, btT g1, x_rf6, hgo, Option.bind_some, r2, a3.1.cnt, e5, iltF i60 rfl (by omega) (by omega) (by omega), x_rf4, x_rf1, b1, Option.bind_some, lineAt_s (a := 3) (Or.inl rfl) hl, Option.bind_some, d1, Option.bind_some]
          · have h11 : ms_i σ2 493 11 = iZ ((dF w (ln w l)).length : Int) := (o5.1 _ _ (by unfold FWr; omega)).trans f5.2.2.2.2.2.2.2.1
            show f_X12_strip σ1 493 (iZ (l : Int)) (iZ (c : Int)) (iZ t) = _
            unfold f_X12_strip
            rw [f1, b2_s, ibT g, rg3 t1 t2, Option.bind_some, ibT g1]
            unfold f_X12_strip_31
            rw [nm_s, i_si_same, if_pos rfl, j1]
            show (if iZ ((dF w (ln w l)).length : Int) < ms_i y5 493 11 then _ else _) = _
            rw [iltF rfl f5.2.2.2.2.2.2.2.1 (by omega) (by omega) (by omega), iltF i60 rfl (by omega) (by omega) (by omega), m_rf20, o1, Option.bind_some, h11, e6]
        · have f2' : LcS (ms_si t4 493 7 0) w (w 0) (dF w (ln w l)) := c2.fr (Fr.si (P := fun a k => a = 493 ∧ k = 7) t4 (0 : Int32) ⟨rfl, rfl⟩) (by intros; omega) (by intros; omega) (by intros; omega) (by omega) (by omega)
          obtain ⟨y5, m, j1, j2, j3⟩ := m_strip49 (l := l) (t := t) f2' hc g1.1 g1.2
          have f5 : LcS y5 w (w 0) (dF w (ln w l)) := f2'.fr j3 (by intros; omega) (by intros; omega) (by intros; omega) (by omega) (by omega)
          refine MO.ref h (σ1 := s4) (σ2 := y5) (v := -2) hF4 ((c4.trans (fr7 t4 0)).trans (j3.mono fun a k q => by unfold FScr; omega)) ?_ ?_ ?_
          · rw [j3.1 _ _ (by omega), i_si_same]
          · unfold f_X10_strip
            rw [a1, bu_n, al03 t1 t2, btT g1, x_rf6, hgo, Option.bind_some, r2, a3.1.cnt, e5, iltT i60 rfl (by omega) (by omega) (by omega)]
          · show f_X12_strip s4 493 (iZ (l : Int)) (iZ (c : Int)) (iZ t) = _
            unfold f_X12_strip
            rw [c1, b2_s, ibT g, rg3 t1 t2, Option.bind_some, ibT g1]
            unfold f_X12_strip_31
            rw [nm_s, i_si_same, if_pos rfl, j1]
            show (if iZ ((dF w (ln w l)).length : Int) < ms_i y5 493 11 then _ else _) = _
            rw [iltF rfl f5.2.2.2.2.2.2.2.1 (by omega) (by omega) (by omega), iltT i60 rfl (by omega) (by omega) (by omega)]
      · refine MO.bad h 1 2 rfl hF4 c4 ?_ ?_
        · unfold f_X10_strip
          rw [a1, bu_n, al03 t1 t2, btF g1]
        · show f_X12_strip s4 493 (iZ (l : Int)) (iZ (c : Int)) (iZ t) = _
          unfold f_X12_strip
          rw [c1, b2_s, ibT g, rg3 t1 t2, Option.bind_some, ibF g1, sp_bad _ _ _ _ (by decide)]
    · rw [if_neg g] at a1
      refine MO.bad h 0 1 rfl hF4 c4 ?_ ?_
      · unfold f_X10_strip
        rw [a1, bu_s]
      · show f_X12_strip s4 493 (iZ (l : Int)) (iZ k) (iZ t) = _
        unfold f_X12_strip
        rw [c1, b2_s, ibF g, sp_bad _ _ _ _ (by decide)]
  · refine MO.bad h 0 1 rfl (Fr.refl _ _) (Fr.refl _ _) ?_ ?_
    · unfold f_X10_strip
      rw [c_needCF hI z1 z2 q, bu_s]
    · show f_X12_strip σ 493 (iZ z) (iZ k) (iZ t) = _
      unfold f_X12_strip
      rw [m_isClF hI z1 z2 q, b2_s, if_pos rfl, sp_bad _ _ _ _ (by decide)]
end Sp2
