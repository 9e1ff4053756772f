/-! query: comparisons, conjunctions, tests -/
section Q5
variable {σ τ : MsSt} {B w : Nat → Nat} {E : Nat}
/-- what reading a test leaves, where nothing is amiss -/
def PostQ (σ σ' τ' : MsSt) (w : Nat → Nat) (E : Nat) (C : List Int) (s : Nat) (h : Int64) : Prop := okT σ' → okT σ ∧ ∃ (c : List Int) (s' : Nat) (f : Nat → Bool), OkQ σ' τ' E (C ++ c) s' ∧ s + c.length ≤ s' ∧ RunsV w c (fun k => if f k = true then 1 else 0) ∧ MkIs h f (qL w).length
theorem c121 {rF rT : MsSt → Nat → Option MsSt} {x : Int32} (hx : ¬ x = -22) : f_X12_compileFactor_121 rF rT τ 493 x = (f_X12_advance τ 493).bind fun s7 => (f_X12_compileValue s7 493).bind fun s8 => (f_X12_emit s8 493 x).bind fun s9 => some s9 := by
  unfold f_X12_compileFactor_121 f_X12_compileFactor_138 f_X12_compileFactor_143
  rw [if_neg hx, m_check1, Option.bind_some]
theorem s_comparison (rF rT : MsSt → Nat → Option MsSt) (hS : Sim σ τ B E) (hE : E ≤ 200) (hQ : QE σ w) {C : List Int} {s : Nat} (hC : okT σ → OkQ σ τ E C s ∧ C.length ≤ s) : ∃ (σ' τ' : MsSt) (h : Int64), f_X4_readComparison σ 276 = some (h, σ') ∧ ((f_X12_compileValue τ 493).bind fun s3 => (f_X12_isSymbol s3 493 60).bind fun v4 => if v4 = 0 then (f_X12_isSymbol s3 493 61).bind fun v5 => if v5 = 0 then f_X12_compileFactor_121 rF rT s3 493 (-22) else f_X12_compileFactor_121 rF rT s3 493 (-21) else f_X12_compileFactor_121 rF rT s3 493 (-20)) = some τ' ∧ Sim σ' τ' B E ∧ PostQ σ σ' τ' w E C s h ∧ Fr FQc σ σ' ∧ Fr FQm τ τ' := by
  obtain ⟨s1, t1, V, a1, a2, a3, a4, a5, a6, a7⟩ := s_value (r := 281) (Or.inl rfl) hS hE hQ hC
  have hQ1 : QE s1 w := hQ.fr (fvq (Or.inl rfl) a6) (fun a k g => g)
  obtain ⟨b60, u1, u2, u3⟩ := s_symbol a3 (c := 60) (by omega)
  obtain ⟨b61, v1, v2, v3⟩ := s_symbol a3 (c := 61) (by omega)
  obtain ⟨b62, x1, x2, x3⟩ := s_symbol a3 (c := 62) (by omega)
  have u1' : f_X9_isSymbol s1 1 60 = some (b01 (b60 = true)) := u1
  have v1' : f_X9_isSymbol s1 1 61 = some (b01 (b61 = true)) := v1
  have x1' : f_X9_isSymbol s1 1 62 = some (b01 (b62 = true)) := x1
  have u2' : f_X12_isSymbol t1 493 60 = some (b01 (b60 = true)) := u2
  have v2' : f_X12_isSymbol t1 493 61 = some (b01 (b61 = true)) := v2
  have x2' : f_X12_isSymbol t1 493 62 = some (b01 (b62 = true)) := x2
  obtain ⟨c1, p1, hp⟩ : ∃ (c1 : List Int) (p1 : Nat), okT s1 → okT σ ∧ (∀ k, k < (qL w).length → 0 ≤ V k ∧ V k < 100000) ∧ OkQ s1 t1 E (C ++ c1) p1 ∧ s + c1.length ≤ p1 ∧ RunsV w c1 (fun k => jZ (V k)) := by
    by_cases hk : okT s1
    · obtain ⟨y1, y2, c1, p1, y3, y4, y5⟩ := a5 hk
      exact ⟨c1, p1, fun _ => ⟨y1, y2, y3, y4, y5⟩⟩
    · exact ⟨[], 0, fun g => absurd g hk⟩
  have hlen : ∀ hk : okT s1, (C ++ c1).length ≤ p1 := fun hk => by
    obtain ⟨y1, y2, y3, y4, y5⟩ := hp hk
    have := (hC y1).2
    rw [List.length_append]
    omega
  -- an operator was there
  have good : ∀ (o : Int) (op : Int64 → Int64 → Int64) (l1 l2 : Int32), okT s1 → ms_i s1 1 5 ≠ 0 → -26 < o → o ≤ -20 → o ≠ -23 → (∀ σ x y, f_X12_operate σ (iZ o) x y = some (op x y)) → (∀ a b : Int, 0 ≤ a → a < 100000 → 0 ≤ b → b < 100000 → op (jZ a) (jZ b) = if tst l1 l2 (iZ a) (iZ b) = true then 1 else 0) → ∃ (σ' τ' : MsSt) (h : Int64), f_X4_readComparison_56 s1 276 l1 l2 = some (h, σ') ∧ ((f_X12_advance t1 493).bind fun s7 => (f_X12_compileValue s7 493).bind fun s8 => (f_X12_emit s8 493 (iZ o)).bind fun s9 => some s9) = some τ' ∧ Sim σ' τ' B E ∧ PostQ σ σ' τ' w E C s h ∧ Fr FQc σ σ' ∧ Fr FQm τ τ' := by
    intro o op l1 l2 hk hne o1 o2 o3 hop htst
    obtain ⟨y1, y2, y3, y4, y5⟩ := hp hk
    obtain ⟨σ', τ', h, U, e1, e2, e3, e4, e5, e6, e7⟩ := s_rest o l1 l2 a3 hE hQ1 a4 (fun _ => ⟨hne, y3, hlen hk⟩)
    refine ⟨σ', τ', h, e1, e2, e3, fun ok => ?_, (fvq (Or.inl rfl) a6).trans e6, a7.trans e7⟩
    obtain ⟨z1, z2, c, s', z3, z4, z5⟩ := e4 ok
    refine ⟨y1, c1 ++ c ++ [o], s', fun k => tst l1 l2 (iZ (V k)) (iZ (U k)), ?_, ?_, ?_, e5⟩
    · rw [List.append_assoc, List.append_assoc] at z3
      rw [List.append_assoc]
      exact z3
    · rw [List.length_append, List.length_append]
      show s + (c1.length + c.length + 1) ≤ s'
      omega
    · exact (rv_bin y5 z5 o1 o2 o3 hop).congr fun k hk' => htst _ _ (y2 k hk').1 (y2 k hk').2 (z2 k hk').1 (z2 k hk').2
  unfold f_X4_readComparison
  rw [z_rf4, a1, Option.bind_some, z_rf0, u1', Option.bind_some, v1', Option.bind_some, a2, Option.bind_some, u2', Option.bind_some]
  by_cases q0 : b60 = true
  · have n1 : ¬ b01 (b60 = true) = 0 := by rw [b01T q0]; decide
    obtain ⟨σ', τ', h, e1, e2, e3⟩ := good (-20) oLt (b01 (b60 = true)) (b01 (b61 = true)) (u3 q0) (sym_kd (c := 60) (by rw [u1', b01T q0])) (by omega) (by omega) (by omega) op_lt (fun a b a1 a2 b1 b2 => o_lt a1 a2 b1 b2 n1)
    refine ⟨σ', τ', h, ?_, ?_, e3⟩
    · rw [ibT q0, e1]
    · rw [ibT q0, c121 (by decide)]
      exact e2
  · have z1 : b01 (b60 = true) = 0 := b01F q0
    by_cases q1 : b61 = true
    · have n2 : ¬ b01 (b61 = true) = 0 := by rw [b01T q1]; decide
      obtain ⟨σ', τ', h, e1, e2, e3⟩ := good (-21) oEq (b01 (b60 = true)) (b01 (b61 = true)) (v3 q1) (sym_kd (c := 61) (by rw [v1', b01T q1])) (by omega) (by omega) (by omega) op_eq (fun a b a1 a2 b1 b2 => o_eq a1 a2 b1 b2 z1 n2)
      refine ⟨σ', τ', h, ?_, ?_, e3⟩
      · rw [ibF q0, ibT q1, e1]
      · rw [ibF q0, v2', Option.bind_some, ibT q1, c121 (by decide)]
        exact e2
    · have z2 : b01 (b61 = true) = 0 := b01F q1
      by_cases q2 : b62 = true
      · obtain ⟨σ', τ', h, e1, e2, e3⟩ := good (-22) oGt (b01 (b60 = true)) (b01 (b61 = true)) (x3 q2) (sym_kd (c := 62) (by rw [x1', b01T q2])) (by omega) (by omega) (by omega) op_gt (fun a b a1 a2 b1 b2 => o_gt a1 a2 b1 b2 z1 z2)
        refine ⟨σ', τ', h, ?_, ?_, e3⟩
        · rw [ibF q0, ibF q1, x1', Option.bind_some, ibT q2, e1]
        · rw [ibF q0, v2', Option.bind_some, ibF q1]
          unfold f_X12_compileFactor_121 f_X12_compileFactor_138 f_X12_compileFactor_143
          rw [if_pos rfl, x2', Option.bind_some, ibT q2, m_check1, Option.bind_some]
          exact e2
      · obtain ⟨s2, t2, f1, f2, f3, f4, f5, f6⟩ := s_fail a3 (c := 1) (by omega) (by omega)
        have f1' : f_X9_fail s1 1 1 = some s2 := f1
        have f2' : f_X12_check t1 493 0 1 = some t2 := f2
        obtain ⟨σ', τ', h, U, e1, e2, e3, e4, e5, e6, e7⟩ := s_rest (V := V) (-22) (b01 (b60 = true)) (b01 (b61 = true)) (C := C) (s := s) f3 hE (hQ1.fr f5 (fun a k g => Or.inl g)) (a4.fr f5 (by unfold FTc; omega) (by unfold FTc; intros; omega)) (fun g => absurd g f4)
        refine ⟨σ', τ', h, ?_, ?_, e3, fun ok => absurd (e4 ok).1 f4, ((fvq (Or.inl rfl) a6).trans (f5.mono fun a k g => Or.inl g)).trans e6, (a7.trans (f6.mono fun a k g => Or.inl g)).trans e7⟩
        · rw [ibF q0, ibF q1, x1', Option.bind_some, ibF q2, f1', Option.bind_some, e1]
        · rw [ibF q0, v2', Option.bind_some, ibF q1]
          unfold f_X12_compileFactor_121 f_X12_compileFactor_143
          rw [if_pos rfl, x2', Option.bind_some, ibF q2, f2', Option.bind_some]
          exact e2
/-- both readers read the same test -/
def Par (w B : Nat → Nat) (E d : Nat) (inC : MsSt → Option (Int64 × MsSt)) (inM : MsSt → Option MsSt) : Prop := ∀ (σ τ : MsSt) (C : List Int) (s : Nat), Sim σ τ B E → QE σ w → ms_i τ 493 35 = iZ (d : Int) → (okT σ → OkQ σ τ E C s ∧ C.length ≤ s) → ∃ (σ' τ' : MsSt) (h : Int64), inC σ = some (h, σ') ∧ inM τ = some τ' ∧ Sim σ' τ' B E ∧ PostQ σ σ' τ' w E C s h ∧ ms_i τ' 493 35 = iZ (d : Int) ∧ Fr FQc σ σ' ∧ Fr FQp τ τ'
theorem s_loop {d idc idm : Nat} {cs : List Nat} {o : Int} {op : Int64 → Int64 → Int64} {cb : Bool → Bool → Bool} {inC : MsSt → Option (Int64 × MsSt)} {inM : MsSt → Option MsSt} {LC : Nat → MsSt → Int64 → Int32 → Option (Int64 × MsSt)} {LM : Nat → MsSt → Option MsSt} (hs : StrIs idc cs) (hs' : StrIs idm cs) (hE : E ≤ 200) (hP : Par w B E d inC inM)
    (hLC : ∀ n σ h l, LC (n + 1) σ h l = if l < 200 then (f_X9_isWord σ 1 idc).bind fun v3 => if v3 = 0 then some (h, σ) else (f_X9_advance σ 1).bind fun s4 => ms_b2 (inC s4) fun v5 s6 => LC n s6 (op h v5) (l + 1) else some (h, σ))
    (hLM : ∀ n τ, LM (n + 1) τ = ms_b2 (f_X12_accept τ 493 idm) fun v2 s3 => if v2 = 0 then some s3 else (inM s3).bind fun s4 => (f_X12_emit s4 493 (iZ o)).bind fun s5 => LM n s5)
    (o1 : -26 < o) (o2 : o ≤ -20) (o3 : o ≠ -23) (hop : ∀ σ x y, f_X12_operate σ (iZ o) x y = some (op x y)) (hb : ∀ x y : Bool, op (if x = true then 1 else 0) (if y = true then 1 else 0) = if cb x y = true then 1 else 0) (hm : ∀ {m m' f g}, MkIs m f (qL w).length → MkIs m' g (qL w).length → MkIs (op m m') (fun i => cb (f i) (g i)) (qL w).length) :
    ∀ (m i n n' : Nat) (σ0 σ τ : MsSt) (C : List Int) (s0 : Nat) (h : Int64), m < n → m < n' → i ≤ 100000 → Sim σ τ B E → QE σ w → ms_i τ 493 35 = iZ (d : Int) → (okT σ → okT σ0 ∧ C.length ≤ s0 ∧ ∃ (c : List Int) (s : Nat) (f : Nat → Bool), OkQ σ τ E (C ++ c) s ∧ s0 + c.length ≤ s ∧ RunsV w c (fun k => if f k = true then 1 else 0) ∧ MkIs h f (qL w).length ∧ i ≤ s ∧ E < m + s) → ∃ (σ' τ' : MsSt) (h' : Int64), LC n σ h (iZ (i : Int)) = some (h', σ') ∧ LM n' τ = some τ' ∧ Sim σ' τ' B E ∧ PostQ σ0 σ' τ' w E C s0 h' ∧ ms_i τ' 493 35 = iZ (d : Int) ∧ Fr FQc σ σ' ∧ Fr FQp τ τ' := by
  intro m
  induction m with
  | zero =>
    intro i n n' σ0 σ τ C s0 h hn hn' hi hS hQ hd hok
    obtain ⟨a, rfl⟩ : ∃ a, n = a + 1 := ⟨n - 1, by omega⟩
    obtain ⟨a', rfl⟩ : ∃ a, n' = a + 1 := ⟨n' - 1, by omega⟩
    have hk : ¬ okT σ := fun g => by
      obtain ⟨-, -, c, s, f, q1, q2, q3, q4, q5, q6⟩ := hok g
      have := q1.2.1
      omega
    obtain ⟨b, u1, u2⟩ := s_accept hS hs hs'
    rcases u2 with ⟨g, v2⟩ | ⟨g, hk', -⟩
    · refine ⟨σ, τ, h, ?_, ?_, hS, fun g => absurd g hk, hd, Fr.refl _ _, Fr.refl _ _⟩
      · rw [hLC, u1, Option.bind_some, ibF g]
        split <;> rfl
      · rw [hLM, v2, b2_s, if_pos rfl]
    · exact absurd hk' hk
  | succ m ih =>
    intro i n n' σ0 σ τ C s0 h hn hn' hi hS hQ hd hok
    obtain ⟨a, rfl⟩ : ∃ a, n = a + 1 := ⟨n - 1, by omega⟩
    obtain ⟨a', rfl⟩ : ∃ a, n' = a + 1 := ⟨n' - 1, by omega⟩
    obtain ⟨b, u1, u2⟩ := s_accept hS hs hs'
    rcases u2 with ⟨g, v2⟩ | ⟨g, hk, s1, t1, v1, v2, v3, v4, v5, v6⟩
    · refine ⟨σ, τ, h, ?_, ?_, hS, fun g => ?_, hd, Fr.refl _ _, Fr.refl _ _⟩
      · rw [hLC, u1, Option.bind_some, ibF g]
        split <;> rfl
      · rw [hLM, v2, b2_s, if_pos rfl]
      · obtain ⟨y1, y2, c, s, f, q1, q2, q3, q4, q5, q6⟩ := hok g
        exact ⟨y1, c, s, f, q1, q2, q3, q4⟩
    · obtain ⟨y1, y2, c, s, f, q1, q2, q3, q4, q5, q6⟩ := hok hk
      have hne := word_kd (id := idc) (by rw [u1, b01T g])
      obtain ⟨s', r1, r2, r3⟩ := q1.adv hE hS hk v1 v6 (by unfold FTm; omega) (by unfold FTm; intros; omega)
      have r4 := r3 hne
      have r5 := r1.2.1
      have hQ1 : QE s1 w := hQ.fr v5 (fun a k g => Or.inl g)
      have hlen : (C ++ c).length ≤ s := by rw [List.length_append]; omega
      obtain ⟨s2, t2, h2, w1, w2, w3, w4, w5, w6, w7⟩ := hP s1 t1 (C ++ c) s' v3 hQ1 ((v6.1 _ _ (by unfold FTm; omega)).trans hd) (fun _ => ⟨r1, by omega⟩)
      have hQ2 : QE s2 w := hQ1.fr w6 (fun a k g => g)
      have e1 : iZ (i : Int) + 1 = iZ ((i + 1 : Nat) : Int) := by rw [i1, iZ_add]; rfl
      have hcls : LC (a + 1) σ h (iZ (i : Int)) = LC a s2 (op h h2) (iZ ((i + 1 : Nat) : Int)) := by
        rw [hLC, iltT rfl (show (200 : Int32) = iZ 200 from rfl) (by omega) (by omega) (by omega), u1, Option.bind_some, ibT g, v1, Option.bind_some, w1, b2_s, e1]
      have emF : ∀ {t t' : MsSt}, Fr (fun a k => a = 515 ∨ (a = 493 ∧ k = 40)) t t' → Fr FQp t t' := fun h => h.mono fun a k g => by rcases g with g | g; exact Or.inr (Or.inl g); exact Or.inr (Or.inr ⟨g.1, Or.inr g.2⟩)
      by_cases hk2 : okT s2
      · obtain ⟨z1, c2, s'', f2, z2, z3, z4, z5⟩ := w4 hk2
        have z6 := z2.2.1
        obtain ⟨t3, g1, g2, g3⟩ := m_emitOk z2 (w3.m0.mpr hk2) (by rw [List.length_append]; omega) o
        have S3 : Sim s2 t3 B E := w3.fr (Fr.refl (fun _ _ => False) _) g3 (by intros; exact id) (by intros; exact id) (by intros; omega) (by intros; omega)
        obtain ⟨σ', τ', h', k1, k2, k3⟩ := ih (i + 1) a a' σ0 s2 t3 C s0 (op h h2) (by omega) (by omega) (by omega) S3 hQ2 ((g3.1 _ _ (by omega)).trans w5) (fun _ => ⟨y1, y2, c ++ c2 ++ [o], s'', fun k => cb (f k) (f2 k), by
            have : C ++ (c ++ c2 ++ [o]) = C ++ c ++ c2 ++ [o] := by rw [List.append_assoc C c c2, List.append_assoc C (c ++ c2)]
            rw [this]
            exact g2, by
            rw [List.length_append, List.length_append]
            show s0 + (c.length + c2.length + 1) ≤ s''
            omega, (rv_bin q3 z4 o1 o2 o3 hop).congr fun k _ => hb (f k) (f2 k), hm q4 z5, by omega, by omega⟩)
        refine ⟨σ', τ', h', by rw [hcls, k1], ?_, k3.1, k3.2.1, k3.2.2.1, ((v5.mono fun a k g => Or.inl g).trans w6).trans k3.2.2.2.1, (((v6.mono fun a k g => Or.inl g).trans w7).trans (emF g3)).trans k3.2.2.2.2⟩
        rw [hLM, v2, b2_s, if_neg (by decide), w2, Option.bind_some, g1, Option.bind_some, k2]
      · have hh : ¬ ms_i t2 493 32 = 0 := fun g => hk2 (w3.m0.mp g)
        obtain ⟨σ', τ', h', k1, k2, k3⟩ := ih (i + 1) a a' σ0 s2 t2 C s0 (op h h2) (by omega) (by omega) (by omega) w3 hQ2 w5 (fun g => absurd g hk2)
        refine ⟨σ', τ', h', by rw [hcls, k1], ?_, k3.1, k3.2.1, k3.2.2.1, ((v5.mono fun a k g => Or.inl g).trans w6).trans k3.2.2.2.1, ((v6.mono fun a k g => Or.inl g).trans w7).trans k3.2.2.2.2⟩
        rw [hLM, v2, b2_s, if_neg (by decide), w2, Option.bind_some, m_emitBad hh, Option.bind_some, k2]
end Q5
