/-! texts: written words, bytes, tokens on both sides -/
section Sc2
variable {σ τ : MsSt} {B : Nat → Nat} {E : Nat}
def StrIs (id : Nat) (cs : List Nat) : Prop := ms_txt id = cs.map (fun c : Nat => iZ (c : Int)) ∧ cs.length ≤ 10 ∧ ∀ c ∈ cs, c < 128
theorem shr0 (x : Int32) : x >>> ((0 : Int32) &&& 31) = x := by
  rw [← Int32.toBitVec_inj]
  have h1 : (x >>> ((0 : Int32) &&& 31)).toBitVec = x.toBitVec.sshiftRight' (((0 : Int32) &&& 31).toBitVec.smod 32) := rfl
  have h2 : ((0 : Int32) &&& 31).toBitVec.smod 32 = 0#32 := by decide +kernel
  rw [h1, h2, BitVec.sshiftRight_eq']
  exact BitVec.sshiftRight_zero
theorem len_s {id : Nat} {cs : List Nat} (h : StrIs id cs) : f_J0_length_8abf5 σ id = some (iZ (cs.length : Int)) := by
  unfold f_J0_length_8abf5 f_J0_coder_7d493
  rw [if_neg (by decide), Option.bind_some, shr0, Nat.add_sub_cancel_left, h.1, List.length_map, iZ_nat]
theorem chr_tab : ∀ c : Nat, c < 128 → ((iZ (c : Int) &&& 255).toUInt32 % 65536).toInt32 = iZ (c : Int) ∧ ms_cz (iZ (c : Int)) = some (iZ (c : Int)) := by decide +kernel
theorem chr_s {id i : Nat} {cs : List Nat} (h : StrIs id cs) (hi : i < cs.length) : f_J0_charAt_5068e σ id (iZ (i : Int)) = some (iZ (cs[i] : Int)) := by
  obtain ⟨h1, h2, h3⟩ := h
  have hc := chr_tab cs[i] (h3 _ (List.getElem_mem hi))
  unfold f_J0_charAt_5068e f_J0_isLatin1_aae02
  rw [if_neg (by decide), if_pos rfl, Option.bind_some, if_neg (by decide)]
  unfold f_J1_charAt_3b067 f_J0_checkIndex_df160 f_J3_checkIndex_8e157 ms_alt
  have hcl : (iZ (i : Int)).toNatClampNeg = i := by rw [iZ_clamp (by omega) (by omega)]; rfl
  rw [Nat.add_sub_cancel_left, h1, List.length_map, iltF rfl i0 (by omega) (by omega) (by omega), iltT rfl (iZ_nat _) (by omega) (by omega) (by omega), Option.bind_some, Option.bind_some, hcl, if_neg (by rw [i0, iZ_lt (by omega) (by omega) (by omega) (by omega)]; omega), Option.bind_some]
  have hg : (cs.map (fun c : Nat => iZ (c : Int))).getD i 0 = iZ (cs[i] : Int) := by
    rw [List.getD_eq_getElem?_getD, List.getElem?_map, List.getElem?_eq_getElem hi]
    rfl
  rw [hg, hc.1, Option.bind_some, hc.2, Option.bind_some]
/-! bytes -/
def sepB (x : Nat) : Bool := decide (x = 32) || decide (x = 10)
def letB (x : Nat) : Bool := decide (97 ≤ x) && decide (x ≤ 122)
def digB (x : Nat) : Bool := decide (48 ≤ x) && decide (x ≤ 57)
theorem letB_iff {x : Nat} : letB x = true ↔ 97 ≤ x ∧ x ≤ 122 := by unfold letB; rw [Bool.and_eq_true, decide_eq_true_iff, decide_eq_true_iff]
theorem digB_iff {x : Nat} : digB x = true ↔ 48 ≤ x ∧ x ≤ 57 := by unfold digB; rw [Bool.and_eq_true, decide_eq_true_iff, decide_eq_true_iff]
theorem sepB_iff {x : Nat} : sepB x = true ↔ x = 32 ∨ x = 10 := by unfold sepB; rw [Bool.or_eq_true, decide_eq_true_iff, decide_eq_true_iff]
def TxC (σ : MsSt) (B : Nat → Nat) (E : Nat) : Prop := ms_i σ 1 2 = iZ (E : Int) ∧ E ≤ 900 ∧ ∀ k, k < E → B k < 256 ∧ ms_i σ 2 k = iZ (sB (B k))
def TxM (τ : MsSt) (B : Nat → Nat) (E : Nat) : Prop := ms_i τ 493 28 = iZ (E : Int) ∧ E ≤ 900 ∧ ∀ k, k < E → B k < 256 ∧ ms_i τ 512 k = iZ (B k : Int)
theorem b01T {P : Prop} [Decidable P] (h : P) : b01 P = 1 := if_pos h
theorem b01F {P : Prop} [Decidable P] (h : ¬ P) : b01 P = 0 := if_neg h
theorem c_byteAt (h : TxC σ B E) {k : Nat} (hk : k < E) : f_X9_byteAt σ 1 (iZ (k : Int)) = some (iZ (sB (B k))) := by
  obtain ⟨r0, l2⟩ := t_ln
  have h9 := h.2.1
  unfold f_X9_byteAt
  rw [iltF rfl i0 (by omega) (by omega) (by omega), r0, l2, iltT rfl (iZ_nat 900) (by omega) (by omega) (by omega), ald_iZ (by omega) (by omega), Option.bind_some, (h.2.2 k hk).2]
theorem c_isLet {b : Nat} (hb : b < 256) : f_X9_isLetter σ (iZ (sB b)) = some (b01 (letB b = true)) := by
  unfold f_X9_isLetter
  have i97 : (97 : Int32) = iZ 97 := rfl
  have i122 : (122 : Int32) = iZ 122 := rfl
  have hs := sB_lo b hb
  by_cases q : letB b = true
  · have q' := letB_iff.mp q
    have e : sB b = (b : Int) := if_pos (by omega)
    rw [iltF rfl i97 (by omega) (by omega) (by omega), iltF i122 rfl (by omega) (by omega) (by omega), b01T q]
  · rw [b01F q]
    have q' : ¬ (97 ≤ b ∧ b ≤ 122) := fun g => q (letB_iff.mpr g)
    by_cases g : sB b < 97
    · rw [iltT rfl i97 (by omega) g (by omega)]
    · have e : sB b = (b : Int) := by
        unfold sB at g ⊢
        split at g
        · rw [if_pos (by assumption)]
        · omega
      rw [iltF rfl i97 (by omega) (by omega) (by omega), iltT i122 rfl (by omega) (by omega) (by omega)]
theorem c_isDig {b : Nat} (hb : b < 256) : f_X9_isDigit σ (iZ (sB b)) = some (b01 (digB b = true)) := by
  unfold f_X9_isDigit
  have i48 : (48 : Int32) = iZ 48 := rfl
  have i57 : (57 : Int32) = iZ 57 := rfl
  have hs := sB_lo b hb
  by_cases q : digB b = true
  · have q' := digB_iff.mp q
    have e : sB b = (b : Int) := if_pos (by omega)
    rw [iltF rfl i48 (by omega) (by omega) (by omega), iltF i57 rfl (by omega) (by omega) (by omega), b01T q]
  · rw [b01F q]
    have q' : ¬ (48 ≤ b ∧ b ≤ 57) := fun g => q (digB_iff.mpr g)
    by_cases g : sB b < 48
    · rw [iltT rfl i48 (by omega) g (by omega)]
    · have e : sB b = (b : Int) := by
        unfold sB at g ⊢
        split at g
        · rw [if_pos (by assumption)]
        · omega
      rw [iltF rfl i48 (by omega) (by omega) (by omega), iltT i57 rfl (by omega) (by omega) (by omega)]
theorem c_isSep {b : Nat} (hb : b < 256) : f_X9_isSeparator σ (iZ (sB b)) = some (b01 (sepB b = true)) := by
  unfold f_X9_isSeparator
  have hs := sB_lo b hb
  have e : sB b = 32 ↔ b = 32 := by unfold sB; split <;> omega
  have e2 : sB b = 10 ↔ b = 10 := by unfold sB; split <;> omega
  by_cases q : b = 32
  · rw [ieqT rfl (show (32 : Int32) = iZ 32 from rfl) (e.mpr q), b01T (sepB_iff.mpr (Or.inl q))]
  · rw [ieqF rfl (show (32 : Int32) = iZ 32 from rfl) (fun g => q (e.mp g)) (by omega) (by omega) (by omega) (by omega)]
    by_cases q2 : b = 10
    · rw [ieqT rfl (show (10 : Int32) = iZ 10 from rfl) (e2.mpr q2), b01T (sepB_iff.mpr (Or.inr q2))]
    · rw [ieqF rfl (show (10 : Int32) = iZ 10 from rfl) (fun g => q2 (e2.mp g)) (by omega) (by omega) (by omega) (by omega), b01F (fun g => (sepB_iff.mp g).elim q q2)]
def atQ (P : Nat → Bool) (B : Nat → Nat) (E k : Nat) : Bool := decide (k < E) && P (B k)
theorem atQ_t {P : Nat → Bool} {k : Nat} (h : atQ P B E k = true) : k < E ∧ P (B k) = true := by
  unfold atQ at h
  rw [Bool.and_eq_true, decide_eq_true_iff] at h
  exact h
theorem atQ_f {P : Nat → Bool} {k : Nat} (h : atQ P B E k = false) (hk : k < E) : P (B k) = false := by
  unfold atQ at h
  rw [decide_eq_true hk, Bool.true_and] at h
  exact h
theorem atQ_in {P : Nat → Bool} {k : Nat} (hk : k < E) : atQ P B E k = P (B k) := by
  unfold atQ
  rw [decide_eq_true hk, Bool.true_and]
theorem atQ_out {P : Nat → Bool} {k : Nat} (hk : ¬ k < E) : atQ P B E k = false := by
  unfold atQ
  rw [decide_eq_false hk, Bool.false_and]
theorem m_byteAt (h : TxM τ B E) {k : Nat} (hk : k < E) : f_X12_byteAt τ 493 (iZ (k : Int)) = some (iZ (B k : Int)) := by
  have l2 : ms_ln 512 = 900 := m_ln.2.2.2.2.2.2.2.2.2.2.2.2.2.2.2.2.1
  have h9 := h.2.1
  unfold f_X12_byteAt
  rw [iltT rfl h.1 (by omega) (by omega) (by omega), m_rf26, ald_iZ (by omega) (by omega), Option.bind_some, (h.2.2 k hk).2]
theorem m_byteO (h : TxM τ B E) {k : Nat} (hk : ¬ k < E) (h2 : k < 100000) : f_X12_byteAt τ 493 (iZ (k : Int)) = some (iZ (-1)) := by
  have h9 := h.2.1
  unfold f_X12_byteAt
  rw [iltF rfl h.1 (by omega) (by omega) (by omega)]
  rfl
theorem m_isLet (h : TxM τ B E) {k : Nat} (h2 : k < 100000) : f_X12_isLetter τ 493 (iZ (k : Int)) = some (b01 (atQ letB B E k = true)) := by
  have i97 : (97 : Int32) = iZ 97 := rfl
  have i122 : (122 : Int32) = iZ 122 := rfl
  unfold f_X12_isLetter
  by_cases hk : k < E
  · have hb := (h.2.2 k hk).1
    rw [m_byteAt h hk, Option.bind_some, Option.bind_some, atQ_in hk]
    by_cases q : 97 ≤ B k
    · rw [iltF rfl i97 (by omega) (by omega) (by omega)]
      by_cases q2 : B k ≤ 122
      · rw [iltF i122 rfl (by omega) (by omega) (by omega), b01T (letB_iff.mpr ⟨q, q2⟩)]
      · rw [iltT i122 rfl (by omega) (by omega) (by omega), b01F (fun g => q2 (letB_iff.mp g).2)]
    · rw [iltT rfl i97 (by omega) (by omega) (by omega), b01F (fun g => q (letB_iff.mp g).1)]
  · rw [m_byteO h hk h2, Option.bind_some, iltT rfl i97 (by omega) (by omega) (by omega), atQ_out hk, b01F (by decide)]
theorem m_isDig (h : TxM τ B E) {k : Nat} (h2 : k < 100000) : f_X12_isDigit τ 493 (iZ (k : Int)) = some (b01 (atQ digB B E k = true)) := by
  have i48 : (48 : Int32) = iZ 48 := rfl
  have i57 : (57 : Int32) = iZ 57 := rfl
  unfold f_X12_isDigit
  by_cases hk : k < E
  · have hb := (h.2.2 k hk).1
    rw [m_byteAt h hk, Option.bind_some, Option.bind_some, atQ_in hk]
    by_cases q : 48 ≤ B k
    · rw [iltF rfl i48 (by omega) (by omega) (by omega)]
      by_cases q2 : B k ≤ 57
      · rw [iltF i57 rfl (by omega) (by omega) (by omega), b01T (digB_iff.mpr ⟨q, q2⟩)]
      · rw [iltT i57 rfl (by omega) (by omega) (by omega), b01F (fun g => q2 (digB_iff.mp g).2)]
    · rw [iltT rfl i48 (by omega) (by omega) (by omega), b01F (fun g => q (digB_iff.mp g).1)]
  · rw [m_byteO h hk h2, Option.bind_some, iltT rfl i48 (by omega) (by omega) (by omega), atQ_out hk, b01F (by decide)]
/-! tokens -/
def Fst (Q : Nat → Bool) (p r : Nat) : Prop := p ≤ r ∧ (∀ i, p ≤ i → i < r → Q i = true) ∧ Q r = false
theorem fst_ex (P : Nat → Bool) (B : Nat → Nat) (E : Nat) : ∀ (d p : Nat), p + d = E → ∃ r, Fst (atQ P B E) p r ∧ r ≤ E := by
  intro d
  induction d with
  | zero => intro p hp; exact ⟨p, ⟨Nat.le_refl _, fun i h1 h2 => absurd h2 (by omega), atQ_out (by omega)⟩, by omega⟩
  | succ d ih =>
    intro p hp
    by_cases q : atQ P B E p = true
    · obtain ⟨r, ⟨h1, h2, h3⟩, h4⟩ := ih (p + 1) (by omega)
      exact ⟨r, ⟨by omega, fun i i1 i2 => by
        by_cases g : i = p
        · rw [g]; exact q
        · exact h2 i (by omega) i2, h3⟩, h4⟩
    · exact ⟨p, ⟨Nat.le_refl _, fun i h1 h2 => absurd h2 (by omega), Bool.eq_false_iff.mpr q⟩, by omega⟩
def Tk (B : Nat → Nat) (E p st nx kd : Nat) : Prop := Fst (atQ sepB B E) p st ∧ ((E ≤ st ∧ nx = st ∧ kd = 0) ∨ (st < E ∧ letB (B st) = true ∧ Fst (atQ letB B E) st nx ∧ kd = 1) ∨ (st < E ∧ letB (B st) = false ∧ digB (B st) = true ∧ Fst (atQ digB B E) st nx ∧ kd = 2) ∨ (st < E ∧ letB (B st) = false ∧ digB (B st) = false ∧ nx = st + 1 ∧ kd = 3))
def TkOK (B : Nat → Nat) (E st nx kd : Nat) : Prop := st ≤ nx ∧ nx ≤ E ∧ kd ≤ 3 ∧ (kd = 0 ↔ st = E) ∧ (kd = 1 → ∀ i, st ≤ i → i < nx → letB (B i) = true) ∧ (kd = 2 → ∀ i, st ≤ i → i < nx → digB (B i) = true) ∧ (kd ≠ 0 → st < nx)
theorem fst_lt {Q : Nat → Bool} {p r : Nat} (h : Fst Q p r) (hq : Q p = true) : p < r := by
  have h1 := h.1
  by_cases g : r = p
  · have := h.2.2
    rw [g, hq] at this
    cases this
  · omega
theorem tk_ex (B : Nat → Nat) {E p : Nat} (hp : p ≤ E) : ∃ st nx kd, Tk B E p st nx kd ∧ TkOK B E st nx kd ∧ p ≤ st := by
  obtain ⟨st, h1, h2⟩ := fst_ex sepB B E (E - p) p (by omega)
  have hps := h1.1
  by_cases g : st < E
  · by_cases gl : letB (B st) = true
    · obtain ⟨nx, k1, k2⟩ := fst_ex letB B E (E - st) st (by omega)
      have hlt := fst_lt k1 (by rw [atQ_in g]; exact gl)
      exact ⟨st, nx, 1, ⟨h1, Or.inr (Or.inl ⟨g, gl, k1, rfl⟩)⟩, ⟨by omega, k2, by omega, by omega, fun _ i i1 i2 => (atQ_t (k1.2.1 i i1 i2)).2, fun q => by omega, fun _ => hlt⟩, hps⟩
    · have gl' := Bool.eq_false_iff.mpr gl
      by_cases gd : digB (B st) = true
      · obtain ⟨nx, k1, k2⟩ := fst_ex digB B E (E - st) st (by omega)
        have hlt := fst_lt k1 (by rw [atQ_in g]; exact gd)
        exact ⟨st, nx, 2, ⟨h1, Or.inr (Or.inr (Or.inl ⟨g, gl', gd, k1, rfl⟩))⟩, ⟨by omega, k2, by omega, by omega, fun q => by omega, fun _ i i1 i2 => (atQ_t (k1.2.1 i i1 i2)).2, fun _ => hlt⟩, hps⟩
      · exact ⟨st, st + 1, 3, ⟨h1, Or.inr (Or.inr (Or.inr ⟨g, gl', Bool.eq_false_iff.mpr gd, rfl, rfl⟩))⟩, ⟨by omega, by omega, by omega, by omega, fun q => by omega, fun q => by omega, fun _ => by omega⟩, hps⟩
  · exact ⟨st, st, 0, ⟨h1, Or.inl ⟨by omega, rfl, rfl⟩⟩, ⟨by omega, by omega, by omega, by omega, fun q => by omega, fun q => by omega, fun q => absurd rfl q⟩, hps⟩
/-- the number of the first digits -/
def nv (B : Nat → Nat) (p : Nat) : Nat → Nat
  | 0 => 0
  | i + 1 => nv B p i * 10 + (B (p + i) - 48)
def GdC (σ : MsSt) (B : Nat → Nat) (E st nx kd : Nat) : Prop := TxC σ B E ∧ ms_i σ 1 3 = iZ (st : Int) ∧ ms_i σ 1 4 = iZ (nx : Int) ∧ ms_i σ 1 5 = iZ (kd : Int) ∧ ms_i σ 1 7 = 0 ∧ ms_i σ 1 8 = iZ (-1) ∧ (kd = 2 → ms_i σ 1 6 = iZ ((min (nv B st (nx - st)) 1000000 : Nat) : Int)) ∧ (kd = 3 → ms_i σ 1 6 = iZ (sB (B st)))
def GdM (τ : MsSt) (B : Nat → Nat) (E st nx kd : Nat) : Prop := TxM τ B E ∧ ms_i τ 493 30 = iZ (st : Int) ∧ ms_i τ 493 29 = iZ (nx : Int) ∧ ms_i τ 493 31 = iZ (kd : Int) ∧ ms_i τ 493 32 = 0
def FTc : Nat → Nat → Prop := fun a k => a = 1 ∧ 2 ≤ k
def FTm : Nat → Nat → Prop := fun a k => a = 493 ∧ 28 ≤ k ∧ k ≤ 33
def FT3 : Nat → Nat → Prop := fun a k => a = 1 ∧ 3 ≤ k ∧ k ≤ 6
theorem TxC.fr {σ' : MsSt} {P : Nat → Nat → Prop} (h : TxC σ B E) (hF : Fr P σ σ') (h1 : ¬ P 1 2) (h2 : ∀ k, ¬ P 2 k) : TxC σ' B E := ⟨(hF.1 _ _ h1).trans h.1, h.2.1, fun k hk => ⟨(h.2.2 k hk).1, (hF.1 _ _ (h2 k)).trans (h.2.2 k hk).2⟩⟩
theorem TxM.fr {τ' : MsSt} {P : Nat → Nat → Prop} (h : TxM τ B E) (hF : Fr P τ τ') (h1 : ¬ P 493 28) (h2 : ∀ k, ¬ P 512 k) : TxM τ' B E := ⟨(hF.1 _ _ h1).trans h.1, h.2.1, fun k hk => ⟨(h.2.2 k hk).1, (hF.1 _ _ (h2 k)).trans (h.2.2 k hk).2⟩⟩
/-- the class takes the next token -/
theorem c_adv46 {st nx kd : Nat} (h : TxC σ B E) (hst : st ≤ E) (h4 : ms_i σ 1 4 = iZ (st : Int)) (hT : (E ≤ st ∧ nx = st ∧ kd = 0) ∨ (st < E ∧ letB (B st) = true ∧ Fst (atQ letB B E) st nx ∧ kd = 1) ∨ (st < E ∧ letB (B st) = false ∧ digB (B st) = true ∧ Fst (atQ digB B E) st nx ∧ kd = 2) ∨ (st < E ∧ letB (B st) = false ∧ digB (B st) = false ∧ nx = st + 1 ∧ kd = 3)) :
    ∃ σ', f_X9_advance_46 σ 1 = some σ' ∧ ms_i σ' 1 3 = iZ (st : Int) ∧ ms_i σ' 1 4 = iZ (nx : Int) ∧ ms_i σ' 1 5 = iZ (kd : Int) ∧ (kd = 2 → ms_i σ' 1 6 = iZ ((min (nv B st (nx - st)) 1000000 : Nat) : Int)) ∧ (kd = 3 → ms_i σ' 1 6 = iZ (sB (B st))) ∧ Fr FT3 σ σ' := by
  have hE := h.2.1
  have ne : ∀ {s : MsSt} {k j : Nat} {v : Int32}, j ≠ k → ms_i (ms_si s 1 k v) 1 j = ms_i s 1 j := fun q => i_si_ne (Or.inr q)
  have F1 : Fr FT3 σ (ms_si σ 1 3 (ms_i σ 1 4)) := Fr.si _ _ ⟨rfl, by omega, by omega⟩
  have h1 : TxC (ms_si σ 1 3 (ms_i σ 1 4)) B E := h.fr F1 (by unfold FT3; omega) (by unfold FT3; intros; omega)
  have e3 : ms_i (ms_si σ 1 3 (ms_i σ 1 4)) 1 3 = iZ (st : Int) := by rw [i_si_same, h4]
  have e4 : ms_i (ms_si σ 1 3 (ms_i σ 1 4)) 1 4 = iZ (st : Int) := by rw [ne (by omega), h4]
  unfold f_X9_advance_46
  rw [nm_s]
  rcases hT with ⟨g1, rfl, rfl⟩ | ⟨g1, g2, g3, rfl⟩ | ⟨g1, g2, g3, g4, rfl⟩ | ⟨g1, g2, g3, rfl, rfl⟩
  · refine ⟨ms_si (ms_si σ 1 3 (ms_i σ 1 4)) 1 5 0, ?_, by rw [ne (by omega)]; exact e3, by rw [ne (by omega)]; exact e4, i_si_same _ _ _ _, fun q => by omega, fun q => by omega, F1.trans (Fr.si _ _ ⟨rfl, by omega, by omega⟩)⟩
    rw [iltF e4 h1.1 (by omega) (by omega) (by omega), nm_s]
  · have hb := (h.2.2 st g1).1
    have key := lp0 (S := MsSt) (f := fun n t => f_X9_advance_92 n t 1) (Q := fun σ' => ms_i σ' 1 4 = iZ (nx : Int) ∧ Fr (fun a k => a = 1 ∧ k = 4) (ms_si (ms_si σ 1 3 (ms_i σ 1 4)) 1 5 1) σ')
      (fun i t => ms_i t 1 4 = iZ ((st + i : Nat) : Int) ∧ st + i ≤ nx ∧ Fr (fun a k => a = 1 ∧ k = 4) (ms_si (ms_si σ 1 3 (ms_i σ 1 4)) 1 5 1) t) (nx - st) (s := ms_si (ms_si σ 1 3 (ms_i σ 1 4)) 1 5 1) ⟨by rw [ne (by omega)]; exact e4, g3.1, Fr.refl _ _⟩ ?_ ?_ ?_
    · obtain ⟨σ', k1, k2, k3⟩ := key
      refine ⟨σ', ?_, ?_, k2, ?_, fun q => by omega, fun q => by omega, (F1.trans (Fr.si _ _ ⟨rfl, by omega, by omega⟩)).trans (k3.mono fun a k q => ⟨q.1, by have := q.2; omega, by have := q.2; omega⟩)⟩
      · rw [iltT e4 h1.1 (by omega) (by omega) (by omega), e4, c_byteAt h1 g1, Option.bind_some, c_isLet hb, Option.bind_some, ibT g2, nm_s, k1]
      · rw [k3.1 _ _ (by omega), ne (by omega)]; exact e3
      · rw [k3.1 _ _ (by omega), i_si_same]; rfl
    · have := g3.1
      by_cases q : nx ≤ E
      · omega
      · exact absurd (g3.2.1 E (by omega) (by omega)) (by rw [atQ_out (by omega)]; decide)
    · rintro i t ⟨q1, q2, q3⟩ hlt
      left
      have hQ := atQ_t (g3.2.1 (st + i) (by omega) (by omega))
      have ht : TxC t B E := (h1.fr (Fr.si (P := FT3) _ _ ⟨rfl, by omega, by omega⟩) (by unfold FT3; omega) (by unfold FT3; intros; omega)).fr q3 (by omega) (by intros; omega)
      refine ⟨ms_si t 1 4 (iZ ((st + (i + 1) : Nat) : Int)), ⟨i_si_same _ _ _ _, by omega, q3.trans (Fr.si _ _ ⟨rfl, rfl⟩)⟩, fun n' => ?_⟩
      show (if ms_i t 1 4 < ms_i t 1 2 then _ else _) = _
      rw [iltT q1 ht.1 (by omega) (by omega) (by omega), q1, c_byteAt ht hQ.1, Option.bind_some, c_isLet (ht.2.2 _ hQ.1).1, Option.bind_some, ibT hQ.2, nm_s, i1, iZ_add]
      rfl
    · rintro t ⟨q1, q2, q3⟩
      have e : st + (nx - st) = nx := by have := g3.1; omega
      rw [e] at q1
      have ht : TxC t B E := (h1.fr (Fr.si (P := FT3) _ _ ⟨rfl, by omega, by omega⟩) (by unfold FT3; omega) (by unfold FT3; intros; omega)).fr q3 (by omega) (by intros; omega)
      refine ⟨t, ⟨q1, q3⟩, fun n' => ?_⟩
      show (if ms_i t 1 4 < ms_i t 1 2 then _ else _) = _
      by_cases g : nx < E
      · rw [iltT q1 ht.1 (by omega) (by omega) (by omega), q1, c_byteAt ht g, Option.bind_some, c_isLet (ht.2.2 _ g).1, Option.bind_some, ibF (by rw [atQ_f g3.2.2 g]; decide)]
      · have : nx ≤ E := by
          by_cases q : nx ≤ E
          · exact q
          · exact absurd (g3.2.1 E (by omega) (by omega)) (by rw [atQ_out (by omega)]; decide)
        rw [iltF q1 ht.1 (by omega) (by omega) (by omega)]
  · have hb := (h.2.2 st g1).1
    have hnE : nx ≤ E := by
      have := g4.1
      by_cases q : nx ≤ E
      · exact q
      · exact absurd (g4.2.1 E (by omega) (by omega)) (by rw [atQ_out (by omega)]; decide)
    have key := lp0 (S := MsSt) (f := fun n t => f_X9_advance_154 n t 1) (Q := fun σ' => ms_i σ' 1 4 = iZ (nx : Int) ∧ ms_i σ' 1 6 = iZ ((min (nv B st (nx - st)) 1000000 : Nat) : Int) ∧ Fr (fun a k => a = 1 ∧ (k = 4 ∨ k = 6)) (ms_si (ms_si (ms_si σ 1 3 (ms_i σ 1 4)) 1 5 2) 1 6 0) σ')
      (fun i t => ms_i t 1 4 = iZ ((st + i : Nat) : Int) ∧ st + i ≤ nx ∧ ms_i t 1 6 = iZ ((min (nv B st i) 1000000 : Nat) : Int) ∧ Fr (fun a k => a = 1 ∧ (k = 4 ∨ k = 6)) (ms_si (ms_si (ms_si σ 1 3 (ms_i σ 1 4)) 1 5 2) 1 6 0) t) (nx - st) (s := ms_si (ms_si (ms_si σ 1 3 (ms_i σ 1 4)) 1 5 2) 1 6 0) ⟨by rw [ne (by omega), ne (by omega)]; exact e4, g4.1, i_si_same _ _ _ _, Fr.refl _ _⟩ (by omega) ?_ ?_
    · obtain ⟨σ', k1, k2, k3, k4⟩ := key
      refine ⟨σ', ?_, ?_, k2, ?_, fun _ => k3, fun q => by omega, ((F1.trans (Fr.si _ _ ⟨rfl, by omega, by omega⟩)).trans (Fr.si _ _ ⟨rfl, by omega, by omega⟩)).trans (k4.mono fun a k q => ⟨q.1, by have := q.2; omega, by have := q.2; omega⟩)⟩
      · rw [iltT e4 h1.1 (by omega) (by omega) (by omega), e4, c_byteAt h1 g1, Option.bind_some, c_isLet hb, Option.bind_some, ibF (by rw [g2]; decide), Option.bind_some, c_isDig hb, Option.bind_some, ibT g3, nm_s, nm_s, k1]
      · rw [k4.1 _ _ (by omega), ne (by omega), ne (by omega)]; exact e3
      · rw [k4.1 _ _ (by omega), ne (by omega), i_si_same]; rfl
    · rintro i t ⟨q1, q2, q4, q3⟩ hlt
      left
      have hQ := atQ_t (g4.2.1 (st + i) (by omega) (by omega))
      have hd := digB_iff.mp hQ.2
      have ht : TxC t B E := ((h1.fr (Fr.si (P := FT3) _ _ ⟨rfl, by omega, by omega⟩) (by unfold FT3; omega) (by unfold FT3; intros; omega)).fr (Fr.si (P := FT3) _ _ ⟨rfl, by omega, by omega⟩) (by unfold FT3; omega) (by unfold FT3; intros; omega)).fr q3 (by omega) (by intros; omega)
      have es : sB (B (st + i)) = (B (st + i) : Int) := if_pos (by omega)
      have ev : ms_i t 1 6 * 10 + iZ (sB (B (st + i))) - 48 = iZ ((min (nv B st i) 1000000 * 10 + (B (st + i) - 48) : Nat) : Int) := by
        rw [q4, es, show (10 : Int32) = iZ 10 from rfl, iZ_mul, iZ_add, show (48 : Int32) = iZ 48 from rfl, iZ_sub]
        congr 1
        omega
      have em : (if ms_i t 1 6 * 10 + iZ (sB (B (st + i))) - 48 < 1000000 then ms_i t 1 6 * 10 + iZ (sB (B (st + i))) - 48 else 1000000) = iZ ((min (nv B st (i + 1)) 1000000 : Nat) : Int) := by
        have hnv : nv B st (i + 1) = nv B st i * 10 + (B (st + i) - 48) := rfl
        rw [ilt ev (show (1000000 : Int32) = iZ 1000000 from rfl) (by omega) (by omega) (by omega) (by omega)]
        by_cases c : ((min (nv B st i) 1000000 * 10 + (B (st + i) - 48) : Nat) : Int) < 1000000
        · rw [if_pos c, ev]
          congr 2
          omega
        · rw [if_neg c, show (1000000 : Int32) = iZ ((1000000 : Nat) : Int) from rfl]
          congr 2
          omega
      refine ⟨ms_si (ms_si t 1 6 (iZ ((min (nv B st (i + 1)) 1000000 : Nat) : Int))) 1 4 (iZ ((st + (i + 1) : Nat) : Int)), ⟨i_si_same _ _ _ _, by omega, by rw [ne (by omega), i_si_same], (q3.trans (Fr.si _ _ ⟨rfl, Or.inr rfl⟩)).trans (Fr.si _ _ ⟨rfl, Or.inl rfl⟩)⟩, fun n' => ?_⟩
      show (if ms_i t 1 4 < ms_i t 1 2 then _ else _) = _
      rw [iltT q1 ht.1 (by omega) (by omega) (by omega), q1, c_byteAt ht hQ.1, Option.bind_some, c_isDig (ht.2.2 _ hQ.1).1, Option.bind_some, ibT hQ.2, Option.bind_some, em, nm_s, nm_s, ne (by omega), q1, i1, iZ_add]
      rfl
    · rintro t ⟨q1, q2, q4, q3⟩
      have e : st + (nx - st) = nx := by have := g4.1; omega
      rw [e] at q1
      have ht : TxC t B E := ((h1.fr (Fr.si (P := FT3) _ _ ⟨rfl, by omega, by omega⟩) (by unfold FT3; omega) (by unfold FT3; intros; omega)).fr (Fr.si (P := FT3) _ _ ⟨rfl, by omega, by omega⟩) (by unfold FT3; omega) (by unfold FT3; intros; omega)).fr q3 (by omega) (by intros; omega)
      refine ⟨t, ⟨q1, q4, q3⟩, fun n' => ?_⟩
      show (if ms_i t 1 4 < ms_i t 1 2 then _ else _) = _
      by_cases g : nx < E
      · rw [iltT q1 ht.1 (by omega) (by omega) (by omega), q1, c_byteAt ht g, Option.bind_some, c_isDig (ht.2.2 _ g).1, Option.bind_some, ibF (by rw [atQ_f g4.2.2 g]; decide)]
      · rw [iltF q1 ht.1 (by omega) (by omega) (by omega)]
  · have hb := (h.2.2 st g1).1
    have h2 : TxC (ms_si (ms_si σ 1 3 (ms_i σ 1 4)) 1 5 3) B E := h1.fr (Fr.si (P := FT3) _ _ ⟨rfl, by omega, by omega⟩) (by unfold FT3; omega) (by unfold FT3; intros; omega)
    have e5 : ms_i (ms_si (ms_si σ 1 3 (ms_i σ 1 4)) 1 5 3) 1 4 = iZ (st : Int) := by rw [ne (by omega)]; exact e4
    refine ⟨ms_si (ms_si (ms_si (ms_si σ 1 3 (ms_i σ 1 4)) 1 5 3) 1 6 (iZ (sB (B st)))) 1 4 (iZ ((st + 1 : Nat) : Int)), ?_, by rw [ne (by omega), ne (by omega), ne (by omega)]; exact e3, i_si_same _ _ _ _, by rw [ne (by omega), ne (by omega), i_si_same]; rfl, fun q => by omega, fun _ => by rw [ne (by omega), i_si_same], ((F1.trans (Fr.si _ _ ⟨rfl, by omega, by omega⟩)).trans (Fr.si _ _ ⟨rfl, by omega, by omega⟩)).trans (Fr.si _ _ ⟨rfl, by omega, by omega⟩)⟩
    rw [iltT e4 h1.1 (by omega) (by omega) (by omega), e4, c_byteAt h1 g1, Option.bind_some, c_isLet hb, Option.bind_some, ibF (by rw [g2]; decide), Option.bind_some, c_isDig hb, Option.bind_some, ibF (by rw [g3]; decide), nm_s, e5, c_byteAt h2 g1, Option.bind_some, nm_s, nm_s, ne (by omega), e5, i1, iZ_add]
    rfl
end Sc2
