/-! both sides go on by a token; errors; both sides beside each other -/
section Tk2
variable {σ τ : MsSt} {B : Nat → Nat} {E : Nat}
theorem c_advance {p st nx kd : Nat} (h : TxC σ B E) (h4 : ms_i σ 1 4 = iZ (p : Int)) (h7 : ms_i σ 1 7 = 0) (h8 : ms_i σ 1 8 = iZ (-1)) (hT : Tk B E p st nx kd) (hO : TkOK B E st nx kd) : ∃ σ', f_X9_advance σ 1 = some σ' ∧ GdC σ' B E st nx kd ∧ Fr FT3 σ σ' := by
  obtain ⟨h1, h2⟩ := hT
  have hE := h.2.1
  have hst : st ≤ E := by have := hO.1; have := hO.2.1; omega
  have key := lpe (S := MsSt) (f := fun n t => f_X9_advance_8 n t 1) (fun i t => ms_i t 1 4 = iZ ((p + i : Nat) : Int) ∧ Fr (fun a k => a = 1 ∧ k = 4) σ t) (st - p) ?_ (st - p) 0 σ ms_fuel ⟨h4, Fr.refl _ _⟩ (by omega) (show st - p < 100000 by omega)
  · obtain ⟨t, m, ⟨k1, k2⟩, k3⟩ := key
    have e : p + (st - p) = st := by have := h1.1; omega
    rw [e] at k1
    have ht : TxC t B E := h.fr k2 (by omega) (by intros; omega)
    have kend : f_X9_advance_8 (m + 1) t 1 = f_X9_advance_46 t 1 := by
      show (if ms_i t 1 4 < ms_i t 1 2 then _ else _) = _
      by_cases g : st < E
      · rw [iltT k1 ht.1 (by omega) (by omega) (by omega), k1, c_byteAt ht g, Option.bind_some, c_isSep (ht.2.2 _ g).1, Option.bind_some, ibF (by rw [atQ_f h1.2.2 g]; decide)]
      · rw [iltF k1 ht.1 (by omega) (by omega) (by omega)]
    obtain ⟨σ', a1, a2, a3, a4, a5, a6, a7⟩ := c_adv46 ht hst k1 h2
    have F : Fr FT3 σ σ' := (k2.mono fun a k q => ⟨q.1, by have := q.2; omega, by have := q.2; omega⟩ : Fr FT3 σ t).trans a7
    refine ⟨σ', ?_, ⟨h.fr F (by unfold FT3; omega) (by unfold FT3; intros; omega), a2, a3, a4, by rw [F.1 _ _ (by unfold FT3; omega)]; exact h7, by rw [F.1 _ _ (by unfold FT3; omega)]; exact h8, a5, a6⟩, F⟩
    unfold f_X9_advance
    rw [if_pos h7, k3, kend, a1]
  · rintro i t ⟨q1, q2⟩ hlt
    have hQ := atQ_t (h1.2.1 (p + i) (by omega) (by omega))
    have ht : TxC t B E := h.fr q2 (by omega) (by intros; omega)
    refine ⟨ms_si t 1 4 (iZ ((p + (i + 1) : Nat) : Int)), ⟨i_si_same _ _ _ _, q2.trans (Fr.si _ _ ⟨rfl, rfl⟩)⟩, fun n' => ?_⟩
    show (if ms_i t 1 4 < ms_i t 1 2 then _ else _) = _
    rw [iltT q1 ht.1 (by omega) (by omega) (by omega), q1, c_byteAt ht hQ.1, Option.bind_some, c_isSep (ht.2.2 _ hQ.1).1, Option.bind_some, ibT hQ.2, nm_s, i1, iZ_add]
    rfl
def FS3 : Nat → Nat → Prop := fun a k => a = 493 ∧ 29 ≤ k ∧ k ≤ 31
/-- the reference takes the next token -/
theorem m_scanEnd {st nx kd : Nat} (h : TxM τ B E) (hst : st ≤ E) (h4 : ms_i τ 493 29 = iZ (st : Int)) (hT : (E ≤ st ∧ nx = st ∧ kd = 0) ∨ (st < E ∧ letB (B st) = true ∧ Fst (atQ letB B E) st nx ∧ kd = 1) ∨ (st < E ∧ letB (B st) = false ∧ digB (B st) = true ∧ Fst (atQ digB B E) st nx ∧ kd = 2) ∨ (st < E ∧ letB (B st) = false ∧ digB (B st) = false ∧ nx = st + 1 ∧ kd = 3)) (hs : atQ sepB B E st = false) (n : Nat) :
    ∃ τ', f_X12_scan_0 (n + 1) τ 493 = some τ' ∧ ms_i τ' 493 30 = iZ (st : Int) ∧ ms_i τ' 493 29 = iZ (nx : Int) ∧ ms_i τ' 493 31 = iZ (kd : Int) ∧ Fr FS3 τ τ' := by
  have hE := h.2.1
  have ne : ∀ {s : MsSt} {k j : Nat} {v : Int32}, j ≠ k → ms_i (ms_si s 493 k v) 493 j = ms_i s 493 j := fun q => i_si_ne (Or.inr q)
  have F1 : Fr FS3 τ (ms_si τ 493 30 (ms_i τ 493 29)) := Fr.si _ _ ⟨rfl, by omega, by omega⟩
  have h1 : TxM (ms_si τ 493 30 (ms_i τ 493 29)) B E := h.fr F1 (by unfold FS3; omega) (by unfold FS3; intros; omega)
  have e3 : ms_i (ms_si τ 493 30 (ms_i τ 493 29)) 493 30 = iZ (st : Int) := by rw [i_si_same, h4]
  have e4 : ms_i (ms_si τ 493 30 (ms_i τ 493 29)) 493 29 = iZ (st : Int) := by rw [ne (by omega), h4]
  have hbyte : ∃ z : Int, f_X12_byteAt τ 493 (iZ (st : Int)) = some (iZ z) ∧ -1 ≤ z ∧ z < 256 ∧ z ≠ 32 ∧ z ≠ 10 := by
    by_cases g : st < E
    · have hb := (h.2.2 st g).1
      have hq := atQ_f hs g
      refine ⟨(B st : Int), m_byteAt h g, by omega, by omega, fun q => ?_, fun q => ?_⟩
      · rw [sepB_iff.mpr (Or.inl (by omega))] at hq; cases hq
      · rw [sepB_iff.mpr (Or.inr (by omega))] at hq; cases hq
    · exact ⟨-1, m_byteO h g (by omega), by omega, by omega, by omega, by omega⟩
  obtain ⟨z, z1, z2, z3, z4, z5⟩ := hbyte
  have hd : f_X12_scan_0 (n + 1) τ 493 = (if ms_i (ms_si τ 493 30 (ms_i τ 493 29)) 493 29 < ms_i (ms_si τ 493 30 (ms_i τ 493 29)) 493 28 then (f_X12_isLetter (ms_si τ 493 30 (ms_i τ 493 29)) 493 (ms_i (ms_si τ 493 30 (ms_i τ 493 29)) 493 29)).bind fun v5 => if v5 = 0 then (f_X12_isDigit (ms_si τ 493 30 (ms_i τ 493 29)) 493 (ms_i (ms_si τ 493 30 (ms_i τ 493 29)) 493 29)).bind fun v6 => if v6 = 0 then ms_nm (ms_si (ms_si τ 493 30 (ms_i τ 493 29)) 493 29 ((ms_i (ms_si τ 493 30 (ms_i τ 493 29)) 493 29) + 1)) fun s7 => ms_nm (ms_si s7 493 31 3) fun s8 => some s8 else f_X12_scan_120 ms_fuel (ms_si τ 493 30 (ms_i τ 493 29)) 493 else f_X12_scan_77 ms_fuel (ms_si τ 493 30 (ms_i τ 493 29)) 493 else ms_nm (ms_si (ms_si τ 493 30 (ms_i τ 493 29)) 493 31 0) fun s15 => some s15) := by
    show (f_X12_byteAt τ 493 (ms_i τ 493 29)).bind _ = _
    rw [h4, z1, Option.bind_some, ieqF rfl (show (32 : Int32) = iZ 32 from rfl) z4 (by omega) (by omega) (by omega) (by omega), Option.bind_some, ieqF rfl (show (10 : Int32) = iZ 10 from rfl) z5 (by omega) (by omega) (by omega) (by omega), nm_s]
  rw [hd]
  rcases hT with ⟨g1, rfl, rfl⟩ | ⟨g1, g2, g3, rfl⟩ | ⟨g1, g2, g3, g4, rfl⟩ | ⟨g1, g2, g3, rfl, rfl⟩
  · refine ⟨ms_si (ms_si τ 493 30 (ms_i τ 493 29)) 493 31 0, ?_, by rw [ne (by omega)]; exact e3, by rw [ne (by omega)]; exact e4, i_si_same _ _ _ _, F1.trans (Fr.si _ _ ⟨rfl, by omega, by omega⟩)⟩
    rw [iltF e4 h1.1 (by omega) (by omega) (by omega), nm_s]
  · have hnE : nx ≤ E := by
      have := g3.1
      by_cases q : nx ≤ E
      · exact q
      · exact absurd (g3.2.1 E (by omega) (by omega)) (by rw [atQ_out (by omega)]; decide)
    have key := lp0 (S := MsSt) (f := fun n t => f_X12_scan_77 n t 493) (Q := fun τ' => ms_i τ' 493 29 = iZ (nx : Int) ∧ ms_i τ' 493 31 = 1 ∧ Fr (fun a k => a = 493 ∧ (k = 29 ∨ k = 31)) (ms_si τ 493 30 (ms_i τ 493 29)) τ')
      (fun i t => ms_i t 493 29 = iZ ((st + i : Nat) : Int) ∧ Fr (fun a k => a = 493 ∧ (k = 29 ∨ k = 31)) (ms_si τ 493 30 (ms_i τ 493 29)) t) (nx - st) (s := ms_si τ 493 30 (ms_i τ 493 29)) ⟨e4, Fr.refl _ _⟩ (by omega) ?_ ?_
    · obtain ⟨τ', k1, k2, k4, k3⟩ := key
      refine ⟨τ', ?_, ?_, k2, k4, F1.trans (k3.mono fun a k q => ⟨q.1, by have := q.2; omega, by have := q.2; omega⟩)⟩
      · rw [iltT e4 h1.1 (by omega) (by omega) (by omega), e4, m_isLet h1 (by omega), Option.bind_some, ibT (by rw [atQ_in g1]; exact g2), k1]
      · rw [k3.1 _ _ (by omega)]; exact e3
    · rintro i t ⟨q1, q3⟩ hlt
      left
      have hQ := g3.2.1 (st + i) (by omega) (by omega)
      have ht : TxM t B E := h1.fr q3 (by omega) (by intros; omega)
      refine ⟨ms_si t 493 29 (iZ ((st + (i + 1) : Nat) : Int)), ⟨i_si_same _ _ _ _, q3.trans (Fr.si _ _ ⟨rfl, Or.inl rfl⟩)⟩, fun n' => ?_⟩
      show (f_X12_isLetter t 493 (ms_i t 493 29)).bind _ = _
      rw [q1, m_isLet ht (by omega), Option.bind_some, ibT hQ, nm_s, i1, iZ_add]
      rfl
    · rintro t ⟨q1, q3⟩
      have e : st + (nx - st) = nx := by have := g3.1; omega
      rw [e] at q1
      have ht : TxM t B E := h1.fr q3 (by omega) (by intros; omega)
      refine ⟨ms_si t 493 31 1, ⟨by rw [ne (by omega)]; exact q1, i_si_same _ _ _ _, q3.trans (Fr.si _ _ ⟨rfl, Or.inr rfl⟩)⟩, fun n' => ?_⟩
      show (f_X12_isLetter t 493 (ms_i t 493 29)).bind _ = _
      rw [q1, m_isLet ht (by omega), Option.bind_some, ibF (by rw [g3.2.2]; decide), nm_s]
  · have hnE : nx ≤ E := by
      have := g4.1
      by_cases q : nx ≤ E
      · exact q
      · exact absurd (g4.2.1 E (by omega) (by omega)) (by rw [atQ_out (by omega)]; decide)
    have key := lp0 (S := MsSt) (f := fun n t => f_X12_scan_120 n t 493) (Q := fun τ' => ms_i τ' 493 29 = iZ (nx : Int) ∧ ms_i τ' 493 31 = 2 ∧ Fr (fun a k => a = 493 ∧ (k = 29 ∨ k = 31)) (ms_si τ 493 30 (ms_i τ 493 29)) τ')
      (fun i t => ms_i t 493 29 = iZ ((st + i : Nat) : Int) ∧ Fr (fun a k => a = 493 ∧ (k = 29 ∨ k = 31)) (ms_si τ 493 30 (ms_i τ 493 29)) t) (nx - st) (s := ms_si τ 493 30 (ms_i τ 493 29)) ⟨e4, Fr.refl _ _⟩ (by omega) ?_ ?_
    · obtain ⟨τ', k1, k2, k4, k3⟩ := key
      refine ⟨τ', ?_, ?_, k2, k4, F1.trans (k3.mono fun a k q => ⟨q.1, by have := q.2; omega, by have := q.2; omega⟩)⟩
      · rw [iltT e4 h1.1 (by omega) (by omega) (by omega), e4, m_isLet h1 (by omega), Option.bind_some, ibF (by rw [atQ_in g1, g2]; decide), m_isDig h1 (by omega), Option.bind_some, ibT (by rw [atQ_in g1]; exact g3), k1]
      · rw [k3.1 _ _ (by omega)]; exact e3
    · rintro i t ⟨q1, q3⟩ hlt
      left
      have hQ := g4.2.1 (st + i) (by omega) (by omega)
      have ht : TxM t B E := h1.fr q3 (by omega) (by intros; omega)
      refine ⟨ms_si t 493 29 (iZ ((st + (i + 1) : Nat) : Int)), ⟨i_si_same _ _ _ _, q3.trans (Fr.si _ _ ⟨rfl, Or.inl rfl⟩)⟩, fun n' => ?_⟩
      show (f_X12_isDigit t 493 (ms_i t 493 29)).bind _ = _
      rw [q1, m_isDig ht (by omega), Option.bind_some, ibT hQ, nm_s, i1, iZ_add]
      rfl
    · rintro t ⟨q1, q3⟩
      have e : st + (nx - st) = nx := by have := g4.1; omega
      rw [e] at q1
      have ht : TxM t B E := h1.fr q3 (by omega) (by intros; omega)
      refine ⟨ms_si t 493 31 2, ⟨by rw [ne (by omega)]; exact q1, i_si_same _ _ _ _, q3.trans (Fr.si _ _ ⟨rfl, Or.inr rfl⟩)⟩, fun n' => ?_⟩
      show (f_X12_isDigit t 493 (ms_i t 493 29)).bind _ = _
      rw [q1, m_isDig ht (by omega), Option.bind_some, ibF (by rw [g4.2.2]; decide), nm_s]
  · refine ⟨ms_si (ms_si (ms_si τ 493 30 (ms_i τ 493 29)) 493 29 (iZ ((st + 1 : Nat) : Int))) 493 31 3, ?_, by rw [ne (by omega), ne (by omega)]; exact e3, by rw [ne (by omega), i_si_same], i_si_same _ _ _ _, (F1.trans (Fr.si _ _ ⟨rfl, by omega, by omega⟩)).trans (Fr.si _ _ ⟨rfl, by omega, by omega⟩)⟩
    rw [iltT e4 h1.1 (by omega) (by omega) (by omega), e4, m_isLet h1 (by omega), Option.bind_some, ibF (by rw [atQ_in g1, g2]; decide), m_isDig h1 (by omega), Option.bind_some, ibF (by rw [atQ_in g1, g3]; decide), nm_s, nm_s, i1, iZ_add]
    rfl
theorem m_scan {p st nx kd : Nat} (h : TxM τ B E) (h4 : ms_i τ 493 29 = iZ (p : Int)) (h7 : ms_i τ 493 32 = 0) (hT : Tk B E p st nx kd) (hO : TkOK B E st nx kd) : ∃ τ', f_X12_scan τ 493 = some τ' ∧ GdM τ' B E st nx kd ∧ Fr FS3 τ τ' := by
  obtain ⟨h1, h2⟩ := hT
  have hE := h.2.1
  have hst : st ≤ E := by have := hO.1; have := hO.2.1; omega
  have key := lpe (S := MsSt) (f := fun n t => f_X12_scan_0 n t 493) (fun i t => ms_i t 493 29 = iZ ((p + i : Nat) : Int) ∧ Fr (fun a k => a = 493 ∧ k = 29) τ t) (st - p) ?_ (st - p) 0 τ ms_fuel ⟨h4, Fr.refl _ _⟩ (by omega) (show st - p < 100000 by omega)
  · obtain ⟨t, m, ⟨k1, k2⟩, k3⟩ := key
    have e : p + (st - p) = st := by have := h1.1; omega
    rw [e] at k1
    have ht : TxM t B E := h.fr k2 (by omega) (by intros; omega)
    obtain ⟨τ', a1, a2, a3, a4, a5⟩ := m_scanEnd ht hst k1 h2 h1.2.2 m
    have F : Fr FS3 τ τ' := (k2.mono fun a k q => ⟨q.1, by have := q.2; omega, by have := q.2; omega⟩ : Fr FS3 τ t).trans a5
    refine ⟨τ', ?_, ⟨h.fr F (by unfold FS3; omega) (by unfold FS3; intros; omega), a2, a3, a4, by rw [F.1 _ _ (by unfold FS3; omega)]; exact h7⟩, F⟩
    unfold f_X12_scan
    rw [k3, a1]
  · rintro i t ⟨q1, q2⟩ hlt
    have hQ := atQ_t (h1.2.1 (p + i) (by omega) (by omega))
    have hb := (h.2.2 _ hQ.1).1
    have ht : TxM t B E := h.fr q2 (by omega) (by intros; omega)
    have e1 : iZ ((p + i : Nat) : Int) + 1 = iZ ((p + (i + 1) : Nat) : Int) := by rw [i1, iZ_add]; rfl
    refine ⟨ms_si t 493 29 (iZ ((p + (i + 1) : Nat) : Int)), ⟨i_si_same _ _ _ _, q2.trans (Fr.si _ _ ⟨rfl, rfl⟩)⟩, fun n' => ?_⟩
    show (f_X12_byteAt t 493 (ms_i t 493 29)).bind _ = _
    rw [q1, m_byteAt ht hQ.1, Option.bind_some]
    by_cases g : B (p + i) = 32
    · rw [ieqT rfl (show (32 : Int32) = iZ 32 from rfl) (by omega), nm_s, e1]
    · have g2 := (sepB_iff.mp hQ.2).resolve_left g
      rw [ieqF rfl (show (32 : Int32) = iZ 32 from rfl) (by omega) (by omega) (by omega) (by omega) (by omega), Option.bind_some, ieqT rfl (show (10 : Int32) = iZ 10 from rfl) (by omega), nm_s, e1]
/-! an error -/
def BdC (σ : MsSt) (c p : Nat) : Prop := ms_i σ 1 5 = 0 ∧ ms_i σ 1 7 = iZ (c : Int) ∧ ms_i σ 1 8 = iZ (p : Int)
/-- where the reference's token lies -/
def GdX (τ : MsSt) (B : Nat → Nat) (E st nx kd : Nat) : Prop := TkOK B E st nx kd ∧ TxM τ B E ∧ ms_i τ 493 30 = iZ (st : Int) ∧ ms_i τ 493 29 = iZ (nx : Int) ∧ ms_i τ 493 31 = iZ (kd : Int)
def BdM (τ : MsSt) (B : Nat → Nat) (E c p : Nat) : Prop := ms_i τ 493 32 = iZ (c : Int) ∧ ms_i τ 493 33 = iZ (p : Int) ∧ ∃ st nx kd, GdX τ B E st nx kd
def Sim (σ τ : MsSt) (B : Nat → Nat) (E : Nat) : Prop := (∃ st nx kd, TkOK B E st nx kd ∧ GdC σ B E st nx kd ∧ GdM τ B E st nx kd) ∨ ∃ c p, 1 ≤ c ∧ c ≤ 5 ∧ p ≤ E ∧ E ≤ 900 ∧ BdC σ c p ∧ BdM τ B E c p
def okT (σ : MsSt) : Prop := ms_i σ 1 7 = 0
theorem iZ_ne0 {c : Nat} (h1 : 1 ≤ c) (h2 : c ≤ 5) : iZ (c : Int) ≠ 0 := by
  rw [i0]
  intro h
  rw [iZ_eq (by omega) (by omega) (by omega) (by omega)] at h
  omega
theorem Sim.good (h : Sim σ τ B E) (hk : okT σ) : ∃ st nx kd, TkOK B E st nx kd ∧ GdC σ B E st nx kd ∧ GdM τ B E st nx kd := by
  rcases h with h | ⟨c, p, h1, h2, h3, h4, h5, h6⟩
  · exact h
  · exact absurd (h5.2.1.symm.trans hk) (iZ_ne0 h1 h2)
theorem Sim.bad (h : Sim σ τ B E) (hk : ¬ okT σ) : ∃ c p, 1 ≤ c ∧ c ≤ 5 ∧ p ≤ E ∧ E ≤ 900 ∧ BdC σ c p ∧ BdM τ B E c p := by
  rcases h with ⟨st, nx, kd, h1, h2, h3⟩ | h
  · exact absurd h2.2.2.2.2.1 hk
  · exact h
theorem Sim.m0 (h : Sim σ τ B E) : ms_i τ 493 32 = 0 ↔ okT σ := by
  rcases h with ⟨st, nx, kd, h1, h2, h3⟩ | ⟨c, p, h1, h2, h3, h4, h5, h6⟩
  · exact ⟨fun _ => h2.2.2.2.2.1, fun _ => h3.2.2.2.2⟩
  · exact ⟨fun g => absurd (h6.1.symm.trans g) (iZ_ne0 h1 h2), fun g => absurd (h5.2.1.symm.trans g) (iZ_ne0 h1 h2)⟩
theorem GdC.fr {σ' : MsSt} {P : Nat → Nat → Prop} {st nx kd : Nat} (h : GdC σ B E st nx kd) (hF : Fr P σ σ') (h1 : ∀ k, 2 ≤ k → ¬ P 1 k) (h2 : ∀ k, ¬ P 2 k) : GdC σ' B E st nx kd := by
  obtain ⟨a1, a2, a3, a4, a5, a6, a7, a8⟩ := h
  have e : ∀ k, 2 ≤ k → ms_i σ' 1 k = ms_i σ 1 k := fun k hk => hF.1 _ _ (h1 k hk)
  exact ⟨a1.fr hF (h1 2 (by omega)) h2, by rw [e 3 (by omega)]; exact a2, by rw [e 4 (by omega)]; exact a3, by rw [e 5 (by omega)]; exact a4, by rw [e 7 (by omega)]; exact a5, by rw [e 8 (by omega)]; exact a6, fun q => by rw [e 6 (by omega)]; exact a7 q, fun q => by rw [e 6 (by omega)]; exact a8 q⟩
theorem GdM.fr {τ' : MsSt} {P : Nat → Nat → Prop} {st nx kd : Nat} (h : GdM τ B E st nx kd) (hF : Fr P τ τ') (h1 : ∀ k, 28 ≤ k → k ≤ 33 → ¬ P 493 k) (h2 : ∀ k, ¬ P 512 k) : GdM τ' B E st nx kd := by
  obtain ⟨a1, a2, a3, a4, a5⟩ := h
  exact ⟨a1.fr hF (h1 28 (by omega) (by omega)) h2, (hF.1 _ _ (h1 _ (by omega) (by omega))).trans a2, (hF.1 _ _ (h1 _ (by omega) (by omega))).trans a3, (hF.1 _ _ (h1 _ (by omega) (by omega))).trans a4, (hF.1 _ _ (h1 _ (by omega) (by omega))).trans a5⟩
theorem GdX.fr {τ' : MsSt} {P : Nat → Nat → Prop} {st nx kd : Nat} (h : GdX τ B E st nx kd) (hF : Fr P τ τ') (h1 : ∀ k, 28 ≤ k → k ≤ 31 → ¬ P 493 k) (h2 : ∀ k, ¬ P 512 k) : GdX τ' B E st nx kd := by
  obtain ⟨a0, a1, a2, a3, a4⟩ := h
  exact ⟨a0, a1.fr hF (h1 28 (by omega) (by omega)) h2, (hF.1 _ _ (h1 _ (by omega) (by omega))).trans a2, (hF.1 _ _ (h1 _ (by omega) (by omega))).trans a3, (hF.1 _ _ (h1 _ (by omega) (by omega))).trans a4⟩
theorem GdM.x {st nx kd : Nat} (h : GdM τ B E st nx kd) (hO : TkOK B E st nx kd) : GdX τ B E st nx kd := ⟨hO, h.1, h.2.1, h.2.2.1, h.2.2.2.1⟩
theorem Sim.fr {σ' τ' : MsSt} {P Q : Nat → Nat → Prop} (h : Sim σ τ B E) (hF : Fr P σ σ') (hG : Fr Q τ τ') (h1 : ∀ k, 2 ≤ k → ¬ P 1 k) (h2 : ∀ k, ¬ P 2 k) (g1 : ∀ k, 28 ≤ k → k ≤ 33 → ¬ Q 493 k) (g2 : ∀ k, ¬ Q 512 k) : Sim σ' τ' B E := by
  rcases h with ⟨st, nx, kd, k1, k2, k3⟩ | ⟨c, p, k1, k2, k3, k4, ⟨k5, k6, k7⟩, k8, k9, st, nx, kd, k0⟩
  · exact Or.inl ⟨st, nx, kd, k1, k2.fr hF h1 h2, k3.fr hG g1 g2⟩
  · exact Or.inr ⟨c, p, k1, k2, k3, k4, ⟨(hF.1 _ _ (h1 _ (by omega))).trans k5, (hF.1 _ _ (h1 _ (by omega))).trans k6, (hF.1 _ _ (h1 _ (by omega))).trans k7⟩, (hG.1 _ _ (g1 _ (by omega) (by omega))).trans k8, (hG.1 _ _ (g1 _ (by omega) (by omega))).trans k9, st, nx, kd, k0.fr hG (fun k h1 h2 => g1 k h1 (by omega)) g2⟩
theorem ft3c {σ' : MsSt} (h : Fr FT3 σ σ') : Fr FTc σ σ' := h.mono fun a k q => ⟨q.1, by have := q.2.1; omega⟩
theorem fs3m {τ' : MsSt} (h : Fr FS3 τ τ') : Fr FTm τ τ' := h.mono fun a k q => ⟨q.1, by have := q.2.1; omega, by have := q.2.2; omega⟩
/-- both go on -/
theorem s_advance (h : Sim σ τ B E) : ∃ σ' τ', f_X9_advance σ 1 = some σ' ∧ f_X12_advance τ 493 = some τ' ∧ Sim σ' τ' B E ∧ (okT σ' ↔ okT σ) ∧ Fr FTc σ σ' ∧ Fr FTm τ τ' := by
  rcases h with ⟨st, nx, kd, k1, k2, k3⟩ | ⟨c, p, k1, k2, k3, k4, k5, k6⟩
  · obtain ⟨st', nx', kd', t1, t2, t3⟩ := tk_ex B k1.2.1
    obtain ⟨σ', a1, a2, a3⟩ := c_advance k2.1 k2.2.2.1 k2.2.2.2.2.1 k2.2.2.2.2.2.1 t1 t2
    obtain ⟨τ', b1, b2, b3⟩ := m_scan k3.1 k3.2.2.1 k3.2.2.2.2 t1 t2
    refine ⟨σ', τ', a1, ?_, Or.inl ⟨_, _, _, t2, a2, b2⟩, ⟨fun _ => k2.2.2.2.2.1, fun _ => a2.2.2.2.2.1⟩, ft3c a3, fs3m b3⟩
    unfold f_X12_advance
    rw [if_pos k3.2.2.2.2, b1, Option.bind_some]
  · refine ⟨σ, τ, ?_, ?_, Or.inr ⟨c, p, k1, k2, k3, k4, k5, k6⟩, Iff.rfl, Fr.refl _ _, Fr.refl _ _⟩
    · unfold f_X9_advance
      rw [if_neg (by rw [k5.2.1]; exact iZ_ne0 k1 k2)]
    · unfold f_X12_advance
      rw [if_neg (by rw [k6.1]; exact iZ_ne0 k1 k2)]
/-- both find a fault -/
theorem s_fail (h : Sim σ τ B E) {c : Nat} (c1 : 1 ≤ c) (c2 : c ≤ 5) : ∃ σ' τ', f_X9_fail σ 1 (iZ (c : Int)) = some σ' ∧ f_X12_check τ 493 0 (iZ (c : Int)) = some τ' ∧ Sim σ' τ' B E ∧ ¬ okT σ' ∧ Fr FTc σ σ' ∧ Fr FTm τ τ' := by
  have ne : ∀ {s : MsSt} {a k j : Nat} {v : Int32}, j ≠ k → ms_i (ms_si s a k v) a j = ms_i s a j := fun q => i_si_ne (Or.inr q)
  rcases h with ⟨st, nx, kd, k1, k2, k3⟩ | ⟨c', p, k1, k2, k3, k4, k5, k6⟩
  · refine ⟨ms_si (ms_si (ms_si σ 1 7 (iZ (c : Int))) 1 8 (ms_i (ms_si σ 1 7 (iZ (c : Int))) 1 3)) 1 5 0, ms_si (ms_si τ 493 32 (iZ (c : Int))) 493 33 (ms_i (ms_si τ 493 32 (iZ (c : Int))) 493 30), ?_, ?_, Or.inr ⟨c, st, c1, c2, by have := k1.1; have := k1.2.1; omega, k2.1.2.1, ⟨i_si_same _ _ _ _, by rw [ne (by omega), ne (by omega), i_si_same], by rw [ne (by omega), i_si_same, ne (by omega)]; exact k2.2.1⟩, by rw [ne (by omega), i_si_same], by rw [i_si_same, ne (by omega)]; exact k3.2.1, st, nx, kd, (k3.x k1).fr ((Fr.si (P := fun a k => a = 493 ∧ 32 ≤ k) _ _ ⟨rfl, by omega⟩).trans (Fr.si _ _ ⟨rfl, by omega⟩)) (by intros; omega) (by intros; omega)⟩, ?_, ((Fr.si _ _ ⟨rfl, by omega⟩).trans (Fr.si _ _ ⟨rfl, by omega⟩)).trans (Fr.si _ _ ⟨rfl, by omega⟩), (Fr.si _ _ ⟨rfl, by omega, by omega⟩).trans (Fr.si _ _ ⟨rfl, by omega, by omega⟩)⟩
    · unfold f_X9_fail
      rw [if_pos k2.2.2.2.2.1, nm_s, nm_s, nm_s]
    · unfold f_X12_check f_X12_flaw
      rw [if_pos rfl, if_pos k3.2.2.2.2, nm_s, nm_s, Option.bind_some]
    · unfold okT
      rw [ne (by omega), ne (by omega), i_si_same]
      exact iZ_ne0 c1 c2
  · refine ⟨ms_si σ 1 5 0, τ, ?_, ?_, Or.inr ⟨c', p, k1, k2, k3, k4, ⟨i_si_same _ _ _ _, by rw [ne (by omega)]; exact k5.2.1, by rw [ne (by omega)]; exact k5.2.2⟩, k6⟩, ?_, Fr.si _ _ ⟨rfl, by omega⟩, Fr.refl _ _⟩
    · unfold f_X9_fail
      rw [if_neg (by rw [k5.2.1]; exact iZ_ne0 k1 k2), nm_s]
    · unfold f_X12_check f_X12_flaw
      rw [if_pos rfl, if_neg (by rw [k6.1]; exact iZ_ne0 k1 k2), Option.bind_some]
    · unfold okT
      rw [ne (by omega), k5.2.1]
      exact iZ_ne0 k1 k2
theorem m_check1 (c : Int32) : f_X12_check τ 493 1 c = some τ := by
  unfold f_X12_check
  rw [if_neg (by decide)]
end Tk2
