/-! the reference's codes -/
section Rp
variable {w : Nat → Nat}
def CodeAt (τ : MsSt) : Nat → List Int → Prop
  | _, [] => True
  | p, x :: c => ms_i τ 515 p = iZ x ∧ CodeAt τ (p + 1) c
theorem codeAt_append {τ : MsSt} : ∀ (a b : List Int) (p : Nat), CodeAt τ p (a ++ b) ↔ CodeAt τ p a ∧ CodeAt τ (p + a.length) b := by
  intro a
  induction a with
  | nil => intro b p; exact ⟨fun h => ⟨trivial, h⟩, fun h => h.2⟩
  | cons x a ih =>
    intro b p
    have e : p + (x :: a).length = p + 1 + a.length := by rw [List.length_cons]; omega
    rw [e]
    show (ms_i τ 515 p = iZ x ∧ CodeAt τ (p + 1) (a ++ b)) ↔ (ms_i τ 515 p = iZ x ∧ CodeAt τ (p + 1) a) ∧ _
    rw [ih, and_assoc]
theorem CodeAt.eq {τ τ' : MsSt} : ∀ (c : List Int) (p : Nat), CodeAt τ p c → (∀ k, k < p + c.length → ms_i τ' 515 k = ms_i τ 515 k) → CodeAt τ' p c := by
  intro c
  induction c with
  | nil => intro p h g; trivial
  | cons x c ih =>
    intro p h g
    rw [List.length_cons] at g
    exact ⟨(g p (by omega)).trans h.1, ih (p + 1) h.2 fun k hk => g k (by omega)⟩
theorem InvS.other {σ σ' : MsSt} (h : InvS σ w) (e : σ'.1 = σ.1) : InvS σ' w := by
  obtain ⟨a, b⟩ := σ
  obtain ⟨a', b'⟩ := σ'
  cases e
  exact h
theorem i_other {σ σ' : MsSt} (e : σ'.1 = σ.1) (a k : Nat) : ms_i σ' a k = ms_i σ a k := by
  unfold ms_i
  rw [e]
theorem j_sj_same (σ : MsSt) (a k : Nat) (v : Int64) : ms_j (ms_sj σ a k v) a k = v := by
  show (if a = a ∧ k = k then v else _) = v
  rw [if_pos ⟨rfl, rfl⟩]
theorem j_sj_ne {σ : MsSt} {a k j : Nat} {v : Int64} (h : j ≠ k) : ms_j (ms_sj σ a k v) a j = ms_j σ a j := by
  show (if a = a ∧ j = k then v else _) = _
  rw [if_neg fun g => h g.2]
  rfl
theorem l516 : ms_ln 516 = 200 := m_ln.2.2.2.2.2.2.2.2.2.2.2.2.2.2.2.2.2.2.2.2
theorem l515 : ms_ln 515 = 200 := m_ln.2.2.2.2.2.2.2.2.2.2.2.2.2.2.2.2.2.2.2.1
theorem alj_s {τ : MsSt} {k : Nat} (hk : k < 200) : ms_alj τ 516 (iZ (k : Int)) = some (ms_j τ 516 k) := by
  unfold ms_alj
  have hc : (iZ (k : Int)).toNatClampNeg = k := by rw [iZ_clamp (by omega) (by omega)]; rfl
  rw [hc, l516, if_neg]
  rw [i0, iZ_lt (by omega) (by omega) (by omega) (by omega)]
  omega
theorem asj_s {τ : MsSt} {k : Nat} {v : Int64} (hk : k < 200) : ms_asj τ 516 (iZ (k : Int)) v = some (ms_sj τ 516 k v) := by
  unfold ms_asj
  have hc : (iZ (k : Int)).toNatClampNeg = k := by rw [iZ_clamp (by omega) (by omega)]; rfl
  rw [hc, l516, if_neg]
  rw [i0, iZ_lt (by omega) (by omega) (by omega) (by omega)]
  omega
/-- of the long numbers only the stack changes -/
def LJ (τ τ' : MsSt) : Prop := (∀ a k, a ≠ 516 → ms_j τ' a k = ms_j τ a k) ∧ τ'.2.2 = τ.2.2
theorem LJ.trans {a b c : MsSt} (h : LJ a b) (h' : LJ b c) : LJ a c := ⟨fun x k hx => (h'.1 x k hx).trans (h.1 x k hx), h'.2.trans h.2⟩
theorem LJ.of {a b : MsSt} (h : b.2 = a.2) : LJ a b := ⟨fun x k _ => by unfold ms_j; rw [h], by rw [h]⟩
theorem lj_sj (τ : MsSt) (k : Nat) (v : Int64) : LJ τ (ms_sj τ 516 k v) := ⟨fun a j ha => by
  show (if a = 516 ∧ j = k then v else _) = _
  rw [if_neg fun g => ha g.1]
  rfl, rfl⟩
/-- running the codes c puts g's value on the stack -/
def RunsV (w : Nat → Nat) (c : List Int) (g : Nat → Int64) : Prop := 1 ≤ c.length ∧ ∀ (k : Nat), k < (qL w).length → ∀ (τ : MsSt) (top pos M : Nat), InvS τ w → ms_i τ 493 40 = iZ (M : Int) → M ≤ 200 → pos + c.length ≤ M → top + c.length ≤ 200 → CodeAt τ pos c → ∃ τ', (∀ n, f_X12_holdsFor_4 (n + c.length) τ 493 (iZ (k : Int)) (iZ (top : Int)) (iZ (pos : Int)) = f_X12_holdsFor_4 n τ' 493 (iZ (k : Int)) (iZ ((top + 1 : Nat) : Int)) (iZ ((pos + c.length : Nat) : Int))) ∧ ms_j τ' 516 top = g k ∧ (∀ i, i < top → ms_j τ' 516 i = ms_j τ 516 i) ∧ τ'.1 = τ.1 ∧ LJ τ τ'
theorem RunsV.congr {c : List Int} {g g' : Nat → Int64} (h : RunsV w c g) (e : ∀ k, k < (qL w).length → g k = g' k) : RunsV w c g' :=
  ⟨h.1, fun k hk τ top pos M a1 a2 a3 a4 a5 a6 => by
    obtain ⟨τ', b1, b2, b3, b4⟩ := h.2 k hk τ top pos M a1 a2 a3 a4 a5 a6
    exact ⟨τ', b1, by rw [b2, e k hk], b3, b4⟩⟩
theorem rv_num {v : Nat} (hv : v < 100000) : RunsV w [(v : Int)] (fun _ => jZ (v : Int)) := by
  refine ⟨Nat.le_refl _, fun k hk τ top pos M hI hM hM2 hp ht hc => ⟨ms_sj τ 516 top (jZ (v : Int)), fun n => ?_, j_sj_same _ _ _ _, fun i hi => j_sj_ne (by omega), rfl, lj_sj _ _ _⟩⟩
  have hp' : pos + 1 ≤ M := hp
  have ht' : top + 1 ≤ 200 := ht
  have l5 := l515
  show (if iZ (pos : Int) < ms_i τ 493 40 then _ else _) = _
  rw [iltT rfl hM (by omega) (by omega) (by omega), m_rf38, ald_iZ (by omega) (by omega), hc.1, Option.bind_some, ieqF (y := -23) (b := -23) rfl rfl (by omega) (by omega) (by omega) (by omega) (by omega), iltT (x := -20) (a := -20) rfl rfl (by omega) (by omega) (by omega), iltF rfl i0 (by omega) (by omega) (by omega), m_rf39, iZ_long (by omega) (by omega), asj_s (by omega), Option.bind_some, i1, iZ_add, iZ_add]
  rfl
theorem rv_prop {i : Nat} (hi : i < 6) : RunsV w [-1 - (i : Int)] (fun k => jZ (pv w k (i : Int) : Int)) := by
  refine ⟨Nat.le_refl _, fun k hk τ top pos M hI hM hM2 hp ht hc => ⟨ms_sj τ 516 top (jZ (pv w k (i : Int) : Int)), fun n => ?_, j_sj_same _ _ _ _, fun i hi => j_sj_ne (by omega), rfl, lj_sj _ _ _⟩⟩
  have hp' : pos + 1 ≤ M := hp
  have ht' : top + 1 ≤ 200 := ht
  have l5 := l515
  have hb := pv_bd hI.1 hk (i := (i : Int))
  have e : (-1 : Int32) - iZ (-1 - (i : Int)) = iZ (i : Int) := by
    rw [show (-1 : Int32) = iZ (-1) from rfl, iZ_sub]
    congr 1
    omega
  show (if iZ (pos : Int) < ms_i τ 493 40 then _ else _) = _
  rw [iltT rfl hM (by omega) (by omega) (by omega), m_rf38, ald_iZ (by omega) (by omega), hc.1, Option.bind_some, ieqF (y := -23) (b := -23) rfl rfl (by omega) (by omega) (by omega) (by omega) (by omega), iltT (x := -20) (a := -20) rfl rfl (by omega) (by omega) (by omega), iltT rfl i0 (by omega) (by omega) (by omega), e, m_property hI hk (by omega) (by omega), Option.bind_some, m_rf39, iZ_long (by omega) (by omega), asj_s (by omega), Option.bind_some, i1, iZ_add, iZ_add]
  rfl
theorem rv_not {c : List Int} {g : Nat → Int64} (h : RunsV w c g) : RunsV w (c ++ [-23]) (fun k => 1 - g k) := by
  have hl : (c ++ [(-23 : Int)]).length = c.length + 1 := by rw [List.length_append]; rfl
  refine ⟨by rw [hl]; omega, fun k hk τ top pos M hI hM hM2 hp ht hc => ?_⟩
  rw [hl] at hp ht
  obtain ⟨hc1, hc2⟩ := (codeAt_append c [-23] pos).mp hc
  obtain ⟨τ1, a1, a2, a3, a4, a5⟩ := h.2 k hk τ top pos M hI hM hM2 (by omega) (by omega) hc1
  have l5 := l515
  refine ⟨ms_sj τ1 516 top (1 - g k), fun n => ?_, j_sj_same _ _ _ _, fun i hi => (j_sj_ne (by omega)).trans (a3 i hi), a4, a5.trans (lj_sj _ _ _)⟩
  have e1 : iZ ((top + 1 : Nat) : Int) - 1 = iZ (top : Int) := by rw [i1, iZ_sub]; congr 1; omega
  have e2 : iZ ((pos + c.length : Nat) : Int) + 1 = iZ ((pos + (c.length + 1) : Nat) : Int) := by rw [i1, iZ_add]; congr 1
  have hv : ms_i τ1 515 (pos + c.length) = iZ (-23) := (i_other a4 _ _).trans hc2.1
  rw [hl, show n + (c.length + 1) = n + 1 + c.length by omega, a1]
  show (if iZ ((pos + c.length : Nat) : Int) < ms_i τ1 493 40 then _ else _) = _
  rw [iltT rfl ((i_other a4 _ _).trans hM) (by omega) (by omega) (by omega), m_rf38, ald_iZ (by omega) (by omega), hv, Option.bind_some, ieqT (y := -23) (b := -23) rfl rfl rfl, e1, m_rf39, alj_s (by omega), Option.bind_some, a2, asj_s (by omega), Option.bind_some, e2]
theorem rv_bin {c d : List Int} {g u : Nat → Int64} {o : Int} {op : Int64 → Int64 → Int64} (h : RunsV w c g) (h' : RunsV w d u) (o1 : -26 < o) (o2 : o ≤ -20) (o3 : o ≠ -23) (hop : ∀ σ x y, f_X12_operate σ (iZ o) x y = some (op x y)) : RunsV w (c ++ d ++ [o]) (fun k => op (g k) (u k)) := by
  have hl : (c ++ d ++ [o]).length = c.length + d.length + 1 := by rw [List.length_append, List.length_append]; rfl
  refine ⟨by rw [hl]; omega, fun k hk τ top pos M hI hM hM2 hp ht hc => ?_⟩
  rw [hl] at hp ht
  obtain ⟨hc0, hc3⟩ := (codeAt_append (c ++ d) [o] pos).mp hc
  obtain ⟨hc1, hc2⟩ := (codeAt_append c d pos).mp hc0
  rw [List.length_append] at hc3
  have h1 := h'.1
  have h0 := h.1
  obtain ⟨τ1, a1, a2, a3, a4, a5⟩ := h.2 k hk τ top pos M hI hM hM2 (by omega) (by omega) hc1
  obtain ⟨τ2, b1, b2, b3, b4, b5⟩ := h'.2 k hk τ1 (top + 1) (pos + c.length) M (hI.other a4) ((i_other a4 _ _).trans hM) hM2 (by omega) (by omega) (hc2.eq _ _ fun k _ => i_other a4 _ _)
  have e4 : τ2.1 = τ.1 := b4.trans a4
  have l5 := l515
  refine ⟨ms_sj τ2 516 top (op (g k) (u k)), fun n => ?_, j_sj_same _ _ _ _, fun i hi => ((j_sj_ne (by omega)).trans (b3 i (by omega))).trans (a3 i hi), e4, (a5.trans b5).trans (lj_sj _ _ _)⟩
  have e1 : iZ ((top + 1 + 1 : Nat) : Int) + -1 = iZ ((top + 1 : Nat) : Int) := by rw [show (-1 : Int32) = iZ (-1) from rfl, iZ_add]; congr 1; omega
  have e1' : iZ ((top + 1 : Nat) : Int) - 1 = iZ (top : Int) := by rw [i1, iZ_sub]; congr 1; omega
  have e2 : iZ ((pos + c.length + d.length : Nat) : Int) + 1 = iZ ((pos + (c.length + d.length + 1) : Nat) : Int) := by rw [i1, iZ_add]; congr 1; omega
  have hv : ms_i τ2 515 (pos + c.length + d.length) = iZ o := by
    rw [i_other e4, Nat.add_assoc]
    exact hc3.1
  have hg : ms_j τ2 516 top = g k := (b3 top (by omega)).trans a2
  rw [hl, show n + (c.length + d.length + 1) = n + 1 + d.length + c.length by omega, a1, b1]
  show (if iZ ((pos + c.length + d.length : Nat) : Int) < ms_i τ2 493 40 then _ else _) = _
  rw [iltT rfl ((i_other e4 _ _).trans hM) (by omega) (by omega) (by omega), m_rf38, ald_iZ (by omega) (by omega), hv, Option.bind_some, ieqF (y := -23) (b := -23) rfl rfl o3 (by omega) (by omega) (by omega) (by omega), iltF (x := -20) (a := -20) rfl rfl (by omega) (by omega) (by omega), e1, e1', m_rf39, alj_s (by omega), Option.bind_some, alj_s (by omega), Option.bind_some, hg, b2, hop, Option.bind_some, asj_s (by omega), Option.bind_some, e2]
/-- the whole of the codes -/
theorem m_holds {c : List Int} {f : Nat → Bool} (h : RunsV w c (fun k => if f k = true then 1 else 0)) {τ : MsSt} (hI : InvS τ w) (hM : ms_i τ 493 40 = iZ (c.length : Int)) (hM2 : c.length ≤ 200) (hc : CodeAt τ 0 c) {k : Nat} (hk : k < (qL w).length) : ∃ τ', f_X12_holdsFor τ 493 (iZ (k : Int)) = some (b01 (f k = true), τ') ∧ τ'.1 = τ.1 ∧ LJ τ τ' := by
  obtain ⟨τ1, a1, a2, a3, a4, a5⟩ := h.2 k hk τ 0 0 c.length hI hM hM2 (by omega) (by omega) hc
  have hj := alj_s (τ := τ1) (k := 0) (by omega)
  have hj' : ms_alj τ1 516 0 = some (if f k = true then 1 else 0) := hj.trans (congrArg some a2)
  have hf : ms_fuel = (99999 - c.length) + 1 + c.length := by show 100000 = _; omega
  refine ⟨τ1, ?_, a4, a5⟩
  unfold f_X12_holdsFor
  have e0 := a1 (99999 - c.length + 1)
  rw [← hf] at e0
  refine (show _ = _ from e0).trans ?_
  rw [show 0 + c.length = c.length from Nat.zero_add _]
  show (if iZ (c.length : Int) < ms_i τ1 493 40 then _ else _) = _
  rw [iltF rfl ((i_other a4 _ _).trans hM) (by omega) (by omega) (by omega), m_rf39, hj', Option.bind_some]
  unfold b01
  by_cases q : f k = true
  · rw [if_pos q, if_pos (by decide), if_pos q]
  · rw [if_neg q, if_neg (by decide), if_neg q]
end Rp
