/-! query: a comparison -/
section Q4
variable {σ τ : MsSt} {B w : Nat → Nat} {E : Nat}
def tst (l1 l2 x y : Int32) : Bool := if l1 = 0 then (if l2 = 0 then decide (¬ x < y ∧ ¬ x = y) else decide (x = y)) else decide (x < y)
theorem c_cmp {V U : Nat → Int} {len : Nat} (h60 : len ≤ 60) (hV : Rw cI σ 281 60 (upTo V len)) (hU : Rw cI σ 283 60 (upTo U len)) (l1 l2 : Int32) : ∃ h, f_X4_readComparison_76 ms_fuel σ 276 l1 l2 0 0 = some (h, σ) ∧ MkIs h (fun k => tst l1 l2 (iZ (V k)) (iZ (U k))) len := by
  have key : ∃ r, f_X4_readComparison_76 ms_fuel σ 276 l1 l2 0 0 = some r ∧ (r.2 = σ ∧ MkIs r.1 (fun k => tst l1 l2 (iZ (V k)) (iZ (U k))) len) := by
    refine lp0 (S := Int64 × Int32) (β := Int64 × MsSt) (f := fun n t => f_X4_readComparison_76 n σ 276 l1 l2 t.1 t.2) (Q := fun r => r.2 = σ ∧ MkIs r.1 (fun k => tst l1 l2 (iZ (V k)) (iZ (U k))) len)
      (fun i t => t.2 = iZ (i : Int) ∧ i ≤ len ∧ MkIs t.1 (fun k => tst l1 l2 (iZ (V k)) (iZ (U k))) i) len (s := (0, 0)) ⟨rfl, Nat.zero_le _, mk_nil⟩ (by omega) ?_ ?_
    · rintro i ⟨m, x⟩ ⟨hx, hi, hm⟩ hlt
      dsimp only at hx hm ⊢
      subst hx
      left
      have g1 : f_X5_get σ 281 (iZ (i : Int)) = some (iZ (V i)) := by
        rw [get_in hV (by rw [upTo_length]; exact hlt), upTo_get]; rfl
      have g2 : f_X5_get σ 283 (iZ (i : Int)) = some (iZ (U i)) := by
        rw [get_in hU (by rw [upTo_length]; exact hlt), upTo_get]; rfl
      have hc : ms_i σ 281 1 = iZ (len : Int) := by
        have := hV.cnt
        rw [upTo_length] at this
        exact this
      have e1 : iZ (i : Int) + 1 = iZ ((i + 1 : Nat) : Int) := by rw [i1, iZ_add]; rfl
      have hv : ∀ x y : Int32, f_J6_compare_7cf53 σ x y = some (if x < y then -1 else if x = y then 0 else 1) := fun x y => by
        unfold f_J6_compare_7cf53
        by_cases g : x < y
        · rw [if_pos g, if_pos g]
        · rw [if_neg g, if_neg g]
          by_cases g3 : x = y
          · rw [if_pos g3, if_pos g3]
          · rw [if_neg g3, if_neg g3]
      refine ⟨(if tst l1 l2 (iZ (V i)) (iZ (U i)) = true then m ||| (1 : Int64) <<< ((iZ (i : Int)).toInt64 &&& 63) else m, iZ ((i + 1 : Nat) : Int)), ⟨rfl, hlt, ?_⟩, fun n' => ?_⟩
      · dsimp only
        by_cases q : tst l1 l2 (iZ (V i)) (iZ (U i)) = true
        · rw [if_pos q]
          exact mk_set hm (by omega) q
        · rw [if_neg q]
          exact mk_skip hm (Bool.eq_false_iff.mpr q)
      · show (if iZ (i : Int) < ms_i σ (ms_rf 276 4) 1 then _ else _) = _
        rw [z_rf4, iltT rfl hc (by omega) (by omega) (by omega), g1, Option.bind_some, z_rf5, g2, Option.bind_some, hv, Option.bind_some, e1]
        dsimp only
        unfold tst
        by_cases a1 : l1 = 0
        · rw [if_pos a1, if_pos a1]
          by_cases a2 : l2 = 0
          · rw [if_pos a2, if_pos a2]
            by_cases b1 : iZ (V i) < iZ (U i)
            · rw [if_pos b1, if_neg (by decide), if_neg (by simp [b1])]
            · rw [if_neg b1]
              by_cases b2 : iZ (V i) = iZ (U i)
              · rw [if_pos b2, if_neg (by decide), if_neg (by simp [b2])]
              · rw [if_neg b2, if_pos (by decide), if_pos (by simp only [b1, b2]; decide)]
          · rw [if_neg a2, if_neg a2]
            by_cases b1 : iZ (V i) < iZ (U i)
            · have b2 : ¬ iZ (V i) = iZ (U i) := fun e => by rw [e] at b1; exact Int32.lt_irrefl b1
              rw [if_pos b1, if_neg (by decide), if_neg (by simp [b2])]
            · rw [if_neg b1]
              by_cases b2 : iZ (V i) = iZ (U i)
              · rw [if_pos b2, if_pos rfl, if_pos (by simp [b2])]
              · rw [if_neg b2, if_neg (by decide), if_neg (by simp [b2])]
        · rw [if_neg a1, if_neg a1]
          by_cases b1 : iZ (V i) < iZ (U i)
          · rw [if_pos b1, if_pos (by decide), if_pos (by simp [b1])]
          · rw [if_neg b1]
            by_cases b2 : iZ (V i) = iZ (U i)
            · rw [if_pos b2, if_neg (by decide), if_neg (by simp [b1])]
            · rw [if_neg b2, if_neg (by decide), if_neg (by simp [b1])]
    · rintro ⟨m, x⟩ ⟨hx, hi, hm⟩
      dsimp only at hx hm ⊢
      subst hx
      have hc : ms_i σ 281 1 = iZ (len : Int) := by
        have := hV.cnt
        rw [upTo_length] at this
        exact this
      refine ⟨(m, σ), ⟨rfl, hm⟩, fun n' => ?_⟩
      show (if iZ (len : Int) < ms_i σ (ms_rf 276 4) 1 then _ else _) = _
      rw [z_rf4, iltF rfl hc (by omega) (by omega) (by omega)]
  obtain ⟨⟨h, s⟩, k1, k2, k3⟩ := key
  dsimp only at k2 k3
  subst k2
  exact ⟨h, k1, k3⟩
def oLt (x y : Int64) : Int64 := if lg_cmp x y < 0 then 1 else 0
def oEq (x y : Int64) : Int64 := if lg_cmp x y = 0 then 1 else 0
def oGt (x y : Int64) : Int64 := if 0 < lg_cmp x y then 1 else 0
theorem op_lt (σ : MsSt) (x y : Int64) : f_X12_operate σ (iZ (-20)) x y = some (oLt x y) := by
  unfold f_X12_operate oLt
  rw [if_neg (by decide), if_neg (by decide), if_neg (by decide), if_neg (by decide), if_pos (by decide)]
  split <;> rfl
theorem op_eq (σ : MsSt) (x y : Int64) : f_X12_operate σ (iZ (-21)) x y = some (oEq x y) := by
  unfold f_X12_operate oEq
  rw [if_neg (by decide), if_neg (by decide), if_neg (by decide), if_pos (by decide)]
  split <;> rfl
theorem op_gt (σ : MsSt) (x y : Int64) : f_X12_operate σ (iZ (-22)) x y = some (oGt x y) := by
  unfold f_X12_operate oGt
  rw [if_neg (by decide), if_neg (by decide), if_pos (by decide)]
  split <;> rfl
theorem op_and (σ : MsSt) (x y : Int64) : f_X12_operate σ (iZ (-24)) x y = some (x &&& y) := by
  unfold f_X12_operate
  rw [if_pos (by decide)]
theorem op_or (σ : MsSt) (x y : Int64) : f_X12_operate σ (iZ (-25)) x y = some (x ||| y) := by
  unfold f_X12_operate
  rw [if_neg (by decide), if_neg (by decide), if_neg (by decide), if_neg (by decide), if_neg (by decide)]
theorem o_lt {a b : Int} (a1 : 0 ≤ a) (a2 : a < 100000) (b1 : 0 ≤ b) (b2 : b < 100000) {l2 l1 : Int32} (h1 : ¬ l1 = 0) : oLt (jZ a) (jZ b) = if tst l1 l2 (iZ a) (iZ b) = true then 1 else 0 := by
  have e2 : (iZ a < iZ b) = (a < b) := by rw [iZ_lt (by omega) (by omega) (by omega) (by omega)]
  unfold oLt tst
  rw [lg_jZ (by omega) (by omega) (by omega) (by omega), if_neg h1]
  simp only [e2]
  by_cases g : a < b
  · rw [if_neg (show ¬ b < a by omega), if_neg (show ¬ a = b by omega), if_pos (by decide), if_pos (by simp [g])]
  · rw [if_neg (show ¬ (decide (a < b) = true) by simp [g])]
    by_cases g2 : b < a
    · rw [if_pos g2, if_neg (by decide)]
    · rw [if_neg g2, if_pos (show a = b by omega), if_neg (by decide)]
theorem o_eq {a b : Int} (a1 : 0 ≤ a) (a2 : a < 100000) (b1 : 0 ≤ b) (b2 : b < 100000) {l2 l1 : Int32} (h1 : l1 = 0) (h2 : ¬ l2 = 0) : oEq (jZ a) (jZ b) = if tst l1 l2 (iZ a) (iZ b) = true then 1 else 0 := by
  have e : (iZ a = iZ b) = (a = b) := by rw [iZ_eq (by omega) (by omega) (by omega) (by omega)]
  unfold oEq tst
  rw [lg_jZ (by omega) (by omega) (by omega) (by omega), if_pos h1, if_neg h2]
  simp only [e]
  by_cases g : a = b
  · rw [if_neg (show ¬ b < a by omega), if_pos g, if_pos rfl, if_pos (by simp [g])]
  · rw [if_neg (show ¬ (decide (a = b) = true) by simp [g])]
    by_cases g2 : b < a
    · rw [if_pos g2, if_neg (by decide)]
    · rw [if_neg g2, if_neg g, if_neg (by decide)]
theorem o_gt {a b : Int} (a1 : 0 ≤ a) (a2 : a < 100000) (b1 : 0 ≤ b) (b2 : b < 100000) {l2 l1 : Int32} (h1 : l1 = 0) (h2 : l2 = 0) : oGt (jZ a) (jZ b) = if tst l1 l2 (iZ a) (iZ b) = true then 1 else 0 := by
  have e : (iZ a = iZ b) = (a = b) := by rw [iZ_eq (by omega) (by omega) (by omega) (by omega)]
  have e2 : (iZ a < iZ b) = (a < b) := by rw [iZ_lt (by omega) (by omega) (by omega) (by omega)]
  unfold oGt tst
  rw [lg_jZ (by omega) (by omega) (by omega) (by omega), if_pos h1, if_pos h2]
  simp only [e, e2]
  by_cases g : b < a
  · rw [if_pos g, if_pos (by decide), if_pos (by simp; omega)]
  · rw [if_neg g, if_neg (show ¬ (decide (¬ a < b ∧ ¬ a = b) = true) by simp; omega)]
    by_cases g2 : a = b
    · rw [if_pos g2, if_neg (by decide)]
    · rw [if_neg g2, if_neg (by decide)]
def FQc : Nat → Nat → Prop := fun a k => FTc a k ∨ (281 ≤ a ∧ a < 285)
theorem fvq {r : Nat} (hr : r = 281 ∨ r = 283) {t t' : MsSt} (h : Fr (FVc r) t t') : Fr FQc t t' := h.mono fun a k g => by
  rcases g with g | g
  · exact Or.inl g
  · exact Or.inr (by omega)
theorem s_rest {V : Nat → Int} (o : Int) (l1 l2 : Int32) (hS : Sim σ τ B E) (hE : E ≤ 200) (hQ : QE σ w) (hV : Rw cI σ 281 60 (upTo V (qL w).length)) {C : List Int} {s : Nat} (hC : okT σ → ms_i σ 1 5 ≠ 0 ∧ OkQ σ τ E C s ∧ C.length ≤ s) : ∃ (σ' τ' : MsSt) (h : Int64) (U : Nat → Int), f_X4_readComparison_56 σ 276 l1 l2 = some (h, σ') ∧ ((f_X12_advance τ 493).bind fun s7 => (f_X12_compileValue s7 493).bind fun s8 => (f_X12_emit s8 493 (iZ o)).bind fun s9 => some s9) = some τ' ∧ Sim σ' τ' B E ∧ (okT σ' → okT σ ∧ (∀ k, k < (qL w).length → 0 ≤ U k ∧ U k < 100000) ∧ ∃ (c : List Int) (s' : Nat), OkQ σ' τ' E (C ++ c ++ [o]) s' ∧ s + c.length + 1 ≤ s' ∧ RunsV w c (fun k => jZ (U k))) ∧ MkIs h (fun k => tst l1 l2 (iZ (V k)) (iZ (U k))) (qL w).length ∧ Fr FQc σ σ' ∧ Fr FQm τ τ' := by
  obtain ⟨k2, k60, klt⟩ := qL_ok hQ.1.1
  obtain ⟨s1, t1, a1, a2, a3, a4, a5, a6⟩ := s_advance hS
  have hQ1 : QE s1 w := hQ.fr a5 (fun a k g => Or.inl g)
  have gtF : ∀ {t t' : MsSt}, Fr FTm t t' → Fr FQm t t' := fun h => h.mono fun a k g => Or.inl g
  have emF : ∀ {t t' : MsSt}, Fr (fun a k => a = 515 ∨ (a = 493 ∧ k = 40)) t t' → Fr FQm t t' := fun h => h.mono fun a k g => by rcases g with g | g; exact Or.inr (Or.inl g); exact Or.inr (Or.inr ⟨g.1, Or.inr g.2⟩)
  -- where both are behind the operator
  have step : ∃ s2 : Nat, okT s1 → OkQ s1 t1 E C s2 ∧ C.length + 1 ≤ s2 ∧ s + 1 ≤ s2 := by
    by_cases hk : okT σ
    · obtain ⟨c1, c2, c3⟩ := hC hk
      obtain ⟨s', p1, p2, p3⟩ := c2.adv hE hS hk a1 a6 (by unfold FTm; omega) (by unfold FTm; intros; omega)
      exact ⟨s', fun _ => ⟨p1, by have := p3 c1; omega, p3 c1⟩⟩
    · exact ⟨0, fun g => absurd (a4.mp g) hk⟩
  obtain ⟨s2, hs2⟩ := step
  obtain ⟨s3, t3, U, b1, b2, b3, b4, b5, b6, b7⟩ := s_value (r := 283) (Or.inr rfl) a3 hE hQ1 (fun g => ⟨(hs2 g).1, by have := (hs2 g).2.1; omega⟩)
  have V3 : Rw cI s3 281 60 (upTo V (qL w).length) := (hV.fr a5 (by unfold FTc; omega) (by unfold FTc; intros; omega)).fr b6 (by unfold FVc FTc; omega) (by unfold FVc FTc; intros; omega)
  obtain ⟨h, c1, c2⟩ := c_cmp k60 V3 b4 l1 l2
  have hcls : f_X4_readComparison_56 σ 276 l1 l2 = some (h, s3) := by
    unfold f_X4_readComparison_56
    rw [z_rf0, a1, Option.bind_some, z_rf5, b1, Option.bind_some, c1]
  have F3 : Fr FQc σ s3 := (a5.mono fun a k g => Or.inl g).trans (fvq (Or.inr rfl) b6)
  by_cases hk3 : okT s3
  · obtain ⟨d1, d2, c, s', d3, d4, d5⟩ := b5 hk3
    obtain ⟨e1, e2, e3⟩ := hs2 d1
    have e4 := d3.2.1
    obtain ⟨t4, g1, g2, g3⟩ := m_emitOk d3 (b3.m0.mpr hk3) (by rw [List.length_append]; omega) o
    refine ⟨s3, t4, h, U, hcls, ?_, b3.fr (Fr.refl (fun _ _ => False) _) g3 (by intros; exact id) (by intros; exact id) (by intros; omega) (by intros; omega), fun _ => ⟨a4.mp d1, d2, c, s', g2, by omega, d5⟩, c2, F3, ((gtF a6).trans b7).trans (emF g3)⟩
    rw [a2, Option.bind_some, b2, Option.bind_some, g1, Option.bind_some]
  · refine ⟨s3, t3, h, U, hcls, ?_, b3, fun o => absurd o hk3, c2, F3, (gtF a6).trans b7⟩
    rw [a2, Option.bind_some, b2, Option.bind_some, m_emitBad (fun g => hk3 (b3.m0.mp g)), Option.bind_some]
end Q4
