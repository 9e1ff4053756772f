/-! box, clashes, fullest -/
section Bq
variable {σ : MsSt} {w : Nat → Nat}
theorem nd4 {σ : MsSt} {k : Int} (k1 : -2147483648 ≤ k) (k2 : k < 2147483648) : f_X10_needIn σ (iZ k) 0 4 = some (if 0 ≤ k ∧ k ≤ 4 then none else some 0) := needIn0 (c := 4) k1 k2 (by omega) (by omega)
theorem rg4 {σ : MsSt} {k : Int} (k1 : -2147483648 ≤ k) (k2 : k < 2147483648) : f_X12_inRange σ (iZ k).toInt64 0 4 = some (b01 (0 ≤ k ∧ k ≤ 4)) := inRi (b := 0) (c := 4) k1 k2 (by omega) (by omega) (by omega) (by omega)
theorem up_get {α : Type} {e : α → Int} {f : Nat → α} {r N j c : Nat} (h : Rw e σ r N (upTo f c)) (hj : j < c) : f_X5_get σ r (iZ (j : Int)) = some (iZ (e (f j))) := by
  have := get_in h (k := j) (by rw [upTo_length]; exact hj)
  have e1 : (upTo f c)[j]'(by rw [upTo_length]; exact hj) = f j := by simp [upTo]
  rw [e1] at this
  exact this
theorem q_box (h : InvS σ w) (x y v u : Int32) : ∃ r σ1 b σ2, f_X10_box σ 0 x y v u = some (r, σ1) ∧ Fr FScr σ σ1 ∧ f_X12_box σ1 493 x y v u = some (b, σ2) ∧ Ok r (ms_i σ2 493 7) b ∧ Fr FScr σ1 σ2 := by
  obtain ⟨z, z1, z2, rfl⟩ := iZ_of x
  obtain ⟨k, k1, k2, rfl⟩ := iZ_of y
  obtain ⟨m, m1, m2, rfl⟩ := iZ_of v
  obtain ⟨p, p1, p2, rfl⟩ := iZ_of u
  have h4 := h.1.2.2.1
  by_cases q : 0 ≤ z ∧ z ≤ (w 1 : Int) - 1
  · obtain ⟨l, rfl⟩ : ∃ l : Nat, z = (l : Int) := ⟨z.toNat, by omega⟩
    have hl : l < 4 := by omega
    obtain ⟨n1, n2, n3, n4⟩ := lnok h.1 hl
    obtain ⟨s4, a1, ⟨a2, a3, a4, a5⟩, a6⟩ := c_needCT h hl q k1 k2
    have hF4 := fm_scr (F := 441) (Or.inl rfl) a6
    have h5 := h.fr hF4
    by_cases g : 0 ≤ k ∧ k ≤ ((bg w (dF w (ln w l))).length : Int) - 1
    · obtain ⟨c, rfl⟩ : ∃ c : Nat, k = (c : Int) := ⟨k.toNat, by omega⟩
      have hc : c < (bg w (dF w (ln w l))).length := by omega
      have h66 := n4 c hc
      rw [if_pos g] at a1
      obtain ⟨s5, b1, b2, b3⟩ := c_lay (a := 467) (F := 441) (Or.inl rfl) (Or.inl rfl) h.1.1 h5.2.1.1 n1 a3 hc (n4 c hc)
      have hF5 : Fr FScr σ s5 := hF4.trans (bx_scr (a := 467) (Or.inl rfl) b3)
      have h6 := h.fr hF5
      obtain ⟨x1, x2, x3, x4, x5, x6, x7, x8, x9⟩ := b2
      obtain ⟨w0, w1, w2, w3, w4, w5⟩ := bx_refs (a := 467) (Or.inl rfl)
      have e1 : ms_i s5 (467 + 1) 1 - 1 = iZ ((mks w (dF w (ln w l)) c : Int) - 1) := by rw [x1.cnt, upTo_length, i1, iZ_sub]
      obtain ⟨t4, c1, c2, c3, c4, c5⟩ := m_noClT h6 hl q k1 k2 g
      have hmk : f_X12_marksOf t4 493 (iZ (c : Int)) = some (iZ (mks w (dF w (ln w l)) c : Int)) := m_marksOf c2 hc
      have e2 : iZ (mks w (dF w (ln w l)) c : Int) - 1 = iZ ((mks w (dF w (ln w l)) c : Int) - 1) := by rw [i1, iZ_sub]
      by_cases qm : 0 ≤ m ∧ m ≤ (mks w (dF w (ln w l)) c : Int) - 1
      · obtain ⟨j, rfl⟩ : ∃ j : Nat, m = (j : Int) := ⟨m.toNat, by omega⟩
        have hj : j < mks w (dF w (ln w l)) c := by omega
        by_cases qp : 0 ≤ p ∧ p ≤ 4
        · obtain ⟨t5, f1, f2, f3⟩ := m_layBoxes (b := 505) (Or.inl rfl) c2 hc (n4 c hc)
          have L5 := c2.frb (Or.inl rfl) f3
          have hth : ms_i t5 493 7 = 0 := (f3.1 _ _ (by unfold FMb; omega)).trans c4
          have F7 : Fr FScr s5 t5 := c5.trans (mb_scr (Or.inl rfl) f3)
          obtain ⟨y1, y2, y3, y4⟩ := f2.1 j hj
          have h506 : ms_ln 506 = 1444 := m_ln.2.2.2.2.2.2.2.2.2.2.2.1
          have hp9 : p = 0 ∨ p = 1 ∨ p = 2 ∨ p = 3 ∨ p = 4 := by omega
          have hix : ∀ t : Nat, 1 ≤ t → t ≤ 4 → ms_ald t5 506 ((4 : Int32) * iZ (j : Int) + iZ (t : Int) - 1) = some (ms_i t5 506 (4 * j + (t - 1))) := by
            intro t t1 t2
            have e : (4 : Int32) * iZ (j : Int) + iZ (t : Int) - 1 = iZ (((4 * j + (t - 1) : Nat)) : Int) := by
              rw [i4, iZ_mul, iZ_add, i1, iZ_sub]
              congr 1
              omega
            rw [e, ald_iZ (by rw [h506]; omega) (by rw [h506]; omega)]
          rcases hp9 with rfl | rfl | rfl | rfl | rfl
          · have hfm : be w (dF w (ln w l)) (c + 1) ≤ (dF w (ln w l)).length := (be_lt hc).2.1
            have hle := (fm_le (w := w) (D := dF w (ln w l)) hc).2
            have hmk2 : mks w (dF w (ln w l)) c = be w (dF w (ln w l)) (c + 1) - fm w (dF w (ln w l)) c := rfl
            have e3 : iZ (fm w (dF w (ln w l)) c : Int) + iZ (j : Int) = iZ ((fm w (dF w (ln w l)) c + j : Nat) : Int) := by rw [iZ_add]; congr 1
            refine ⟨.inl (iZ (bxm w (dF w (ln w l)) c j : Int)), s5, iZ (bxm w (dF w (ln w l)) c j : Int), t5, ?_, hF5, ?_, ⟨hth, rfl⟩, F7⟩
            · unfold f_X10_box
              rw [a1, bu_n, x_rf8, x_rf6, b1, Option.bind_some, w1, e1, needIn0 m1 m2 (by omega) (by omega), btT qm, nd4 p1 p2, btT qp, if_pos (by decide), up_get x1 hj]
              rfl
            · unfold f_X12_box
              rw [c1, b2_s, if_pos rfl, hmk, Option.bind_some, e2, inRz m1 m2 (by omega) (by omega), Option.bind_some, ibT qm, rg4 p1 p2, Option.bind_some, ibT qp, m_rf18, f1, Option.bind_some, if_pos (by decide), m_firstMark L5 hc, Option.bind_some, e3, m_rf10, m_sgn L5 (k := fm w (dF w (ln w l)) c + j) (by omega)]
              rfl
          · refine ⟨.inl (iZ (bxL w (dF w (ln w l)) c j)), s5, iZ (bxL w (dF w (ln w l)) c j), t5, ?_, hF5, ?_, ⟨hth, rfl⟩, F7⟩
            · unfold f_X10_box
              rw [a1, bu_n, x_rf8, x_rf6, b1, Option.bind_some, w1, e1, needIn0 m1 m2 (by omega) (by omega), btT qm, nd4 p1 p2, btT qp, if_neg (by decide), if_pos (by decide), w2, up_get x2 hj]
              rfl
            · unfold f_X12_box
              rw [c1, b2_s, if_pos rfl, hmk, Option.bind_some, e2, inRz m1 m2 (by omega) (by omega), Option.bind_some, ibT qm, rg4 p1 p2, Option.bind_some, ibT qp, m_rf18, f1, Option.bind_some, if_neg (by decide), m_rfB]
              exact (congrArg (fun o : Option Int32 => o.bind fun v9 => some (v9, t5)) (hix 1 (by omega) (by omega))).trans (by rw [Option.bind_some]; exact congrArg (fun v => some (v, t5)) y1)
          · refine ⟨.inl (iZ (bxR w (dF w (ln w l)) c j)), s5, iZ (bxR w (dF w (ln w l)) c j), t5, ?_, hF5, ?_, ⟨hth, rfl⟩, F7⟩
            · unfold f_X10_box
              rw [a1, bu_n, x_rf8, x_rf6, b1, Option.bind_some, w1, e1, needIn0 m1 m2 (by omega) (by omega), btT qm, nd4 p1 p2, btT qp, if_neg (by decide), if_neg (by decide), if_pos (by decide), w3, up_get x3 hj]
              rfl
            · unfold f_X12_box
              rw [c1, b2_s, if_pos rfl, hmk, Option.bind_some, e2, inRz m1 m2 (by omega) (by omega), Option.bind_some, ibT qm, rg4 p1 p2, Option.bind_some, ibT qp, m_rf18, f1, Option.bind_some, if_neg (by decide), m_rfB]
              exact (congrArg (fun o : Option Int32 => o.bind fun v9 => some (v9, t5)) (hix 2 (by omega) (by omega))).trans (by rw [Option.bind_some]; exact congrArg (fun v => some (v, t5)) y2)
          · refine ⟨.inl (iZ (bxB w (dF w (ln w l)) c j)), s5, iZ (bxB w (dF w (ln w l)) c j), t5, ?_, hF5, ?_, ⟨hth, rfl⟩, F7⟩
            · unfold f_X10_box
              rw [a1, bu_n, x_rf8, x_rf6, b1, Option.bind_some, w1, e1, needIn0 m1 m2 (by omega) (by omega), btT qm, nd4 p1 p2, btT qp, if_neg (by decide), if_neg (by decide), if_neg (by decide), if_pos (by decide), w4, up_get x4 hj]
              rfl
            · unfold f_X12_box
              rw [c1, b2_s, if_pos rfl, hmk, Option.bind_some, e2, inRz m1 m2 (by omega) (by omega), Option.bind_some, ibT qm, rg4 p1 p2, Option.bind_some, ibT qp, m_rf18, f1, Option.bind_some, if_neg (by decide), m_rfB]
              exact (congrArg (fun o : Option Int32 => o.bind fun v9 => some (v9, t5)) (hix 3 (by omega) (by omega))).trans (by rw [Option.bind_some]; exact congrArg (fun v => some (v, t5)) y3)
          · refine ⟨.inl (iZ (bxT w (dF w (ln w l)) c j)), s5, iZ (bxT w (dF w (ln w l)) c j), t5, ?_, hF5, ?_, ⟨hth, rfl⟩, F7⟩
            · unfold f_X10_box
              rw [a1, bu_n, x_rf8, x_rf6, b1, Option.bind_some, w1, e1, needIn0 m1 m2 (by omega) (by omega), btT qm, nd4 p1 p2, btT qp, if_neg (by decide), if_neg (by decide), if_neg (by decide), if_neg (by decide), w5, up_get x5 hj]
              rfl
            · unfold f_X12_box
              rw [c1, b2_s, if_pos rfl, hmk, Option.bind_some, e2, inRz m1 m2 (by omega) (by omega), Option.bind_some, ibT qm, rg4 p1 p2, Option.bind_some, ibT qp, m_rf18, f1, Option.bind_some, if_neg (by decide), m_rfB]
              exact (congrArg (fun o : Option Int32 => o.bind fun v9 => some (v9, t5)) (hix 4 (by omega) (by omega))).trans (by rw [Option.bind_some]; exact congrArg (fun v => some (v, t5)) y4)
        · refine ⟨.inr 0, s5, 0, ms_si t4 493 7 1, ?_, hF5, ?_, i_si_same _ _ _ _, c5.trans (fr7 t4 1)⟩
          · unfold f_X10_box
            rw [a1, bu_n, x_rf8, x_rf6, b1, Option.bind_some, w1, e1, needIn0 m1 m2 (by omega) (by omega), btT qm, nd4 p1 p2, btF qp]
          · unfold f_X12_box
            rw [c1, b2_s, if_pos rfl, hmk, Option.bind_some, e2, inRz m1 m2 (by omega) (by omega), Option.bind_some, ibT qm, rg4 p1 p2, Option.bind_some, ibF qp, raise_s, b2_s]
      · refine ⟨.inr 0, s5, 0, ms_si t4 493 7 1, ?_, hF5, ?_, i_si_same _ _ _ _, c5.trans (fr7 t4 1)⟩
        · unfold f_X10_box
          rw [a1, bu_n, x_rf8, x_rf6, b1, Option.bind_some, w1, e1, needIn0 m1 m2 (by omega) (by omega), btF qm]
        · unfold f_X12_box
          rw [c1, b2_s, if_pos rfl, hmk, Option.bind_some, e2, inRz m1 m2 (by omega) (by omega), Option.bind_some, ibF qm, raise_s, b2_s]
    · rw [if_neg g] at a1
      obtain ⟨t4, e1, e2, e3⟩ := m_noClF h5 z1 z2 k1 k2 (fun g' => g g'.2)
      refine ⟨.inr 0, s4, 0, t4, ?_, hF4, ?_, e2, e3⟩
      · unfold f_X10_box
        rw [a1, bu_s]
      · unfold f_X12_box
        rw [e1, b2_s, if_neg (by decide)]
  · obtain ⟨t4, e1, e2, e3⟩ := m_noClF h z1 z2 k1 k2 (fun g' => q g'.1)
    refine ⟨.inr 0, σ, 0, t4, ?_, Fr.refl _ _, ?_, e2, e3⟩
    · unfold f_X10_box
      rw [c_needCF h z1 z2 q, bu_s]
    · unfold f_X12_box
      rw [e1, b2_s, if_neg (by decide)]
theorem q_clashes (h : InvS σ w) (x y : Int32) : ∃ r σ1 b σ2, f_X10_clashes σ 0 x y = some (r, σ1) ∧ Fr FScr σ σ1 ∧ f_X12_clashes σ1 493 x y = some (b, σ2) ∧ Ok r (ms_i σ2 493 7) b ∧ Fr FScr σ1 σ2 := by
  obtain ⟨z, z1, z2, rfl⟩ := iZ_of x
  obtain ⟨k, k1, k2, rfl⟩ := iZ_of y
  have h4 := h.1.2.2.1
  have bad : ∀ s : MsSt, f_X12_clashes_24 s 493 (iZ k) 493 = some (0, ms_si s 493 7 1) := by
    intro s
    unfold f_X12_clashes_24 f_X12_clashes_25
    rw [nm_s, i_si_same, if_neg (by decide)]
  by_cases q : 0 ≤ z ∧ z ≤ (w 1 : Int) - 1
  · obtain ⟨l, rfl⟩ : ∃ l : Nat, z = (l : Int) := ⟨z.toNat, by omega⟩
    have hl : l < 4 := by omega
    obtain ⟨n1, n2, n3, n4⟩ := lnok h.1 hl
    obtain ⟨s4, a1, ⟨a2, a3, a4, a5⟩, a6⟩ := c_needCT h hl q k1 k2
    have hF4 := fm_scr (F := 441) (Or.inl rfl) a6
    have h5 := h.fr hF4
    have eN : ms_i s4 (ms_rf 441 4) 1 - 2 = iZ (((bg w (dF w (ln w l))).length : Int) - 2) := by rw [(fm_refs (F := 441) (Or.inl rfl)).2.2.2.2.1, a3.2.1.cnt, i2, iZ_sub]
    by_cases g : 0 ≤ k ∧ k ≤ ((bg w (dF w (ln w l))).length : Int) - 1
    · obtain ⟨c, rfl⟩ : ∃ c : Nat, k = (c : Int) := ⟨k.toNat, by omega⟩
      have hc : c < (bg w (dF w (ln w l))).length := by omega
      rw [if_pos g] at a1
      by_cases g2 : c + 1 < (bg w (dF w (ln w l))).length
      · obtain ⟨s5, b1, b2⟩ := c_clashNext h.1.1 h5.2.1.1 n1 a3 n4 g2
        have hF5 : Fr FScr σ s5 := hF4.trans (b2.mono fun a k q => by have q1 := q.1; have q2 := q.2; unfold FScr; omega)
        obtain ⟨t3, c1, c2, c3, c4⟩ := m_isCl (h.fr hF5) hl q k1 k2
        have F1 : Fr (fun a k => a = 493 ∧ k = 7) t3 (ms_si t3 493 7 0) := Fr.si _ _ ⟨rfl, rfl⟩
        have L1 : LcS (ms_si t3 493 7 0) w (w 0) (dF w (ln w l)) := c2.fr F1 (by intros; omega) (by intros; omega) (by intros; omega) (by omega) (by omega)
        obtain ⟨t4, d1, d2⟩ := m_isClash L1 g2 n4
        have e2 : ms_i t3 493 17 - 1 = iZ (((bg w (dF w (ln w l))).length : Int) - 1) := by rw [c2.2.2.2.2.2.2.2.2.2, i1, iZ_sub]
        refine ⟨.inl (b01 (clB w (dF w (ln w l)) c = true)), s5, b01 (clB w (dF w (ln w l)) c = true), t4, ?_, hF5, ?_, ⟨?_, rfl⟩, (c4.trans (fr7 t3 0)).trans (d2.mono fun a k q => by unfold FScr; omega)⟩
        · unfold f_X10_clashes
          rw [a1, bu_n, x_rf6, eN, needIn0 k1 k2 (by omega) (by omega), btT (by omega), b1, b2_s, bz_b01, Option.bind_some]
        · unfold f_X12_clashes
          rw [c1, b2_s, ibT g, iltT rfl e2 (by omega) (by omega) (by omega)]
          unfold f_X12_clashes_25
          rw [nm_s, i_si_same, if_pos rfl, d1, b2_s, ib01]
          unfold b01
          by_cases qc : clB w (dF w (ln w l)) c = true
          · rw [if_pos qc, if_pos qc]
          · rw [if_neg qc, if_neg qc]
        · rw [d2.1 _ _ (by omega), i_si_same]
      · obtain ⟨t3, c1, c2, c3, c4⟩ := m_isCl h5 hl q k1 k2
        have e2 : ms_i t3 493 17 - 1 = iZ (((bg w (dF w (ln w l))).length : Int) - 1) := by rw [c2.2.2.2.2.2.2.2.2.2, i1, iZ_sub]
        refine ⟨.inr 0, s4, 0, ms_si t3 493 7 1, ?_, hF4, ?_, i_si_same _ _ _ _, c4.trans (fr7 t3 1)⟩
        · unfold f_X10_clashes
          rw [a1, bu_n, x_rf6, eN, needIn0 k1 k2 (by omega) (by omega), btF (by omega)]
        · unfold f_X12_clashes
          rw [c1, b2_s, ibT g, iltF rfl e2 (by omega) (by omega) (by omega), bad]
    · obtain ⟨t3, c1, c2, c3, c4⟩ := m_isCl h5 hl q k1 k2
      rw [if_neg g] at a1
      refine ⟨.inr 0, s4, 0, ms_si t3 493 7 1, ?_, hF4, ?_, i_si_same _ _ _ _, c4.trans (fr7 t3 1)⟩
      · unfold f_X10_clashes
        rw [a1, bu_s]
      · unfold f_X12_clashes
        rw [c1, b2_s, ibF g, bad]
  · refine ⟨.inr 0, σ, 0, ms_si σ 493 7 1, ?_, Fr.refl _ _, ?_, i_si_same _ _ _ _, fr7 σ 1⟩
    · unfold f_X10_clashes
      rw [c_needCF h z1 z2 q, bu_s]
    · unfold f_X12_clashes
      rw [m_isClF h z1 z2 q, b2_s, if_pos rfl, bad]
/-- the fullest: the first cluster with the most marks (-1: none) -/
def flC (w : Nat → Nat) (D : List Nat) : Nat → Int
  | 0 => -1
  | c + 1 => if flC w D c = -1 then (c : Int) else if mks w D (flC w D c).toNat < mks w D c then (c : Int) else flC w D c
theorem flC_bd (w : Nat → Nat) (D : List Nat) : ∀ c, -1 ≤ flC w D c ∧ flC w D c < c ∧ (flC w D c = -1 ↔ c = 0) := by
  intro c
  induction c with
  | zero => exact ⟨Int.le_refl _, by show (-1 : Int) < 0; omega, ⟨fun _ => rfl, fun _ => rfl⟩⟩
  | succ c ih =>
    unfold flC
    by_cases q : flC w D c = -1
    · rw [if_pos q]; omega
    · rw [if_neg q]
      split <;> omega
theorem q_fullest (h : InvS σ w) (x : Int32) : ∃ r σ1 b σ2, f_X10_fullest σ 0 x = some (r, σ1) ∧ Fr FScr σ σ1 ∧ f_X12_fullest σ1 493 x = some (b, σ2) ∧ Ok r (ms_i σ2 493 7) b ∧ Fr FScr σ1 σ2 := by
  obtain ⟨z, z1, z2, rfl⟩ := iZ_of x
  have h4 := h.1.2.2.1
  by_cases q : 0 ≤ z ∧ z ≤ (w 1 : Int) - 1
  · obtain ⟨l, rfl⟩ : ∃ l : Nat, z = (l : Int) := ⟨z.toNat, by omega⟩
    have hl : l < 4 := by omega
    obtain ⟨n1, n2, n3, n4⟩ := lnok h.1 hl
    have hn1000 : ∀ y ∈ dF w (ln w l), y < 1000 := fun y hy => by have := (n1 y hy).1; have := h.1.1.1; omega
    obtain ⟨s4, a1, ⟨a2, a3, a4, a5⟩, a6⟩ := c_deriveL h (F := 441) (Or.inl rfl) hl
    have hF4 := fm_scr (F := 441) (Or.inl rfl) a6
    have h5 := h.fr hF4
    have h6 := h5.fr (fr7 s4 0)
    obtain ⟨t3, b1, b2, b3, b4, b5⟩ := m_lcL h6 hl
    refine ⟨.inl (iZ (flC w (dF w (ln w l)) (bg w (dF w (ln w l))).length)), s4, iZ (flC w (dF w (ln w l)) (bg w (dF w (ln w l))).length), t3, ?_, hF4, ?_, ⟨?_, rfl⟩, (fr7 s4 0).trans (lc_scr b5)⟩
    · unfold f_X10_fullest
      rw [needLine_s h z1 z2, btT q, x_rf1, lineAt_s (a := 3) (Or.inl rfl) hl, Option.bind_some, x_rf6, a1, Option.bind_some]
      refine lpx (S := Int32 × Int32 × Int32) (f := fun n s => f_X10_fullest_28 n s4 0 s.1 s.2.1 s.2.2) (fun i s => s.2.2 = iZ (i : Int) ∧ i ≤ (bg w (dF w (ln w l))).length ∧ s.1 = iZ (flC w (dF w (ln w l)) i) ∧ s.2.1 = iZ (if i = 0 then -1 else (mks w (dF w (ln w l)) (flC w (dF w (ln w l)) i).toNat : Int))) (bg w (dF w (ln w l))).length ?_ ?_ (bg w (dF w (ln w l))).length 0 (-1, -1, 0) ms_fuel ⟨rfl, Nat.zero_le _, rfl, rfl⟩ (by omega) (by show _ < 100000; omega)
      · rintro i ⟨a, b, x⟩ ⟨hx, hi, ha, hb⟩ hlt
        dsimp only at hx ha hb ⊢
        subst hx; subst ha; subst hb
        have hfl := flC_bd w (dF w (ln w l)) i
        have hmi : mks w (dF w (ln w l)) i ≤ 66 := n4 i hlt
        have hmk : f_X1_marksIn s4 441 (iZ (i : Int)) = some (iZ (mks w (dF w (ln w l)) i : Int)) := c_marksIn a3 (Or.inl rfl) hlt hn1000
        refine ⟨(iZ (flC w (dF w (ln w l)) (i + 1)), iZ (if i + 1 = 0 then -1 else (mks w (dF w (ln w l)) (flC w (dF w (ln w l)) (i + 1)).toNat : Int)), iZ ((i + 1 : Nat) : Int)), ⟨rfl, hlt, rfl, rfl⟩, fun n' => ?_⟩
        have e1 : iZ (i : Int) + 1 = iZ ((i + 1 : Nat) : Int) := by rw [i1, iZ_add]; rfl
        have ef : flC w (dF w (ln w l)) (i + 1) = if flC w (dF w (ln w l)) i = -1 then (i : Int) else if mks w (dF w (ln w l)) (flC w (dF w (ln w l)) i).toNat < mks w (dF w (ln w l)) i then (i : Int) else flC w (dF w (ln w l)) i := rfl
        show (if iZ (i : Int) < ms_i s4 (ms_rf (ms_rf 0 6) 4) 1 then _ else _) = _
        rw [x_rf6, (fm_refs (F := 441) (Or.inl rfl)).2.2.2.2.1, iltT rfl a3.2.1.cnt (by omega) (by omega) (by omega), hmk, Option.bind_some, e1, ef, if_neg (Nat.succ_ne_zero i)]
        by_cases q0 : i = 0
        · rw [if_pos q0, iltT rfl rfl (by omega) (by omega) (by omega), if_pos (hfl.2.2.mpr q0), Int.toNat_natCast]
          rfl
        · have hm1 : ¬ flC w (dF w (ln w l)) i = -1 := fun g => q0 (hfl.2.2.mp g)
          have hmf : mks w (dF w (ln w l)) (flC w (dF w (ln w l)) i).toNat ≤ 66 := n4 _ (by omega)
          rw [if_neg q0, if_neg hm1]
          by_cases q2 : mks w (dF w (ln w l)) (flC w (dF w (ln w l)) i).toNat < mks w (dF w (ln w l)) i
          · rw [iltT rfl rfl (by omega) (by omega) (by omega), if_pos q2, Int.toNat_natCast]
            rfl
          · rw [iltF rfl rfl (by omega) (by omega) (by omega), if_neg q2]
      · rintro ⟨a, b, x⟩ ⟨hx, hi, ha, hb⟩ n'
        dsimp only at hx ha hb ⊢
        subst hx; subst ha; subst hb
        show (if iZ ((bg w (dF w (ln w l))).length : Int) < ms_i s4 (ms_rf (ms_rf 0 6) 4) 1 then _ else _) = _
        rw [x_rf6, (fm_refs (F := 441) (Or.inl rfl)).2.2.2.2.1, iltF rfl a3.2.1.cnt (by omega) (by omega) (by omega)]
    · unfold f_X12_fullest
      rw [m_okLine h5 q, b2_s, if_pos rfl, b1, Option.bind_some]
      refine lpx (S := Int32 × Int32) (f := fun n s => f_X12_fullest_19 n t3 493 s.1 s.2) (fun i s => s.2 = iZ (i : Int) ∧ i ≤ (bg w (dF w (ln w l))).length ∧ s.1 = iZ (flC w (dF w (ln w l)) i)) (bg w (dF w (ln w l))).length ?_ ?_ (bg w (dF w (ln w l))).length 0 (-1, 0) ms_fuel ⟨rfl, Nat.zero_le _, rfl⟩ (by omega) (by show _ < 100000; omega)
      · rintro i ⟨a, x⟩ ⟨hx, hi, ha⟩ hlt
        dsimp only at hx ha ⊢
        subst hx; subst ha
        have hfl := flC_bd w (dF w (ln w l)) i
        have hmi : mks w (dF w (ln w l)) i ≤ 66 := n4 i hlt
        have hmk : f_X12_marksOf t3 493 (iZ (i : Int)) = some (iZ (mks w (dF w (ln w l)) i : Int)) := m_marksOf b2 hlt
        refine ⟨(iZ (flC w (dF w (ln w l)) (i + 1)), iZ ((i + 1 : Nat) : Int)), ⟨rfl, hlt, rfl⟩, fun n' => ?_⟩
        have e1 : iZ (i : Int) + 1 = iZ ((i + 1 : Nat) : Int) := by rw [i1, iZ_add]; rfl
        have ef : flC w (dF w (ln w l)) (i + 1) = if flC w (dF w (ln w l)) i = -1 then (i : Int) else if mks w (dF w (ln w l)) (flC w (dF w (ln w l)) i).toNat < mks w (dF w (ln w l)) i then (i : Int) else flC w (dF w (ln w l)) i := rfl
        show (if iZ (i : Int) < ms_i t3 493 17 then _ else _) = _
        rw [iltT rfl b2.2.2.2.2.2.2.2.2.2 (by omega) (by omega) (by omega), e1, ef]
        by_cases q0 : flC w (dF w (ln w l)) i = -1
        · rw [ieqT rfl im1 q0, if_pos q0]
        · have hfn : (flC w (dF w (ln w l)) i).toNat < (bg w (dF w (ln w l))).length := by omega
          have hmf : mks w (dF w (ln w l)) (flC w (dF w (ln w l)) i).toNat ≤ 66 := n4 _ hfn
          have hmk2 : f_X12_marksOf t3 493 (iZ (flC w (dF w (ln w l)) i)) = some (iZ (mks w (dF w (ln w l)) (flC w (dF w (ln w l)) i).toNat : Int)) := by
            have := m_marksOf b2 hfn
            rw [Int.toNat_of_nonneg (by omega)] at this
            exact this
          rw [ieqF rfl im1 q0 (by omega) (by omega) (by omega) (by omega), hmk, Option.bind_some, hmk2, Option.bind_some, if_neg q0]
          by_cases q2 : mks w (dF w (ln w l)) (flC w (dF w (ln w l)) i).toNat < mks w (dF w (ln w l)) i
          · rw [iltT rfl rfl (by omega) (by omega) (by omega), if_pos q2]
          · rw [iltF rfl rfl (by omega) (by omega) (by omega), if_neg q2]
      · rintro ⟨a, x⟩ ⟨hx, hi, ha⟩ n'
        dsimp only at hx ha ⊢
        subst hx; subst ha
        show (if iZ ((bg w (dF w (ln w l))).length : Int) < ms_i t3 493 17 then _ else _) = _
        rw [iltF rfl b2.2.2.2.2.2.2.2.2.2 (by omega) (by omega) (by omega)]
    · rw [b5.1 _ _ (by unfold FLC; omega), i_si_same]
  · refine ⟨.inr 0, σ, 0, ms_si σ 493 7 1, ?_, Fr.refl _ _, ?_, i_si_same _ _ _ _, fr7 σ 1⟩
    · unfold f_X10_fullest
      rw [needLine_s h z1 z2, btF q]
    · unfold f_X12_fullest
      rw [m_noLineF h z1 z2 q, b2_s, if_neg (by decide)]
end Bq
