/-! feed -/
section Fd
variable {σ : MsSt} {w : Nat → Nat}
theorem byte_c (x : Int32) : x.toInt8.toInt32.toInt8.toInt32 = iZ (sB (x.toBitVec.toNat % 256)) := by
  have hb : x.toBitVec.toNat < 4294967296 := x.toBitVec.isLt
  have ht : x.toInt = if 2 * x.toBitVec.toNat < 2 ^ 32 then (x.toBitVec.toNat : Int) else (x.toBitVec.toNat : Int) - (2 ^ 32 : Nat) := BitVec.toInt_eq_toNat_cond x.toBitVec
  have hs := sB_lo (x.toBitVec.toNat % 256) (Nat.mod_lt _ (by omega))
  rw [Int8.toInt8_toInt32, ← Int32.toInt_inj, Int8.toInt_toInt32, Int32.toInt_toInt8, iZ_toInt (by omega) (by omega), Int.bmod_def]
  unfold sB
  split at ht <;> split <;> split <;> omega
def bt (x : Int32) (j : Nat) : Nat := (x >>> (iZ (24 - 8 * (j : Int)) &&& 31)).toBitVec.toNat % 256
def FApp : Nat → Nat → Prop := fun a k => a = 2 ∨ (a = 1 ∧ k = 1)
theorem t_ln : ms_rf 1 0 = 2 ∧ ms_ln 2 = 900 := by decide +kernel
theorem c_append {B : Nat → Nat} {e : Nat} {x : Int32} (h1 : ms_i σ 1 1 = iZ (e : Int)) (h2 : ∀ k, k < e → ms_i σ 2 k = iZ (sB (B k))) (he : e + 4 ≤ 900) (hx : ∀ j, j < 4 → B (e + j) = bt x j) : ∃ σ', f_X9_append σ 1 x = some σ' ∧ ms_i σ' 1 1 = iZ ((e + 4 : Nat) : Int) ∧ (∀ k, k < e + 4 → ms_i σ' 2 k = iZ (sB (B k))) ∧ Fr FApp σ σ' := by
  obtain ⟨r0, l2⟩ := t_ln
  unfold f_X9_append
  refine lp0 (S := MsSt × Int32) (f := fun n t => f_X9_append_3 n t.1 1 x t.2) (Q := fun σ' => ms_i σ' 1 1 = iZ ((e + 4 : Nat) : Int) ∧ (∀ k, k < e + 4 → ms_i σ' 2 k = iZ (sB (B k))) ∧ Fr FApp σ σ')
    (fun j t => t.2 = iZ (24 - 8 * (j : Int)) ∧ j ≤ 4 ∧ ms_i t.1 1 1 = iZ ((e + j : Nat) : Int) ∧ (∀ k, k < e + j → ms_i t.1 2 k = iZ (sB (B k))) ∧ Fr FApp σ t.1) 4 (s := (σ, 24)) ⟨rfl, by omega, h1, h2, Fr.refl _ _⟩ (by omega) ?_ ?_
  · rintro j ⟨t, y⟩ ⟨hy, hj, g1, g2, hF⟩ hlt
    dsimp only at hy g1 g2 hF ⊢
    subst hy
    left
    have e1 : iZ (24 - 8 * (j : Int)) + (-8) = iZ (24 - 8 * ((j + 1 : Nat) : Int)) := by
      rw [show (-8 : Int32) = iZ (-8) from rfl, iZ_add]
      congr 1
      omega
    have e2 : iZ ((e + j : Nat) : Int) + 1 = iZ ((e + (j + 1) : Nat) : Int) := by rw [i1, iZ_add]; rfl
    have ev : (x >>> (iZ (24 - 8 * (j : Int)) &&& 31)).toInt8.toInt32.toInt8.toInt32 = iZ (sB (B (e + j))) := by rw [byte_c, hx j hlt]; rfl
    refine ⟨(ms_si (ms_si t 2 (e + j) (iZ (sB (B (e + j))))) 1 1 (iZ ((e + (j + 1) : Nat) : Int)), iZ (24 - 8 * ((j + 1 : Nat) : Int))), ⟨rfl, hlt, i_si_same _ _ _ _, fun k hk => ?_, (hF.trans (Fr.si _ _ (Or.inl rfl))).trans (Fr.si _ _ (Or.inr ⟨rfl, rfl⟩))⟩, fun n' => ?_⟩
    · rw [i_si_ne (Or.inl (by omega)), ms_i_si]
      by_cases q : k = e + j
      · rw [if_pos ⟨rfl, q⟩, q]
      · rw [if_neg (by omega)]
        exact g2 k (by omega)
    · show (if iZ (24 - 8 * (j : Int)) < 0 then _ else _) = _
      rw [iltF rfl i0 (by omega) (by omega) (by omega), iltF g1 i0 (by omega) (by omega) (by omega), r0, l2, iltT g1 (iZ_nat 900) (by omega) (by omega) (by omega), ev, g1, ast_iZ (by omega) (by omega), Option.bind_some, nm_s, i_si_ne (Or.inl (by omega)), g1, e1, e2]
  · rintro ⟨t, y⟩ ⟨hy, hj, g1, g2, hF⟩
    dsimp only at hy g1 g2 hF ⊢
    subst hy
    refine ⟨t, ⟨g1, g2, hF⟩, fun n' => ?_⟩
    show (if iZ (24 - 8 * ((4 : Nat) : Int)) < 0 then _ else _) = _
    rw [iltT rfl i0 (by omega) (by omega) (by omega)]
def wd5 (a b c d e : Int32) (i : Nat) : Int32 := if i < 4 then a else if i < 8 then b else if i < 12 then c else if i < 16 then d else e
theorem rem4 : ∀ i : Nat, i < 20 → ms_irem (iZ (i : Int)) 4 = some (iZ ((i % 4 : Nat) : Int)) := by decide +kernel
theorem sh24 (j : Nat) : (24 : Int32) - 8 * iZ (j : Int) = iZ (24 - 8 * (j : Int)) := by
  rw [show (24 : Int32) = iZ 24 from rfl, show (8 : Int32) = iZ 8 from rfl, iZ_mul, iZ_sub]
def FFed : Nat → Nat → Prop := fun a k => a = 512 ∨ (a = 493 ∧ k = 27)
theorem m_feed23 {B : Nat → Nat} {e : Nat} {a b c d f : Int32} (h1 : ms_i σ 493 27 = iZ (e : Int)) (h2 : ∀ k, k < e → ms_i σ 512 k = iZ (B k : Int)) (he : e + 20 ≤ 900) (hx : ∀ j, j < 20 → B (e + j) = bt (wd5 a b c d f j) (j % 4)) : ∃ σ', f_X12_feed_23 ms_fuel σ 493 a b c d f 0 = some (iZ ((e + 20 : Nat) : Int), σ') ∧ ms_i σ' 493 27 = iZ ((e + 20 : Nat) : Int) ∧ (∀ k, k < e + 20 → ms_i σ' 512 k = iZ (B k : Int)) ∧ Fr FFed σ σ' := by
  have l2 : ms_ln 512 = 900 := m_ln.2.2.2.2.2.2.2.2.2.2.2.2.2.2.2.2.1
  have key := lp0 (S := MsSt × Int32) (f := fun n t => f_X12_feed_23 n t.1 493 a b c d f t.2) (Q := fun r => r.1 = iZ ((e + 20 : Nat) : Int) ∧ ms_i r.2 493 27 = iZ ((e + 20 : Nat) : Int) ∧ (∀ k, k < e + 20 → ms_i r.2 512 k = iZ (B k : Int)) ∧ Fr FFed σ r.2)
    (fun j t => t.2 = iZ (j : Int) ∧ j ≤ 20 ∧ ms_i t.1 493 27 = iZ ((e + j : Nat) : Int) ∧ (∀ k, k < e + j → ms_i t.1 512 k = iZ (B k : Int)) ∧ Fr FFed σ t.1) 20 (s := (σ, 0)) ⟨rfl, by omega, h1, h2, Fr.refl _ _⟩ (by omega) ?_ ?_
  · obtain ⟨⟨r1, r2⟩, g1, g2, g3⟩ := key
    dsimp only at g2
    subst g2
    exact ⟨r2, g1, g3⟩
  · rintro j ⟨t, y⟩ ⟨hy, hj, g1, g2, hF⟩ hlt
    dsimp only at hy g1 g2 hF ⊢
    subst hy
    left
    have e1 : iZ (j : Int) + 1 = iZ ((j + 1 : Nat) : Int) := by rw [i1, iZ_add]; rfl
    have e2 : iZ ((e + j : Nat) : Int) + 1 = iZ ((e + (j + 1) : Nat) : Int) := by rw [i1, iZ_add]; rfl
    have ev : (wd5 a b c d f j >>> (((24 : Int32) - 8 * iZ ((j % 4 : Nat) : Int)) &&& 31)) &&& 255 = iZ (B (e + j) : Int) := by rw [and255, sh24, hx j hlt]; rfl
    have h76 : ∀ k, f_X12_feed_76 k t 493 a b c d f (iZ (j : Int)) (wd5 a b c d f j) = k (ms_si (ms_si t 512 (e + j) (iZ (B (e + j) : Int))) 493 27 (iZ ((e + (j + 1) : Nat) : Int))) 493 a b c d f (iZ ((j + 1 : Nat) : Int)) := by
      intro k
      unfold f_X12_feed_76
      rw [rem4 j hlt, Option.bind_some, ev, m_rf26, g1, ast_iZ (by omega) (by omega), Option.bind_some, nm_s, i_si_ne (Or.inl (by omega)), g1, e1, e2]
    refine ⟨(ms_si (ms_si t 512 (e + j) (iZ (B (e + j) : Int))) 493 27 (iZ ((e + (j + 1) : Nat) : Int)), iZ ((j + 1 : Nat) : Int)), ⟨rfl, hlt, i_si_same _ _ _ _, fun k hk => ?_, (hF.trans (Fr.si _ _ (Or.inl rfl))).trans (Fr.si _ _ (Or.inr ⟨rfl, rfl⟩))⟩, fun n' => ?_⟩
    · rw [i_si_ne (Or.inl (by omega)), ms_i_si]
      by_cases q : k = e + j
      · rw [if_pos ⟨rfl, q⟩, q]
      · rw [if_neg (by omega)]
        exact g2 k (by omega)
    · rw [← h76 (f_X12_feed_23 n')]
      show (if iZ (j : Int) < (20 : Int32) then _ else _) = _
      rw [iltT rfl (show (20 : Int32) = iZ 20 from rfl) (by omega) (by omega) (by omega)]
      unfold wd5
      by_cases q1 : j < 4
      · rw [iltT rfl i4 (by omega) (by omega) (by omega), if_pos q1]
      · rw [iltF rfl i4 (by omega) (by omega) (by omega), if_neg q1]
        by_cases q2 : j < 8
        · rw [iltT rfl (show (8 : Int32) = iZ 8 from rfl) (by omega) (by omega) (by omega), if_pos q2]
        · rw [iltF rfl (show (8 : Int32) = iZ 8 from rfl) (by omega) (by omega) (by omega), if_neg q2]
          by_cases q3 : j < 12
          · rw [iltT rfl (show (12 : Int32) = iZ 12 from rfl) (by omega) (by omega) (by omega), if_pos q3]
          · rw [iltF rfl (show (12 : Int32) = iZ 12 from rfl) (by omega) (by omega) (by omega), if_neg q3]
            by_cases q4 : j < 16
            · rw [iltT rfl (show (16 : Int32) = iZ 16 from rfl) (by omega) (by omega) (by omega), if_pos q4]
            · rw [iltF rfl (show (16 : Int32) = iZ 16 from rfl) (by omega) (by omega) (by omega), if_neg q4]
  · rintro ⟨t, y⟩ ⟨hy, hj, g1, g2, hF⟩
    dsimp only at hy g1 g2 hF ⊢
    subst hy
    refine ⟨(iZ ((e + 20 : Nat) : Int), t), ⟨rfl, g1, g2, hF⟩, fun n' => ?_⟩
    show (if iZ ((20 : Nat) : Int) < (20 : Int32) then _ else _) = _
    rw [iltF rfl (show (20 : Int32) = iZ 20 from rfl) (by omega) (by omega) (by omega), g1]
theorem q_feed (h : InvF σ w) (a b c d f : Int32) : ∃ r σ1 σ2, f_X10_feed σ 0 a b c d f = some (r, σ1) ∧ f_X12_feed σ1 493 a b c d f = some (r, σ2) ∧ ms_i σ2 493 7 = 0 ∧ InvF σ2 w := by
  have h0 := h
  obtain ⟨⟨p, n, H, b', S, hM⟩, h2, ⟨B0, e, u1, u2, u3, u4⟩, h4, h5⟩ := h
  have h40 := hM.1.1.1.1
  obtain ⟨r0, l2⟩ := t_ln
  have i900 : (900 : Int32) = iZ 900 := rfl
  have i20 : (20 : Int32) = iZ 20 := rfl
  have e20 : ms_i σ 1 1 + 20 = iZ ((e + 20 : Nat) : Int) := by rw [u1, i20, iZ_add]; rfl
  by_cases g : e + 20 ≤ 900
  · -- the bytes as they are then
    obtain ⟨B, hB⟩ : ∃ B : Nat → Nat, B = fun k => if k < e then B0 k else bt (wd5 a b c d f (k - e)) ((k - e) % 4) := ⟨_, rfl⟩
    have hB0 : ∀ k, k < e → B k = B0 k := fun k hk => by rw [hB]; exact if_pos hk
    have hB1 : ∀ j, B (e + j) = bt (wd5 a b c d f j) (j % 4) := fun j => by
      rw [hB]
      show (if e + j < e then _ else _) = _
      rw [if_neg (by omega), show e + j - e = j from by omega]
    have ap : ∀ (s : MsSt) (m : Nat) (x : Int32), m < 5 → (∀ j, j < 4 → wd5 a b c d f (4 * m + j) = x) → ms_i s 1 1 = iZ ((e + 4 * m : Nat) : Int) → (∀ k, k < e + 4 * m → ms_i s 2 k = iZ (sB (B k))) → Fr FApp σ s → ∃ s', f_X9_append s 1 x = some s' ∧ ms_i s' 1 1 = iZ ((e + 4 * (m + 1) : Nat) : Int) ∧ (∀ k, k < e + 4 * (m + 1) → ms_i s' 2 k = iZ (sB (B k))) ∧ Fr FApp σ s' := by
      intro s m x hm hw h1 h2 hF
      obtain ⟨s', a1, a2, a3, a4⟩ := c_append (x := x) h1 h2 (by omega) (fun j hj => by
        rw [show e + 4 * m + j = e + (4 * m + j) from by omega, hB1, hw j hj, show (4 * m + j) % 4 = j from by omega])
      exact ⟨s', a1, a2, a3, hF.trans a4⟩
    obtain ⟨s1, a1, a2, a3, a4⟩ := ap σ 0 a (by omega) (fun j hj => by unfold wd5; rw [if_pos (by omega)]) u1 (fun k hk => by rw [hB0 k (by omega)]; exact (u4 k (by omega)).2.1) (Fr.refl _ _)
    obtain ⟨s2, b1, b2, b3, b4⟩ := ap s1 1 b (by omega) (fun j hj => by unfold wd5; rw [if_neg (by omega), if_pos (by omega)]) a2 a3 a4
    obtain ⟨s3, c1, c2, c3, c4⟩ := ap s2 2 c (by omega) (fun j hj => by unfold wd5; rw [if_neg (by omega), if_neg (by omega), if_pos (by omega)]) b2 b3 b4
    obtain ⟨s4, d1, d2, d3, d4⟩ := ap s3 3 d (by omega) (fun j hj => by unfold wd5; rw [if_neg (by omega), if_neg (by omega), if_neg (by omega), if_pos (by omega)]) c2 c3 c4
    obtain ⟨σ1, f1, f2, f3, f4⟩ := ap s4 4 f (by omega) (fun j hj => by unfold wd5; rw [if_neg (by omega), if_neg (by omega), if_neg (by omega), if_neg (by omega)]) d2 d3 d4
    have G7 : Fr (fun a k => FApp a k ∨ (a = 493 ∧ k = 7)) σ (ms_si σ1 493 7 0) := (f4.mono fun a k q => Or.inl q).trans (Fr.si _ _ (Or.inr ⟨rfl, rfl⟩))
    have e27 : ms_i (ms_si σ1 493 7 0) 493 27 = iZ (e : Int) := (G7.1 _ _ (by unfold FApp; omega)).trans u2
    obtain ⟨σ2, j1, j2, j3, j4⟩ := m_feed23 (B := B) (a := a) (b := b) (c := c) (d := d) (f := f) e27 (fun k hk => by rw [hB0 k hk, G7.1 _ _ (by unfold FApp; omega)]; exact (u4 k hk).2.2) g (fun j _ => hB1 j)
    have G8 : Fr (fun a k => FScr a k ∨ (FApp a k ∨ FFed a k)) σ σ2 := (G7.mono fun a k q => by rcases q with q | q; exact Or.inr (Or.inl q); exact Or.inl (by unfold FScr; omega)).trans (j4.mono fun a k q => Or.inr (Or.inr q))
    have G9 : Fr (fun a k => FFed a k ∨ (a = 493 ∧ k = 7)) σ1 σ2 := (Fr.si _ _ (Or.inr ⟨rfl, rfl⟩) : Fr (fun a k => FFed a k ∨ (a = 493 ∧ k = 7)) σ1 (ms_si σ1 493 7 0)).trans (j4.mono fun a k q => Or.inl q)
    refine ⟨iZ ((e + 20 : Nat) : Int), σ1, σ2, ?_, ?_, ?_, ⟨⟨p, n, H, b', S, hM.frY G8 (by unfold FApp FFed; intros; omega) (by unfold FApp FFed; intros; omega)⟩, h2.fr h40 G8 (by unfold FScr FApp FFed; intros; omega) (by unfold FScr FApp FFed; intros; omega), ⟨B, e + 20, ?_, j2, g, fun k hk => ⟨?_, ?_, j3 k hk⟩⟩, h4.fr G8 (by unfold FScr FApp FFed; omega) (by unfold FScr FApp FFed; intros; omega) (by unfold FScr FApp FFed; intros; omega) (by unfold FScr FApp FFed; intros; omega), ?_⟩⟩
    · unfold f_X10_feed f_X9_hasRoomFor
      rw [x_rf0, r0, l2, e20, iltF (iZ_nat 900) rfl (by omega) (by omega) (by omega), Option.bind_some, if_neg (by decide), a1, Option.bind_some, b1, Option.bind_some, c1, Option.bind_some, d1, Option.bind_some, f1, Option.bind_some, f2]
    · have e5 : ms_i (ms_si σ1 493 7 0) 493 27 + 20 = iZ ((e + 20 : Nat) : Int) := by rw [e27, i20, iZ_add]; rfl
      unfold f_X12_feed
      rw [nm_s, e5, iltF i900 rfl (by omega) (by omega) (by omega), j1]
    · rw [j4.1 _ _ (by unfold FFed; omega), i_si_same]
    · rw [G9.1 _ _ (by unfold FFed; omega)]
      exact f2
    · by_cases q : k < e
      · rw [hB0 k q]; exact (u4 k q).1
      · rw [show k = e + (k - e) from by omega, hB1]
        exact Nat.mod_lt _ (by omega)
    · rw [G9.1 _ _ (by unfold FFed; omega)]
      exact f3 k (by omega)
    · exact h5.fr G8 (by unfold FScr FApp FFed; omega) (by unfold FScr FApp FFed; omega) (by unfold FScr FApp FFed; intros; omega)
  · refine ⟨-1, σ, ms_si σ 493 7 0, ?_, ?_, i_si_same _ _ _ _, h0.scr (fr7 σ 0)⟩
    · unfold f_X10_feed f_X9_hasRoomFor
      rw [x_rf0, r0, l2, e20, iltT (iZ_nat 900) rfl (by omega) (by omega) (by omega), Option.bind_some, if_pos rfl]
    · have e5 : ms_i (ms_si σ 493 7 0) 493 27 + 20 = iZ ((e + 20 : Nat) : Int) := by rw [i_si_ne (Or.inr (by omega)), u2, i20, iZ_add]; rfl
      unfold f_X12_feed
      rw [nm_s, e5, iltT i900 rfl (by omega) (by omega) (by omega)]
end Fd
