/-! the system composes, cluster by cluster -/
theorem srt_le {w : Nat → Nat} {D : List Nat} {c : Nat} (hS : Srt w D) (hc : c < (bg w D).length) : ∀ (k i : Nat), fm w D c ≤ i → i + k < be w D (c + 1) → Cl w (D.getD i 0) ≤ Cl w (D.getD (i + k) 0) := by
  have hb := (be_lt hc).2.1
  intro k
  induction k with
  | zero => intro i _ _; exact Nat.le_refl _
  | succ k ih =>
    intro i h1 h2
    have h3 := ih i h1 (by omega)
    have m1 := fm_mark hc (k := i + k) (by omega) (by omega)
    have m2 := fm_mark hc (k := i + k + 1) (by omega) (by omega)
    rw [getD_get (by omega : i + k < D.length)] at h3 m1
    rw [getD_get (by omega : i + k + 1 < D.length)] at m2
    have h4 := hS.get (k := i + k) (by omega) m1 m2
    rw [show i + (k + 1) = i + k + 1 from rfl, getD_get (by omega : i + k + 1 < D.length)]
    exact Nat.le_trans h3 h4
theorem c_findMade {σ : MsSt} {w : Nat → Nat} {n : Nat} {sp : Nat → Bool} {fr x y : Int} (hs : SgsOK w n) (hc : ScRep σ 3 w n) (hsp : ∀ p, p < n → Kd w p = 2 → sp p = (sgF w p 5 != 0 && !decide ((p : Int) = fr))) (f1 : -1 ≤ fr) (f2 : fr < 1000) (x1 : -1 ≤ x) (x2 : x < 1000) (y1 : -1 ≤ y) (y2 : y < 1000) :
    f_X6_findMade σ 3 (iZ x) (iZ y) (iZ fr) = some (iZ (mk w sp n x y)) := by
  have h40 := hs.1
  unfold f_X6_findMade
  rw [c_findPair (Or.inl rfl) hs hc x1 x2 y1 y2, Option.bind_some]
  rcases fst0_range (prP w x y) n with hp | ⟨p, p1, p2, p3⟩
  · have hpr : pr w n x y = -1 := hp
    have hmk : mk w sp n x y = -1 := by unfold mk; rw [if_pos hpr]
    rw [hpr, ieqT rfl im1 rfl, hmk]
  · have hpr : pr w n x y = (p : Int) := p2
    have hk2 : Kd w p = 2 := prP_kd p3
    have h5 := ((hs.2.1 p p1).1.2.2.2 hk2).2.2.2.2.2
    have h13 := ((hc.2 p p1).2.2.2.2.2.2.2 hk2).2.2
    have hmk : mk w sp n x y = if (sgF w p 5 != 0 && !decide ((p : Int) = fr)) = true then -1 else (p : Int) := by
      unfold mk
      rw [hpr, if_neg (by omega), Int.toNat_natCast, hsp p p1 hk2]
    rw [hmk, hpr, ieqF rfl im1 (by omega) (by omega) (by omega) (by omega) (by omega), told_s (Or.inl rfl) (by omega), Option.bind_some]
    by_cases z : sgF w p 5 = 0
    · rw [ieqT h13 i0 (by omega), if_neg (by simp [z])]
    · rw [ieqF h13 i0 (by omega) (by omega) (by omega) (by omega) (by omega)]
      by_cases z2 : (p : Int) = fr
      · rw [ieqT rfl rfl z2, if_neg (by simp [z2])]
      · rw [ieqF rfl rfl z2 (by omega) (by omega) (by omega) (by omega), if_pos (by simp [z, z2])]
        rfl
/-- what holds inside a cluster, in front of its sign i -/
def CcI (w : Nat → Nat) (D : List Nat) (c : Nat) (S : CSt) (i : Nat) (l3 l4 l5 : Int32) : Prop :=
  ((S.2.2.1 = -1 ∧ l3 = iZ (-1)) ∨ (0 ≤ S.2.2.1 ∧ l3 = iZ ((S.1.getD S.2.2.1.toNat 0 : Nat) : Int) ∧ l4 = iZ S.2.2.1)) ∧
  (∃ sc : Nat, l5 = iZ (sc : Int) ∧ sc ≤ 60 ∧ ((sc = 0 ∧ S.2.2.2.2 = []) ∨ (sc ∈ S.2.2.2.2 ∧ ∀ q ∈ S.2.2.2.2, q ≤ sc))) ∧
  ∀ q ∈ S.2.2.2.2, ∀ j, i ≤ j → j < be w D (c + 1) → q ≤ Cl w (D.getD j 0)
theorem c_compose_l {w : Nat → Nat} {n F : Nat} {D : List Nat} {c : Nat} {sp : Nat → Bool} {fr : Int} {σ : MsSt} (hs : SgsOK w n) (hF : FmAt F) (hc : ScRep σ 3 w n) (hD : ∀ y ∈ D, y < n ∧ Kd w y ≤ 1 ∧ Cl w y ≤ 60) (hSr : Srt w D) (hR : FmR σ F w D)
    (hsp : ∀ p, p < n → Kd w p = 2 → sp p = (sgF w p 5 != 0 && !decide ((p : Int) = fr))) (f1 : -1 ≤ fr) (f2 : fr < 1000) (hcc : c < (bg w D).length) {l3 l4 l5 : Int32}
    (hC : Rw cN σ (F + 5) 360 (cmp w sp n (D.take (fm w D c))).1) (hI : CcI w D c (cmp w sp n (D.take (fm w D c))) (fm w D c) l3 l4 l5) :
    ∃ σ', f_X1_composeCluster_41 ms_fuel σ F (iZ (c : Int)) (iZ fr) l3 l4 l5 (iZ (fm w D c : Int)) = some σ' ∧ Rw cN σ' (F + 5) 360 (cmp w sp n (D.take (be w D (c + 1)))).1 ∧ Fr (In (F + 5) (F + 7)) σ σ' := by
  obtain ⟨r0, r1, r2, r3, r4, r5, r6⟩ := fm_refs hF
  have hlo := fm_lo hF
  have h40 := hs.1
  have hbe := be_lt hcc
  have hfm := fm_le hcc
  have hDl := hR.1.2.1
  have hD2 : ∀ y ∈ D, y < n ∧ Cl w y ≤ 60 := fun y hy => ⟨(hD y hy).1, (hD y hy).2.2⟩
  have key := lp (S := MsSt × Int32 × Int32 × Int32 × Int32) (f := fun n' s => f_X1_composeCluster_41 n' s.1 F (iZ (c : Int)) (iZ fr) s.2.1 s.2.2.1 s.2.2.2.1 s.2.2.2.2) (Q := fun σ' => Rw cN σ' (F + 5) 360 (cmp w sp n (D.take (be w D (c + 1)))).1 ∧ Fr (In (F + 5) (F + 7)) σ σ')
    (fun i s => s.2.2.2.2 = iZ (i : Int) ∧ fm w D c ≤ i ∧ i ≤ be w D (c + 1) ∧ Rw cN s.1 (F + 5) 360 (cmp w sp n (D.take i)).1 ∧ CcI w D c (cmp w sp n (D.take i)) i s.2.1 s.2.2.1 s.2.2.2.1 ∧ Fr (In (F + 5) (F + 7)) σ s.1) (be w D (c + 1)) ?_ ?_
    (be w D (c + 1) - fm w D c) (fm w D c) (σ, l3, l4, l5, iZ (fm w D c : Int)) ms_fuel ⟨rfl, Nat.le_refl _, hfm.2, hC, hI, Fr.refl _ _⟩ (by omega) (by show _ < 100000; omega)
  · exact key
  · rintro i ⟨s1, l3, l4, l5, l6⟩ ⟨hx, hi1, hi2, hO, hJ, hFi⟩ hlt
    dsimp only at hx hO hJ hFi ⊢
    subst hx
    left
    have hiD : i < D.length := by omega
    have hRi := hR.away hFi (by omega)
    have hci := hc.away hFi h40 (by omega)
    have hmem := hD _ (List.getElem_mem hiD)
    have hmk : Kd w (D.getD i 0) = 1 := fm_mark hcc hi1 hlt
    have hgd := getD_get hiD
    rw [hgd] at hmk
    have hcl := ((hs.2.1 _ hmem.1).1.2.2.1 hmk)
    obtain ⟨v1, v2, v3, v4, v5, v6, v7⟩ := cmp_inv (sp := sp) hD2 i (by omega)
    obtain ⟨j1, ⟨sc, j2, j3, j4⟩, j5⟩ := hJ
    have hcl60 : ∀ q ∈ (cmp w sp n (D.take i)).2.2.2.2, q ≤ 60 := v7
    have hnext := cmp_take (w := w) (sp := sp) (n := n) hiD
    have hin : Cl w D[i] ∈ (cmp w sp n (D.take i)).2.2.2.2 ↔ Cl w D[i] = sc := by
      constructor
      · intro q
        rcases j4 with ⟨_, e⟩ | ⟨e1, e2⟩
        · rw [e] at q; cases q
        · have h1 := e2 _ q
          have h2 := j5 sc e1 i (Nat.le_refl _) hlt
          rw [hgd] at h2
          omega
      · intro q
        rcases j4 with ⟨e, _⟩ | ⟨e1, _⟩
        · omega
        · rw [q]; exact e1
    have hhead : ∀ n', f_X1_composeCluster_41 (n' + 1) s1 F (iZ (c : Int)) (iZ fr) l3 l4 l5 (iZ (i : Int)) = (if l3 = -1 then f_X1_composeCluster_81 (f_X1_composeCluster_41 n') s1 F (iZ (c : Int)) (iZ fr) l3 l4 l5 (iZ (i : Int)) (iZ ((D[i] : Nat) : Int)) else (if iZ (Cl w D[i] : Int) = l5 then f_X1_composeCluster_81 (f_X1_composeCluster_41 n') s1 F (iZ (c : Int)) (iZ fr) l3 l4 l5 (iZ (i : Int)) (iZ ((D[i] : Nat) : Int)) else f_X1_composeCluster_86 (f_X1_composeCluster_41 n') s1 F (iZ (c : Int)) (iZ fr) l3 l4 l5 (iZ (i : Int)) (iZ ((D[i] : Nat) : Int)) 0)) := by
      intro n'
      show (f_X1_endOf s1 F (iZ (c : Int))).bind _ = _
      rw [c_endOf hRi hF hcc, Option.bind_some, iltT rfl rfl (by omega) (by omega) (by omega), r2, c_sgn hRi hiD, Option.bind_some, r0, hgd, classOf_s hci (Or.inl rfl) hmem.1 h40, Option.bind_some]
    have h81 : ∀ n', f_X1_composeCluster_81 (f_X1_composeCluster_41 n') s1 F (iZ (c : Int)) (iZ fr) l3 l4 l5 (iZ (i : Int)) (iZ ((D[i] : Nat) : Int)) = f_X1_composeCluster_108 (f_X1_composeCluster_41 n') s1 F (iZ (c : Int)) (iZ fr) l3 l4 l5 (iZ (i : Int)) (iZ ((D[i] : Nat) : Int)) (-1) := by
      intro n'
      unfold f_X1_composeCluster_81 f_X1_composeCluster_86
      rw [if_neg (by decide)]
    -- the mark stays
    have stay : cstep w sp n (cmp w sp n (D.take i)) D[i] = cStay w (cmp w sp n (D.take i)) D[i] → (∀ n', f_X1_composeCluster_41 (n' + 1) s1 F (iZ (c : Int)) (iZ fr) l3 l4 l5 (iZ (i : Int)) = f_X1_composeCluster_108 (f_X1_composeCluster_41 n') s1 F (iZ (c : Int)) (iZ fr) l3 l4 l5 (iZ (i : Int)) (iZ ((D[i] : Nat) : Int)) (-1)) →
        ∃ s' : MsSt × Int32 × Int32 × Int32 × Int32, (s'.2.2.2.2 = iZ ((i + 1 : Nat) : Int) ∧ fm w D c ≤ i + 1 ∧ i + 1 ≤ be w D (c + 1) ∧ Rw cN s'.1 (F + 5) 360 (cmp w sp n (D.take (i + 1))).1 ∧ CcI w D c (cmp w sp n (D.take (i + 1))) (i + 1) s'.2.1 s'.2.2.1 s'.2.2.2.1 ∧ Fr (In (F + 5) (F + 7)) σ s'.1) ∧ ∀ n', f_X1_composeCluster_41 (n' + 1) s1 F (iZ (c : Int)) (iZ fr) l3 l4 l5 (iZ (i : Int)) = f_X1_composeCluster_41 n' s'.1 F (iZ (c : Int)) (iZ fr) s'.2.1 s'.2.2.1 s'.2.2.2.1 s'.2.2.2.2 := by
      intro hst hhd
      obtain ⟨σ', a1, a2, a3⟩ := add_s hO (by omega) D[i]
      have a1' : f_X5_add s1 (F + 5) (iZ ((D[i] : Nat) : Int)) = some σ' := a1
      refine ⟨(σ', l3, l4, iZ (Cl w D[i] : Int), iZ ((i : Int) + 1)), ⟨by push_cast; rfl, by omega, by omega, ?_, ?_, hFi.trans a3⟩, fun n' => ?_⟩
      · rw [hnext, hst]
        exact a2
      · rw [hnext, hst]
        refine ⟨?_, ⟨Cl w D[i], rfl, by omega, Or.inr ⟨List.mem_cons_self, fun q hq => ?_⟩⟩, fun q hq j h1 h2 => ?_⟩
        · rcases j1 with ⟨e1, e2⟩ | ⟨e1, e2, e3⟩
          · exact Or.inl ⟨e1, e2⟩
          · refine Or.inr ⟨e1, ?_, e3⟩
            show l3 = iZ ((((cmp w sp n (D.take i)).1 ++ [D[i]]).getD (cmp w sp n (D.take i)).2.2.1.toNat 0 : Nat) : Int)
            rw [e2, List.getD_eq_getElem?_getD, List.getD_eq_getElem?_getD, List.getElem?_append_left (by omega)]
        · rcases List.mem_cons.mp hq with rfl | hq
          · exact Nat.le_refl _
          · have := j5 q hq i (Nat.le_refl _) hlt
            rw [hgd] at this
            exact this
        · rcases List.mem_cons.mp hq with rfl | hq
          · have := srt_le hSr hcc (j - i) i hi1 (by omega)
            rw [show i + (j - i) = j from by omega, hgd] at this
            exact this
          · exact j5 q hq j (by omega) h2
      · rw [hhd]
        unfold f_X1_composeCluster_108
        rw [if_pos rfl, r3, a1', Option.bind_some, r0, classOf_s (hci.away a3 h40 (by omega)) (Or.inl rfl) hmem.1 h40, Option.bind_some, i1, iZ_add]
    have hcs : cstep w sp n (cmp w sp n (D.take i)) D[i] = if 0 ≤ (cmp w sp n (D.take i)).2.2.1 ∧ ¬ Cl w D[i] ∈ (cmp w sp n (D.take i)).2.2.2.2 ∧ mk w sp n (((cmp w sp n (D.take i)).1.getD (cmp w sp n (D.take i)).2.2.1.toNat 0 : Nat) : Int) (D[i] : Int) ≠ -1 then cSet w sp n (cmp w sp n (D.take i)) D[i] else cStay w (cmp w sp n (D.take i)) D[i] := by
      unfold cstep
      rw [if_pos hmk]
    rcases j1 with ⟨e1, e2⟩ | ⟨e1, e2, e3⟩
    · refine stay (by rw [hcs, if_neg (by rintro ⟨q, _⟩; omega)]) (fun n' => ?_)
      rw [hhead, ieqT e2 im1 rfl, h81]
    · have hst : (cmp w sp n (D.take i)).2.2.1.toNat < (cmp w sp n (D.take i)).1.length := by omega
      have hstn : (cmp w sp n (D.take i)).1.getD (cmp w sp n (D.take i)).2.2.1.toNat 0 < n := by
        rw [getD_get hst]
        exact v6 _ (List.getElem_mem hst)
      have h3ne : ∀ o1 o2 : Option MsSt, (if l3 = -1 then o1 else o2) = o2 := fun o1 o2 => ieqF e2 im1 (by omega) (by omega) (by omega) (by omega) (by omega)
      by_cases z : Cl w D[i] = sc
      · refine stay (by rw [hcs, if_neg (by rintro ⟨_, q, _⟩; exact q (hin.mpr z))]) (fun n' => ?_)
        rw [hhead, h3ne, ieqT rfl j2 (by omega), h81]
      · have h86 : ∀ n', f_X1_composeCluster_41 (n' + 1) s1 F (iZ (c : Int)) (iZ fr) l3 l4 l5 (iZ (i : Int)) = f_X1_composeCluster_108 (f_X1_composeCluster_41 n') s1 F (iZ (c : Int)) (iZ fr) l3 l4 l5 (iZ (i : Int)) (iZ ((D[i] : Nat) : Int)) (iZ (mk w sp n (((cmp w sp n (D.take i)).1.getD (cmp w sp n (D.take i)).2.2.1.toNat 0 : Nat) : Int) (D[i] : Int))) := by
          intro n'
          rw [hhead, h3ne, ieqF rfl j2 (by omega) (by omega) (by omega) (by omega) (by omega)]
          unfold f_X1_composeCluster_86
          rw [if_pos rfl, r0, e2, c_findMade hs hci hsp f1 f2 (by omega) (by omega) (by omega) (by omega), Option.bind_some]
        rcases mk_range w sp n (((cmp w sp n (D.take i)).1.getD (cmp w sp n (D.take i)).2.2.1.toNat 0 : Nat) : Int) (D[i] : Int) with hm | ⟨p, p1, p2, p3, p4⟩
        · refine stay (by rw [hcs, if_neg (by rintro ⟨_, _, q⟩; exact q hm)]) (fun n' => ?_)
          rw [h86, hm, ← im1]
        · have hset : cstep w sp n (cmp w sp n (D.take i)) D[i] = ((cmp w sp n (D.take i)).1.set (cmp w sp n (D.take i)).2.2.1.toNat p, (cmp w sp n (D.take i)).2) := by
            rw [hcs, if_pos ⟨e1, fun q => z (hin.mp q), by rw [p2]; omega⟩]
            unfold cSet
            rw [p2, Int.toNat_natCast]
          obtain ⟨σ', a1, a2, a3⟩ := put_s hO hst p
          have a1' : f_X5_put s1 (F + 5) (iZ (cmp w sp n (D.take i)).2.2.1) (iZ (p : Int)) = some σ' := by
            have e : (((cmp w sp n (D.take i)).2.2.1.toNat : Nat) : Int) = (cmp w sp n (D.take i)).2.2.1 := by omega
            rw [e] at a1
            exact a1
          refine ⟨(σ', iZ (p : Int), l4, l5, iZ ((i : Int) + 1)), ⟨by push_cast; rfl, by omega, by omega, ?_, ?_, hFi.trans a3⟩, fun n' => ?_⟩
          · rw [hnext, hset]
            exact a2
          · rw [hnext, hset]
            refine ⟨Or.inr ⟨e1, ?_, e3⟩, ⟨sc, j2, j3, j4⟩, fun q hq j h1 h2 => j5 q hq j (by omega) h2⟩
            show iZ (p : Int) = iZ ((((cmp w sp n (D.take i)).1.set (cmp w sp n (D.take i)).2.2.1.toNat p).getD (cmp w sp n (D.take i)).2.2.1.toNat 0 : Nat) : Int)
            rw [getD_get (by rw [List.length_set]; exact hst), List.getElem_set, if_pos rfl]
          · rw [h86, p2]
            unfold f_X1_composeCluster_108
            rw [ieqF rfl im1 (by omega) (by omega) (by omega) (by omega) (by omega), r3, e3, a1', Option.bind_some, i1, iZ_add]
  · rintro ⟨s1, l3, l4, l5, l6⟩ ⟨hx, hi1, hi2, hO, hJ, hFi⟩
    dsimp only at hx hO hJ hFi ⊢
    subst hx
    refine ⟨s1, ⟨hO, hFi⟩, fun n' => ?_⟩
    show (f_X1_endOf s1 F (iZ (c : Int))).bind _ = _
    rw [c_endOf (hR.away hFi (by omega)) hF hcc, Option.bind_some, iltF rfl rfl (by omega) (by omega) (by omega)]
theorem c_composeCluster {w : Nat → Nat} {n F : Nat} {D : List Nat} {c : Nat} {sp : Nat → Bool} {fr : Int} {σ : MsSt} (hs : SgsOK w n) (hF : FmAt F) (hc : ScRep σ 3 w n) (hD : ∀ y ∈ D, y < n ∧ Kd w y ≤ 1 ∧ Cl w y ≤ 60) (hSr : Srt w D) (hR : FmR σ F w D)
    (hsp : ∀ p, p < n → Kd w p = 2 → sp p = (sgF w p 5 != 0 && !decide ((p : Int) = fr))) (f1 : -1 ≤ fr) (f2 : fr < 1000) (hcc : c < (bg w D).length)
    (hC : Rw cN σ (F + 5) 360 (cmp w sp n (D.take (be w D c))).1) :
    ∃ σ', f_X1_composeCluster σ F (iZ (c : Int)) (iZ fr) = some σ' ∧ Rw cN σ' (F + 5) 360 (cmp w sp n (D.take (be w D (c + 1)))).1 ∧ Fr (In (F + 5) (F + 7)) σ σ' := by
  obtain ⟨r0, r1, r2, r3, r4, r5, r6⟩ := fm_refs hF
  have hlo := fm_lo hF
  have h40 := hs.1
  have hbe := be_lt hcc
  have hDl := hR.1.2.1
  have hgd := getD_get hbe.2.2
  have hmem := hD _ (List.getElem_mem hbe.2.2)
  have hn1 : ∀ y ∈ D, y < 1000 := fun y hy => by have := (hD y hy).1; omega
  unfold f_X1_composeCluster
  rw [r5, c_base hR hcc, Option.bind_some]
  by_cases q : Kd w (D.getD (be w D c) 0) = 1
  · have hz : be w D c = 0 := by
      by_cases g : be w D c = 0
      · exact g
      · exact absurd q (be_base hcc (by omega))
    have hfm : fm w D c = be w D c := by unfold fm; rw [if_pos q]
    have hb : bsv w D (be w D c) = -1 := by unfold bsv; rw [if_pos q]
    rw [hb, ieqT rfl im1 rfl, c_firstMark hR hF hcc hn1, Option.bind_some]
    refine c_compose_l hs hF hc hD hSr hR hsp f1 f2 hcc (by rw [hfm]; exact hC) ?_
    rw [hfm, hz, List.take_zero]
    exact ⟨Or.inl ⟨rfl, rfl⟩, ⟨0, rfl, by omega, Or.inl ⟨rfl, rfl⟩⟩, fun q hq => by cases hq⟩
  · have hfm : fm w D c = be w D c + 1 := by unfold fm; rw [if_neg q]
    have hb : bsv w D (be w D c) = ((D[be w D c] : Nat) : Int) := by unfold bsv; rw [if_neg q, hgd]
    have hD2 : ∀ y ∈ D, y < n ∧ Cl w y ≤ 60 := fun y hy => ⟨(hD y hy).1, (hD y hy).2.2⟩
    obtain ⟨v1, v2, v3, v4, v5, v6, v7⟩ := cmp_inv (sp := sp) hD2 (be w D c) (by omega)
    have hnext := cmp_take (w := w) (sp := sp) (n := n) hbe.2.2
    have hcs : cstep w sp n (cmp w sp n (D.take (be w D c))) D[be w D c] = cBase (cmp w sp n (D.take (be w D c))) D[be w D c] := by
      unfold cstep
      rw [if_neg (by rw [hgd] at q; exact q)]
    obtain ⟨σ1, a1, a2, a3⟩ := add_s hC (by omega) D[be w D c]
    have a1' : f_X5_add σ (F + 5) (iZ ((D[be w D c] : Nat) : Int)) = some σ1 := a1
    rw [hb, ieqF rfl im1 (by omega) (by omega) (by omega) (by omega) (by omega), r3, a1', Option.bind_some, c_firstMark (hR.away a3 (by omega)) hF hcc hn1, Option.bind_some, hC.cnt]
    obtain ⟨σ2, b1, b2, b3⟩ := c_compose_l (σ := σ1) (l3 := iZ ((D[be w D c] : Nat) : Int)) (l4 := iZ ((cmp w sp n (D.take (be w D c))).1.length : Int)) (l5 := 0) hs hF (hc.away a3 h40 (by omega)) hD hSr (hR.away a3 (by omega)) hsp f1 f2 hcc (by rw [hfm, hnext, hcs]; exact a2) (by
      rw [hfm, hnext, hcs]
      refine ⟨Or.inr ⟨by show (0 : Int) ≤ ((cmp w sp n (D.take (be w D c))).1.length : Int); omega, ?_, rfl⟩, ⟨0, rfl, by omega, Or.inl ⟨rfl, rfl⟩⟩, fun q hq => by cases hq⟩
      show iZ ((D[be w D c] : Nat) : Int) = iZ ((((cmp w sp n (D.take (be w D c))).1 ++ [D[be w D c]]).getD ((cmp w sp n (D.take (be w D c))).1.length : Int).toNat 0 : Nat) : Int)
      rw [Int.toNat_natCast, List.getD_eq_getElem?_getD, List.getElem?_append_right (Nat.le_refl _)]
      simp)
    exact ⟨σ2, b1, b2, a3.trans b3⟩
