/-! what holds at the law's entry, in the words of the walk -/
section Sa
variable {s : State} {args : Array Value}
theorem st_inst {c : Nat} {r : vw_C} (hr : ms_cl[c]? = some r) : Cond.instantiable r.1 r.2.2 ∈ lw_tbl := by
  have hc := (cd_nf hr).1
  match c, hc with
  | 0, _ => cases hr; exact ni_0
  | 1, _ => cases hr; exact ni_1
  | 2, _ => cases hr; exact ni_2
  | 3, _ => cases hr; exact ni_3
  | 4, _ => cases hr; exact ni_4
  | 5, _ => cases hr; exact ni_5
  | 6, _ => cases hr; exact ni_6
  | 7, _ => cases hr; exact ni_7
  | 8, _ => cases hr; exact ni_8
  | 9, _ => cases hr; exact ni_9
  | 10, _ => cases hr; exact ni_10
  | 11, _ => cases hr; exact ni_11
  | 12, _ => cases hr; exact ni_12
theorem st_D (hg : ∀ w ∈ ms_gw, w.before args s = true) (hi : ∀ (c : Nat) (r : vw_C), ms_cl[c]? = some r → (Cond.instantiable r.1 r.2.2).before args s = true) : ∃ D : va_G, va_K D ms_cl [] s := by
  have h0 : ∀ c : Nat, ∃ q : ClassId × (Nat → Nat), ∀ r, ms_cl[c]? = some r → u_Kn s r.1 r.2.1 r.2.2 q.1 q.2 := by
    intro c
    cases hr : ms_cl[c]? with
    | none => exact ⟨(0, fun _ => 0), fun r h => by cases h⟩
    | some r =>
      obtain ⟨cC, iS, h⟩ := u_known (C := r.1) (T := r.2.1) (N := r.2.2) hg (ms_lays hr) (hi c r hr)
      exact ⟨(cC, iS), fun r' h' => by cases h'; exact h⟩
  obtain ⟨f, hf⟩ := Classical.axiomOfChoice h0
  exact ⟨(fun c => (f c).1, fun c => (f c).2), fun c q hq => hf c q hq, fun k q h => by simp at h⟩
theorem st_A (hw : ∀ w ∈ lw_tbl, w.before args s = true) : ∃ A : Nat → ClassId, ∀ ak, ak < 8 → va_RA s (A ak) (ms_akty ak) ∧ ArrOfT s (A ak) (ms_akty ak) := by
  have hp : ∀ ty : FieldType, Cond.arrayClass ty ∈ lw_tbl → ∃ x, s.vm.findClass ("[" ++ ty.toString) = some x ∧ ArrOfT s x ty := fun ty h => by
    obtain ⟨c, k, comp, h1, h2, h3⟩ := Cond.arrayClass_spec (hw _ h)
    exact ⟨c, h1, fun n z => ⟨fun k h => (by cases h), k, h2, comp, h3⟩⟩
  have ho : ∀ C : String, Cond.arrayOver (.object C) ∈ lw_tbl → ∃ x, va_RA s x (.object C) ∧ ArrOfT s x (.object C) := fun C h => by
    obtain ⟨comp, c, k, h1, h2, h3, h4, h5⟩ := Cond.arrayOver_spec (hw _ h)
    exact ⟨c, ⟨k, comp, h3, h4, h1, h5⟩, fun n z => ⟨fun k h => (by cases h), k, h3, comp, h4⟩⟩
  have h0 : ∀ ak : Nat, ∃ x : ClassId, ak < 8 → va_RA s x (ms_akty ak) ∧ ArrOfT s x (ms_akty ak) := by
    intro ak
    match ak with
    | 0 => obtain ⟨x, h⟩ := hp _ st_a0; exact ⟨x, fun _ => h⟩
    | 1 => obtain ⟨x, h⟩ := hp _ st_a1; exact ⟨x, fun _ => h⟩
    | 2 => obtain ⟨x, h⟩ := hp _ st_a2; exact ⟨x, fun _ => h⟩
    | 3 => obtain ⟨x, h⟩ := hp _ st_a3; exact ⟨x, fun _ => h⟩
    | 4 => obtain ⟨x, h⟩ := ho _ st_a4; exact ⟨x, fun _ => h⟩
    | 5 => obtain ⟨x, h⟩ := ho _ st_a5; exact ⟨x, fun _ => h⟩
    | 6 => obtain ⟨x, h⟩ := ho _ st_a6; exact ⟨x, fun _ => h⟩
    | 7 => obtain ⟨x, h⟩ := ho _ st_a7; exact ⟨x, fun _ => h⟩
    | n + 8 => exact ⟨0, fun h => absurd h (by omega)⟩
  obtain ⟨A, hA⟩ := Classical.axiomOfChoice h0
  exact ⟨A, hA⟩
theorem st_O {C : String} {ak : Nat} (h4 : 4 ≤ ak) (h8 : ak < 8) (hw : ∀ w ∈ lw_tbl, w.before args s = true) : ∃ C, ms_akty ak = .object C ∧ va_AO C s := by
  match ak, h4, h8 with
  | 4, _, _ => exact ⟨_, rfl, va_AO.of (hw _ st_a4)⟩
  | 5, _, _ => exact ⟨_, rfl, va_AO.of (hw _ st_a5)⟩
  | 6, _, _ => exact ⟨_, rfl, va_AO.of (hw _ st_a6)⟩
  | 7, _, _ => exact ⟨_, rfl, va_AO.of (hw _ st_a7)⟩
def StS (s : State) (j : Nat) (q : Nat × Nat) : Prop := va_O "java/lang/String" q.1 (fun q => s.heap.size ≤ q) s s.heap ∧ va_OF "java/lang/String" "coder" "B" (.int 0) q.1 (fun q => s.heap.size ≤ q) s s.heap ∧ va_OF "java/lang/String" "value" "[B" (.ref q.2) q.1 (fun q => s.heap.size ≤ q) s s.heap ∧ va_T .byte q.2 (ms_txt (600 + j)).length (fun i => .int ((ms_txt (600 + j)).getD i 0)) (fun q => s.heap.size ≤ q) s s.heap ∧ vk_R (ms_tx.getD j ("", 0, "")).1 (ms_tx.getD j ("", 0, "")).2.1 (ms_tx.getD j ("", 0, "")).2.2 q.1 s
theorem st_len {j : Nat} (hj : j < 50) : (ms_txt (600 + j)).length < 2 ^ 31 := (by decide +kernel : ∀ j, j < 50 → (ms_txt (600 + j)).length < 2147483648) j hj
theorem st_S (hs : ∀ w ∈ st_F, w.before args s = true) (hw : ∀ w ∈ lw_tbl, w.before args s = true) : ∃ ad : Nat → Nat × Nat, ∀ j, j < 50 → StS s j (ad j) := by
  have hA : ∀ a : Nat, a < s.heap.size → ¬ s.heap.size ≤ a := fun a h => Nat.not_le.mpr h
  have h0 : ∀ j : Nat, ∃ q : Nat × Nat, j < 50 → StS s j q := by
    intro j
    by_cases hj : j < 50
    · have hm := List.mem_range.mpr hj
      obtain ⟨a, c, cA, kA, q1, -⟩ := Cond.exactly_spec (args := args) (first := s) (o := none) (s := s) (idx := []) (t := st_tm j) (cls := "java/lang/String") (hs _ (st_in st_e1 j hm))
      have hel : ∀ i : Nat, i < (ms_txt (600 + j)).length → (Cond.eq (.elem (st_va j) (.int (Int32.ofNat i))) (.int ((ms_txt (600 + j)).getD i 0))).before args s = true := fun i hi =>
        hs _ (st_in st_e5 (j, i) (List.mem_flatMap.mpr ⟨j, hm, List.mem_map.mpr ⟨i, List.mem_range.mpr hi, rfl⟩⟩))
      obtain ⟨t, ht, hT⟩ := va_Tof (tm := st_va j) (ty := .byte) (N := (ms_txt (600 + j)).length) (f := fun i => .int ((ms_txt (600 + j)).getD i 0)) (A := fun q => s.heap.size ≤ q) (st_len hj) (hs _ (st_in st_e3 j hm)) (va_eqt (hs _ (st_in st_e4 j hm))) (fun i hi => va_eqt (hel i hi)) hA
      exact ⟨(a, t), fun _ => ⟨va_Oof (hs _ (st_in st_e1 j hm)) q1 hA, vk_OFof q1 (va_eqt (hs _ (st_in st_e2 j hm))) hA, vk_OFof q1 ht hA, hT, vk_R.of (hw _ (st_in st_e6 j hm)) q1⟩⟩
    · exact ⟨(0, 0), fun h => absurd h hj⟩
  obtain ⟨ad, had⟩ := Classical.axiomOfChoice h0
  exact ⟨ad, had⟩
theorem st_G {l : Launch} {b L : Nat} {xs : Nat → Int32} (hts : ∀ w ∈ lw_tbl, w.before #[Value.ref b] s = true) (hX : va_X b L xs s s.heap) (hgv : (Jvm.Cond.and given_1 narrow_1).before #[Value.ref b] s = true) : ∃ G : MG, g_l G = l ∧ g_H G = s.heap ∧ g_L G = L ∧ g_xs G = xs ∧ ms_ad G 700 = b ∧ ms_tk G s ∧ ms_tc G s := by
  have hs : ∀ w ∈ st_F, w.before #[Value.ref b] s = true := flat_of_before _ hgv
  have hA : ∀ a : Nat, a < s.heap.size → ¬ s.heap.size ≤ a := fun a h => Nat.not_le.mpr h
  have hg : ∀ w ∈ ms_gw, w.before #[Value.ref b] s = true := fun w hw => hts w (List.mem_filter.mp hw).1
  obtain ⟨D, hD⟩ := st_D hg (fun c r hr => hts _ (st_inst hr))
  obtain ⟨A, hAr⟩ := st_A hts
  obtain ⟨ad, had⟩ := st_S hs hts
  have hZ1 := vx_Zqof (A := fun q => s.heap.size ≤ q) (hts _ st_l1) (hts _ st_i1) (hs _ st_s1) hA
  have hZ2 := vx_Zqof (A := fun q => s.heap.size ≤ q) (hts _ st_l2) (hts _ st_i1) (hs _ st_s2) hA
  have hZ3 := va_Zof (A := fun q => s.heap.size ≤ q) (hts _ st_l3) (hts _ st_i3) (va_eqt (hs _ st_s3)) hA
  obtain ⟨fo, hfo⟩ : ∃ fo : Option Nat, va_Z "jdk/internal/util/Preconditions" "SIOOBE_FORMATTER" "Ljava/util/function/BiFunction;" (va_rf fo) (fun q => s.heap.size ≤ q) s s.heap := by
    rcases va_Zqof (A := fun q => s.heap.size ≤ q) (hts _ st_l4) (hts _ st_i4) (hs _ st_s4) hA with h | ⟨t, h⟩
    · exact ⟨none, h⟩
    · exact ⟨some t, h⟩
  have hN := va_Nc.of (hs _ st_s5)
  obtain ⟨gs, e6, e7, e8⟩ : ∃ gs : Nat → Nat, (∀ j, j < 50 → gs (600 + j) = (ad j).1) ∧ gs 700 = b ∧ ∀ j, j < 50 → gs (800 + j) = (ad j).2 := by
    refine ⟨fun k => if k < 650 then (ad (k - 600)).1 else if k = 700 then b else (ad (k - 800)).2, fun j hj => ?_, rfl, fun j hj => ?_⟩
    · show (if 600 + j < 650 then (ad (600 + j - 600)).1 else _) = _
      rw [if_pos (by omega), show 600 + j - 600 = j by omega]
    · show (if 800 + j < 650 then _ else if 800 + j = 700 then b else (ad (800 + j - 800)).2) = _
      rw [if_neg (by omega), if_neg (by omega), show 800 + j - 800 = j by omega]
  refine ⟨(l, D, A, gs, s.heap, L, xs, fo), rfl, rfl, rfl, rfl, ?_, ⟨fun w hw ht => ms_word (State.WarmedH.refl s) ht (hts w hw), hD, fun ak hk => (hAr ak hk).2, ?_⟩, fun ak hk => (hAr ak hk).1, fun ak h4 h8 => st_O (C := "") h4 h8 hts⟩
  · unfold ms_ad
    rw [if_neg (by decide)]
    exact e7
  · refine ⟨fun j hj => ?_, fun j hj => ?_, ?_, hZ1, hZ2, hZ3, hfo, hN⟩
    · obtain ⟨h1, h2, h3, h4, h5⟩ := had j hj
      show va_O "java/lang/String" (gs (600 + j)) _ s s.heap ∧ va_OF "java/lang/String" "coder" "B" (.int 0) (gs (600 + j)) _ s s.heap ∧ va_OF "java/lang/String" "value" "[B" (.ref (gs (800 + j))) (gs (600 + j)) _ s s.heap ∧ va_T .byte (gs (800 + j)) _ _ _ s s.heap
      rw [e6 j hj, e8 j hj]
      exact ⟨h1, h2, h3, h4⟩
    · show vk_R _ _ _ (gs (600 + j)) s
      rw [e6 j hj]
      exact (had j hj).2.2.2.2
    · show va_X (gs 700) L xs s s.heap
      rw [e7]
      exact hX
theorem st_nt {l : Launch} (hflags : l.flags = flags0) : l.stackTraces = false := by
  unfold Launch.stackTraces
  rw [hflags]
  decide +kernel
end Sa
