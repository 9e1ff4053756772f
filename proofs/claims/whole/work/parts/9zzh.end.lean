/-! behind the makings: the store of the walk, the invariant -/
section En
theorem arrV_congr {cI : ClassId} {N : Nat} {f g : Nat → Value} (h : ∀ k, k < N → f k = g k) : arrV cI N f = arrV cI N g := by
  unfold arrV
  have e : (fun j : Fin N => f j.val) = fun j : Fin N => g j.val := funext fun j => h j.val j.isLt
  rw [e]
def cd_σ : MsSt := (fun a k => cd_v cd_W a k, fun _ _ => 0, fun _ _ => 0)
theorem cd_iv : IV cd_σ := by
  refine ⟨w0, inv0 fun a k => ?_⟩
  unfold i0f
  show (if (494 : Nat) = a ∧ (1 : Nat) = k then (1 : Int32) else if 493 = a ∧ 34 = k then -1 else if 0 = a ∧ 13 = k then -1 else if 140 = a ∧ 5 = k then 1 else if 3 = a ∧ 5 = k then 1 else if 1 = a ∧ 8 = k then -1 else 0) = _
  by_cases c1 : (494 : Nat) = a ∧ (1 : Nat) = k
  · rw [if_pos c1, if_pos (by omega)]
  rw [if_neg c1]
  by_cases c2 : (493 : Nat) = a ∧ (34 : Nat) = k
  · rw [if_pos c2, if_neg (by omega), if_pos (by omega)]
  rw [if_neg c2]
  by_cases c3 : (0 : Nat) = a ∧ (13 : Nat) = k
  · rw [if_pos c3, if_neg (by omega), if_pos (by omega)]
  rw [if_neg c3]
  by_cases c4 : (140 : Nat) = a ∧ (5 : Nat) = k
  · rw [if_pos c4, if_pos (by omega)]
  rw [if_neg c4]
  by_cases c5 : (3 : Nat) = a ∧ (5 : Nat) = k
  · rw [if_pos c5, if_pos (by omega)]
  rw [if_neg c5]
  by_cases c6 : (1 : Nat) = a ∧ (8 : Nat) = k
  · rw [if_pos c6, if_neg (by omega), if_pos (by omega)]
  rw [if_neg c6, if_neg (by omega), if_neg (by omega)]
theorem cd_refs {δ : DSt} (h : cd_full δ = true) {a : Nat} (ha : a < 519) : (∀ c r k, ms_kd a = c + 1 → ms_cl[c]? = some r → k < r.2.2 → ms_isr c k = true → cd_s δ a k = true) ∧ (∀ ak k, ms_kd a = ak + 20 → 4 ≤ ak → k < ms_ln a → cd_s δ a k = true) := by
  have h1 := List.all_eq_true.mp h a (List.mem_range.mpr ha)
  refine ⟨fun c r k hc hr hk hi => ?_, fun ak k hk h4 hl => ?_⟩
  · obtain ⟨hc13, hN⟩ := cd_nf hr
    rw [if_pos (by omega)] at h1
    have h2 := List.all_eq_true.mp h1 k (List.mem_range.mpr (by omega))
    rw [cd_sl_ob hc hr, decide_eq_true hk, show ms_kd a - 1 = c by omega, hi] at h2
    simpa using h2
  · rw [if_neg (by omega), if_pos (by omega)] at h1
    exact List.all_eq_true.mp h1 k (List.mem_range.mpr hl)
theorem cd_done {G : MG} {δ : DSt} {H : Heap} (hk : cd_ck (some δ) = true) (hP : cd_rep G δ H) : δ.1 = 519 ∧ ms_rep G cd_σ H := by
  have hk2 : (decide (δ.1 = 519) && (decide (δ.2.2 = cd_W) && cd_full δ)) = true := hk
  rw [Bool.and_eq_true, Bool.and_eq_true, decide_eq_true_iff, decide_eq_true_iff] at hk2
  obtain ⟨hn, hw, hf⟩ := hk2
  obtain ⟨p1, p2, p3, p4, p5⟩ := hP
  refine ⟨hn, fun a ha => ?_, p4, by rw [p1]; exact Nat.le_add_right _ _⟩
  obtain ⟨q1, q2⟩ := p3 a (by omega)
  obtain ⟨r1, r2⟩ := cd_refs hf ha
  refine ⟨fun c hc hc2 => ?_, fun ak hak => ?_⟩
  · obtain ⟨r, e1, e2⟩ := q1 c hc hc2
    refine ⟨r, e1, e2.to fun k hk3 => ?_⟩
    unfold cd_fv ms_fv
    by_cases hi : ms_isr c k = true
    · rw [if_pos hi, if_pos hi, if_pos (r1 c r k hc e1 hk3 hi)]
    · rw [if_neg hi, if_neg hi, hw]
      rfl
  · have e := q2 ak hak
    unfold cd_ar at e
    unfold ms_ar
    rw [e]
    refine congrArg some (arrV_congr fun k hk3 => ?_)
    unfold cd_av ms_av
    by_cases h2 : ak = 2
    · rw [if_pos h2, if_pos h2]
      rfl
    rw [if_neg h2, if_neg h2]
    by_cases h3 : ak = 3
    · rw [if_pos h3, if_pos h3]
      rfl
    rw [if_neg h3, if_neg h3]
    by_cases h4 : ak < 2
    · rw [if_pos h4, if_pos h4, hw]
      rfl
    rw [if_neg h4, if_neg h4, if_pos (r2 ak k hak (by omega) hk3)]
theorem cd_z519 : cd_z 519 ≤ 100000 := by decide +kernel
end En
