/-! a line changes -/
section Lu
variable {σ : MsSt} {w u : Nat → Nat} {l : Nat} {L : List Nat}
def LU (w : Nat → Nat) (l : Nat) (L : List Nat) (u : Nat → Nat) : Prop := (∀ k, k ≠ 3 + l → (k < 7 + 60 * l ∨ 67 + 60 * l ≤ k) → u k = w k) ∧ u (3 + l) = L.length ∧ ∀ p (h : p < L.length), u (7 + 60 * l + p) = L[p]
theorem mw_up {i v : Nat} {x : Int32} (h : Mw σ 494 u) (hx : x = iZ (v : Int)) : Mw (ms_si σ 494 i x) 494 (uw u i v) := by
  intro k hk
  rw [ms_i_si]
  by_cases q : k = i
  · rw [if_pos ⟨rfl, q⟩, q, uw_eq, hx]
  · rw [if_neg (by omega), uw_ne q, h k hk]
theorem LU.hi (h : LU w l L u) (hl : l < 4) {k : Nat} (hk : 247 ≤ k) : u k = w k := h.1 k (by omega) (by omega)
theorem LU.Kd (h : LU w l L u) (hl : l < 4) : Kd u = Kd w := funext fun p => h.hi hl (by omega)
theorem LU.Cl (h : LU w l L u) (hl : l < 4) : Cl u = Cl w := funext fun p => h.hi hl (by omega)
theorem LU.sgF (h : LU w l L u) (hl : l < 4) (p f : Nat) : sgF u p f = sgF w p f := h.hi hl (by omega)
theorem LU.exF (h : LU w l L u) (hl : l < 4) : ∀ (k p : Nat), exF u k p = exF w k p := by
  intro k
  induction k with
  | zero => intro p; rfl
  | succ k ih =>
    intro p
    unfold Jvm.Pilot.CMarkStacksLaw_law_r9321_acc044.exF
    rw [h.Kd hl, ih, h.sgF hl, h.sgF hl]
theorem LU.ex (h : LU w l L u) (hl : l < 4) : ex u = ex w := funext fun p => h.exF hl p p
theorem LU.SgsOK (h : LU w l L u) (hl : l < 4) {n : Nat} (g : SgsOK w n) : SgsOK u n := by
  obtain ⟨h1, h2, h3⟩ := g
  refine ⟨h1, fun p hp => ?_, fun p t hp ht => ?_⟩
  · unfold SgOK
    rw [h.Kd hl, h.Cl hl, h.sgF hl, h.sgF hl, h.sgF hl, h.sgF hl, h.ex hl]
    exact h2 p hp
  · rw [h.Kd hl, h.Cl hl, h.sgF hl, h.sgF hl]
    exact h3 p t hp ht
theorem LU.SgRep (h : LU w l L u) (hl : l < 4) {a s : Nat} (g : SgRep σ a w s) : SgRep σ a u s := by
  unfold Jvm.Pilot.CMarkStacksLaw_law_r9321_acc044.SgRep
  rw [h.Kd hl, h.Cl hl, h.sgF hl, h.sgF hl, h.sgF hl, h.sgF hl, h.ex hl]
  exact g
theorem LU.same (h : LU w l L u) (hl : l < 4) : SameSg w u := ⟨h.1 0 (by omega) (by omega), h.1 1 (by omega) (by omega), fun s _ => ⟨by rw [h.Kd hl], fun f _ _ _ => h.sgF hl s f, fun _ => h.sgF hl s 5⟩⟩
theorem LU.ln_self (h : LU w l L u) : ln u l = L := by
  refine List.ext_getElem (by rw [ln_length, h.2.1]) fun p h1 h2 => ?_
  rw [ln_get, h.2.2 p h2]
theorem LU.ln_ne (h : LU w l L u) (hl : l < 4) (hW : WF w) {m : Nat} (hm : m < 4) (hne : m ≠ l) : ln u m = ln w m := by
  have h5 := hW.2.2.2.2.1 m hm
  have e : u (3 + m) = w (3 + m) := h.1 _ (by omega) (by omega)
  unfold ln
  rw [e]
  refine List.map_congr_left fun p hp => ?_
  have := List.mem_range.mp hp
  exact h.1 _ (by omega) (by omega)
theorem LU.wf (h : LU w l L u) (hW : WF w) (hl : l < w 1) (h60 : L.length ≤ 60) (hL : ∀ x ∈ L, x < w 0) : WF u := by
  obtain ⟨w1, w2, w3, w4, w5, w6, w7⟩ := hW
  have hl4 : l < 4 := by omega
  have e0 : u 0 = w 0 := h.1 0 (by omega) (by omega)
  have e1 : u 1 = w 1 := h.1 1 (by omega) (by omega)
  have e2 : u 2 = w 2 := h.1 2 (by omega) (by omega)
  have e3 : ∀ m, m < 4 → m ≠ l → u (3 + m) = w (3 + m) := fun m hm hne => h.1 _ (by omega) (by omega)
  refine ⟨by rw [e0]; exact h.SgsOK hl4 w1, by rw [e1]; exact w2, by rw [e1]; exact w3, by rw [e1, e2]; exact w4, fun m hm => ?_, fun m hm => ?_, fun m p hm hp => ?_⟩
  · by_cases q : m = l
    · rw [q, h.2.1]; exact h60
    · rw [e3 m hm q]; exact w5 m hm
  · rw [e1]
    intro g
    rw [e3 m hm (by omega)]
    exact w6 m hm g
  · rw [e0]
    by_cases q : m = l
    · subst q
      rw [h.2.1] at hp
      rw [h.2.2 p hp]
      exact hL _ (List.getElem_mem hp)
    · rw [e3 m hm q] at hp
      have := w5 m hm
      rw [h.1 _ (by omega) (by omega)]
      exact w7 m p hm hp
theorem LU.now {σ' : MsSt} (h : LU w l L u) (hl : l < 4) (hW : WF w) (hN : NowRep σ 3 w) (hF : Fr (In (3 + 123 + 2 * l) (3 + 123 + 2 * l + 2)) σ σ') (hR : Rw cN σ' (3 + 123 + 2 * l) 60 L) : NowRep σ' 3 u := by
  obtain ⟨⟨e1, e2⟩, e3, e4, e5⟩ := hN
  have u0 : u 0 = w 0 := h.1 0 (by omega) (by omega)
  have u1 : u 1 = w 1 := h.1 1 (by omega) (by omega)
  have u2 : u 2 = w 2 := h.1 2 (by omega) (by omega)
  have h40 := hW.1.1
  refine ⟨⟨?_, fun s hs => h.SgRep hl ((e2 s (by rw [u0] at hs; exact hs)).away hF (by rw [u0] at hs; omega))⟩, ?_, ?_, fun m hm => ?_⟩
  · rw [hF.at (by omega), u0]; exact e1
  · rw [hF.at (by omega), u1]; exact e3
  · rw [hF.at (by omega), u2]; exact e4
  · by_cases q : m = l
    · subst q
      rw [h.ln_self]
      exact hR
    · rw [h.ln_ne hl hW hm q]
      exact (e5 m hm).away hF (by omega)
end Lu
