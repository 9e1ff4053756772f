/-! methods with a table of catches: their contract, their static call; the script's own array; the two ends of a call with catches -/
section Cw
variable {α β γ : Type} {G : MG} {M M' : MM} {d mc ms cu su d' mc' ms' : Nat} {κ : α → MsRes} {κ' : β → MsRes} {pc : Nat} {lv : List (Nat × Value)} {rest : List Value} {σ : MsSt} {o : Option α} {hh : List (Nat × Nat × Nat × Nat)}
def MsSpecW (G : MG) (M : MM) (hh : List (Nat × Nat × Nat × Nat)) (d mc ms : Nat) (al : List Value) (σ : MsSt) (κ : α → MsRes) (o : Option α) : Prop :=
  ∀ r, o = some r → vx_Met (g_l G) M.2.2.2.2.1 [Cond.codeWith M.2.2.2.2.1 M.2.1 M.2.2.1 M.2.2.2.1 hh] (ms_room d mc ms) (ms_pc G al σ) (ms_qc G (κ r)) (ms_xc G (κ r)) mc ms (fun q => (g_H G).size ≤ q)
theorem ms_startW {al : List Value} (hn : plainName M.2.2.2.2.1.cls = true) (hown : M.2.2.2.2.1.cls = M.1) (htb : M.2.2.2.2.2 = tableOf hh) (hsz : (lg_sl al).length ≤ M.2.2.1) (k : TrO G M d mc ms 0 0 κ 0 (lv_args 0 al) [] σ o) : MsSpecW G M hh d mc ms al σ κ o := by
  intro r hr
  refine vx_ofWH (cc := M.2.1) (maxL := M.2.2.1) (ret := M.2.2.2.1) hn rfl ?_
  intro p e s m args below meth c s₁ B hml hv
  have htab : c.exceptionTable.toList = tableOf hh   := vx_table (x := M.2.2.2.2.1) B (atoms_spec B.pre _ List.mem_cons_self)
  obtain ⟨rfl, hP, hT⟩ := hv
  rw [lg_entry_eq]
  have hl := lv_entry (al.map (ms_cv G)) (n := M.2.2.1) (by rw [ms_lgsl]; exact hsz)
  generalize (lg_sl (al.map (ms_cv G)) ++ List.replicate (M.2.2.1 - (lg_sl (al.map (ms_cv G))).length) Slot.unset).toArray = ls at hl ⊢
  rw [ms_lvargs] at hl
  refine k r hr p e _ s m _ below meth c s.heap [] 0 0 ls ⟨B.exec, B.bytes, B.returns, B.notSynchronized, hml, ?_, hT, ?_, hP.2.1, hP.2.2⟩ ⟨Nat.le_refl _, Nat.le_refl _, Nat.le_refl _, Nat.le_refl _⟩ (Nat.le_refl _) (Nat.le_refl _) hP (fun q hq => by cases hq) hl
  · rw [← hown]
    exact findClass_of_methodNamed B.named
  · exact htab.trans htb.symm
def MsYSW (M : MM) (hh : List (Nat × Nat × Nat × Nat)) : Prop := Cond.static M.2.2.2.2.1 ∈ lw_tbl ∧ Cond.initialized M.2.2.2.2.1.cls ∈ lw_tbl ∧ Cond.codeWith M.2.2.2.2.1 M.2.1 M.2.2.1 M.2.2.2.1 hh ∈ lw_tbl ∧ M.2.2.2.2.1.cls ≠ "java/lang/invoke/MethodHandle" ∧ M.2.2.2.2.1.cls ≠ "java/lang/invoke/VarHandle" ∧ M.2.2.1 ≤ 45
theorem ms_cSW {idx : Nat} {al : List Value} {x : Option β} (S : MsSpecW G M' hh d' mc' ms' al σ κ' x)
    (L : Cond.methodLink M.1 idx M'.2.2.2.2.1 ∈ lw_tbl) (F : MsYSW M' hh) (hd : decode M.2.1 pc = .ok (.invokestatic idx, 3))
    (hn : (parseMethodDescriptor M'.2.2.2.2.1.desc).map (fun d => d.parameters.length) = some al.length) (hdd : d' + 1 ≤ d) (hw : (rest.map fun v => v.category).sum ≤ 8) (hc1 : cu + mc' ≤ mc) (hs1 : su + ms' ≤ ms) :
    MsCall G M d mc ms cu su pc (al.reverse ++ rest) rest σ κ' x mc' ms' := by
  intro r0 hr p e R s m args below meth cc H locs cells slots ls Q X hR hc hs hP hL hl kk kx
  obtain ⟨f1, f3, f4, f5, f6, f7⟩ := F
  obtain ⟨x1, x2, x3, x4, x5, x6, x7, x8⟩ := X
  obtain ⟨w1, w2, w3, w4⟩ := hR
  have hts := x7.g (args := args)
  have cw : vx_CSW R s args M.1 idx M'.2.2.2.2.1 M'.2.1 M'.2.2.1 M'.2.2.2.1 hh [Cond.codeWith M'.2.2.2.2.1 M'.2.1 M'.2.2.1 M'.2.2.2.1 hh] (ms_room d' mc' ms') mc' ms' al.length :=
    ⟨⟨rfl, rfl, (by show d' + 1 ≤ R.frames; omega), (by show 8 + (M'.2.2.1 + 11) + 64 * d' ≤ R.locals; omega), fun w hw a' U hW => by
        rw [List.mem_singleton.mp hw]
        exact (x7.moved hW).w f4 rfl, List.mem_singleton.mpr rfl⟩, x7.w f4 rfl, x7.w f3 rfl, ⟨f5, f6⟩, fun sig h => by
        rw [h] at hn
        exact (Option.some.inj hn).symm, x7.w L rfl, x7.w f1 rfl⟩
  have hp : PreS s H (ms_pc G al σ) (al.map (ms_cv G)) := ⟨ms_blind, fun U hU hW => ⟨rfl, by rw [hU]; exact hP, x7.moved hW⟩⟩
  intro T hT XS
  have hstk : (al.reverse ++ rest).map (ms_cv G) = (al.map (ms_cv G)).reverse ++ rest.map (ms_cv G) := by
    rw [List.map_append, List.map_reverse]
  rw [hstk]
  rcases vx_runSX (g := F0 m pc ls ((al.map (ms_cv G)).reverse ++ rest.map (ms_cv G))) (rest := rest.map (ms_cv G)) (nL := M.2.2.1) ⟨x1, x2, x5, x6, hts⟩ (S r0 hr) cw hp rfl (List.length_map _) hl rfl (by show 2 * 0 + _ ≤ 8; rw [ms_sumcat]; omega) hd ⟨by omega, by omega⟩ T hT XS with ⟨v, st₀, t, T', L1, h0, X', hL1, e1, e2, hq, st⟩ | ⟨q, st₀, t, T', L1, E, ce, h0, X', hL1, e1, e2, hq, hce, hcv, hcl, st⟩
  · obtain ⟨v0, g1, g2, g3⟩ := hq
    cases g2
    obtain ⟨t2, a1, b1⟩ := kk v0 T'.heap (locs ++ L1) g1 (by rw [e1]; exact g3) (fun q hq => (List.mem_append.mp hq).elim (hL q) (hL1 q)) T' rfl X'
    exact ⟨t2, st t2 a1, b1⟩
  · obtain ⟨e0, g1, g2, g3⟩ := hq
    subst g2
    obtain ⟨t2, a1, b1⟩ := kx e0 T'.heap (locs ++ L1) q ce g1 (by rw [e1]; exact g3) (fun q hq => (List.mem_append.mp hq).elim (hL q) (hL1 q)) (by rw [e1]; exact hce) hcv hcl T' rfl X'
    exact ⟨t2, st.trans a1, b1⟩
/-! the script -/
def ms_xld (L : Nat) (xs : Nat → Int32) (i : Int32) : Option Int32 := if i < 0 ∨ L ≤ i.toNatClampNeg then none else some (xs i.toNatClampNeg)
theorem tr_xld {L : Nat} {xs : Nat → Int32} (hL : L = g_L G) (hxs : xs = g_xs G) {i : Int32} {f : Int32 → Option α} (hd : decode M.2.1 pc = .ok (.iaload, 1)) (kk : ∀ v, TrO G M d mc ms cu su κ (pc + 1) lv (.int v :: rest) σ (f v)) : TrO G M d mc ms cu su κ pc lv (.int i :: .ref 700 :: rest) σ ((ms_xld L xs i).bind f) := by
  intro r hr p e R s m args below meth c H locs cells slots ls X hR hc hs hP hl0 hl
  subst hL hxs
  obtain ⟨hin, hr⟩ := ms_if_s hr
  obtain ⟨scr, h1, h2, h3, h4, h5⟩ := X.2.2.2.2.2.2.1.2.2.2.2.2.1
  have hb : g_s G 700 < (g_H G).size := (Array.getElem?_eq_some_iff.mp h1).1
  have hlt : i.toNatClampNeg < g_L G := Nat.not_le.mp fun q => hin (Or.inr q)
  exact W.iald (v := .int (g_xs G i.toNatClampNeg)) X.1 X.2.1 ((hP.2.1 _ hb).trans h1) h2 h3 (by rw [h4]; exact hin) (h5 _ hlt) rfl rfl hd (kk _ r hr p e R s m args below meth c H locs cells slots ls X hR hc hs hP hl0 hl)
theorem tr_xlen {L : Nat} (hL : L = g_L G) (hd : decode M.2.1 pc = .ok (.arraylength, 1)) (kk : TrO G M d mc ms cu su κ (pc + 1) lv (.int (Int32.ofNat L) :: rest) σ o) : TrO G M d mc ms cu su κ pc lv (.ref 700 :: rest) σ o := by
  intro r hr p e R s m args below meth c H locs cells slots ls X hR hc hs hP hl0 hl
  subst hL
  obtain ⟨scr, h1, h2, h3, h4, h5⟩ := X.2.2.2.2.2.2.1.2.2.2.2.2.1
  have hb : g_s G 700 < (g_H G).size := (Array.getElem?_eq_some_iff.mp h1).1
  exact W.alen (n := Int32.ofNat (g_L G)) X.1 X.2.1 ((hP.2.1 _ hb).trans h1) h2 (by rw [h4] <;> rfl) rfl rfl hd (kk r hr p e R s m args below meth c H locs cells slots ls X hR hc hs hP hl0 hl)
/-! a call whose throws are caught: v goes on; e0 ends with the number that h tells -/
def ms_ct (x : Option (β ⊕ Nat)) (σ : MsSt) (f : β → Option (Int32 × MsSt)) (h : Nat → Option Int32) : Option (Int32 × MsSt) := x.bind fun r => match r with
  | .inl v => f v
  | .inr e => (h e).map fun v => (v, σ)
def ms_cx2 (x : Option ((β ⊕ Nat) × MsSt)) (f : β → MsSt → Option (Int32 × MsSt)) (h : Nat → Option Int32) : Option (Int32 × MsSt) := x.bind fun r => match r.1 with
  | .inl v => f v r.2
  | .inr e => (h e).map fun v => (v, r.2)
theorem ms_map_s {h : Nat → Option Int32} {e : Nat} {s : MsSt} {r : Int32 × MsSt} (hr : (h e).map (fun v => (v, s)) = some r) : ∃ v, h e = some v ∧ r = (v, s) := by
  cases hx : h e with
  | none => rw [hx] at hr; cases hr
  | some v => rw [hx] at hr; cases hr; exact ⟨v, rfl, rfl⟩
theorem tr_ct {stk : List Value} {x : Option (β ⊕ Nat)} {f : β → Option (Int32 × MsSt)} {h : Nat → Option Int32} {val : β → Value} {κt : (β ⊕ Nat) → MsRes} (hv : ∀ v, κt (.inl v) = (.inl (some (val v)), σ)) (hx : ∀ e, κt (.inr e) = (.inr e, σ))
    (hC : MsCall G M d mc ms cu su pc stk rest σ κt x mc' ms') (hc1 : cu + mc' ≤ mc) (hs1 : su + ms' ≤ ms) (hh : ∀ e v, h e = some v → MsCatch M G pc e v)
    (kk : ∀ v, TrO G M d mc ms (cu + mc') (su + ms') ms_wi (pc + 3) lv (val v :: rest) σ (f v)) : TrO G M d mc ms cu su ms_wi pc lv stk σ (ms_ct x σ f h) := by
  intro r hr
  haveI : DecidableEq (Int32 × MsSt) := fun _ _ => Classical.propDecidable _
  refine tr_callX (κ := ms_wi) (f := fun r0 => match r0 with | .inl v => (f v).bind fun y => if y = r then some y else none | .inr e => (h e).bind fun v => if (v, σ) = r then some (v, σ) else none) hC ?_ ?_ r ?_
  · intro r0 v e1 e2
    cases r0 with
    | inr e => rw [hx] at e2; cases e2
    | inl b =>
      rw [hv] at e2 ⊢
      cases e2
      intro r1 hr1
      obtain ⟨y, h1, h2⟩ := ms_bind_s hr1
      by_cases hy : y = r
      · rw [if_pos hy] at h2
        cases h2
        exact kk b _ h1
      · rw [if_neg hy] at h2
        cases h2
  · intro r0 e0 e1 e2
    cases r0 with
    | inl b => rw [hv] at e2; cases e2
    | inr e =>
      rw [hx] at e2 ⊢
      cases e2
      unfold ms_ct at hr
      rw [e1] at hr
      obtain ⟨v, h1, h2⟩ := ms_map_s hr
      refine ⟨v, hh _ _ h1, hc1, hs1, fun r1 hr1 => ?_⟩
      obtain ⟨y, h3, h4⟩ := ms_bind_s hr1
      rw [h1] at h3
      cases h3
      rw [if_pos h2.symm] at h4
      cases h4
      rfl
  · unfold ms_ct at hr
    obtain ⟨r0, e1, hr⟩ := ms_bind_s hr
    rw [e1]
    cases r0 with
    | inl b =>
      show (f b).bind _ = _
      rw [show f b = some r from hr]
      exact if_pos rfl
    | inr e =>
      obtain ⟨v, h1, h2⟩ := ms_map_s hr
      show (h e).bind _ = _
      rw [h1, h2]
      exact if_pos rfl
theorem tr_cx2 {stk : List Value} {x : Option ((β ⊕ Nat) × MsSt)} {f : β → MsSt → Option (Int32 × MsSt)} {h : Nat → Option Int32} {val : β → Value} {κt : (β ⊕ Nat) × MsSt → MsRes} (hv : ∀ v s, κt (.inl v, s) = (.inl (some (val v)), s)) (hx : ∀ e s, κt (.inr e, s) = (.inr e, s))
    (hC : MsCall G M d mc ms cu su pc stk rest σ κt x mc' ms') (hc1 : cu + mc' ≤ mc) (hs1 : su + ms' ≤ ms) (hh : ∀ e v, h e = some v → MsCatch M G pc e v)
    (kk : ∀ v s, TrO G M d mc ms (cu + mc') (su + ms') ms_wi (pc + 3) lv (val v :: rest) s (f v s)) : TrO G M d mc ms cu su ms_wi pc lv stk σ (ms_cx2 x f h) := by
  intro r hr
  haveI : DecidableEq (Int32 × MsSt) := fun _ _ => Classical.propDecidable _
  refine tr_callX (κ := ms_wi) (f := fun r0 => match r0.1 with | .inl v => (f v r0.2).bind fun y => if y = r then some y else none | .inr e => (h e).bind fun v => if (v, r0.2) = r then some (v, r0.2) else none) hC ?_ ?_ r ?_
  · intro r0 v e1 e2
    obtain ⟨r0, s⟩ := r0
    cases r0 with
    | inr e => rw [hx] at e2; cases e2
    | inl b =>
      rw [hv] at e2 ⊢
      cases e2
      intro r1 hr1
      obtain ⟨y, h1, h2⟩ := ms_bind_s hr1
      by_cases hy : y = r
      · rw [if_pos hy] at h2
        cases h2
        exact kk b s _ h1
      · rw [if_neg hy] at h2
        cases h2
  · intro r0 e0 e1 e2
    obtain ⟨r0, s⟩ := r0
    cases r0 with
    | inl b => rw [hv] at e2; cases e2
    | inr e =>
      rw [hx] at e2 ⊢
      cases e2
      unfold ms_cx2 at hr
      rw [e1] at hr
      obtain ⟨v, h1, h2⟩ := ms_map_s hr
      refine ⟨v, hh _ _ h1, hc1, hs1, fun r1 hr1 => ?_⟩
      obtain ⟨y, h3, h4⟩ := ms_bind_s hr1
      rw [h1] at h3
      cases h3
      rw [if_pos h2.symm] at h4
      cases h4
      rfl
  · unfold ms_cx2 at hr
    obtain ⟨⟨r0, s⟩, e1, hr⟩ := ms_bind_s hr
    rw [e1]
    cases r0 with
    | inl b =>
      show (f b s).bind _ = _
      rw [show f b s = some r from hr]
      exact if_pos rfl
    | inr e =>
      obtain ⟨v, h1, h2⟩ := ms_map_s hr
      show (h e).bind _ = _
      rw [h1, h2]
      exact if_pos rfl
end Cw
