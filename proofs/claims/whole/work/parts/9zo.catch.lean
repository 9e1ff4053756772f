/-! a call whose throw is caught here: astore, iconst, ireturn -/
section Ct
variable {α β : Type} {G : MG} {M : MM} {d mc ms cu su mc' ms' : Nat} {κ : α → MsRes} {κ' : β → MsRes} {pc : Nat} {lv : List (Nat × Value)} {rest : List Value} {σ : MsSt}
def MsCatch (M : MM) (G : MG) (pc e0 : Nat) (v : Int32) : Prop := ∃ (pre : List ExceptionTableEntry) (xe : ExceptionTableEntry) (suf : List ExceptionTableEntry) (h2 : Nat) (n : Int), M.2.2.2.2.2 = pre ++ xe :: suf ∧ (∀ z ∈ pre, covers z pc = false ∨ (z.catchType ≠ 0 ∧ ∃ nm : String, Cond.classLink M.1 z.catchType nm ∈ lw_tbl ∧ ∀ s, ms_tk G s → va_Nc (ms_xn e0) nm s)) ∧ covers xe pc = true ∧ xe.catchType ≠ 0 ∧ Cond.classLink M.1 xe.catchType (ms_xn e0) ∈ lw_tbl ∧ Cond.castable (ms_xn e0) (ms_xn e0) ∈ lw_tbl ∧ ((∃ k : Fin 4, decode M.2.1 xe.handlerPc = .ok (.astore_n k, 1) ∧ (k : Nat) < M.2.2.1 ∧ h2 = xe.handlerPc + 1) ∨ (∃ k : Nat, decode M.2.1 xe.handlerPc = .ok (.astore k, 2) ∧ k < M.2.2.1 ∧ h2 = xe.handlerPc + 2)) ∧ decode M.2.1 h2 = .ok (.iconst n, 1) ∧ Int32.ofInt n = v ∧ decode M.2.1 (h2 + 1) = .ok (.ireturn, 1) ∧ M.2.2.2.1 = some .int
theorem tr_callX {stk : List Value} {x : Option β} {f : β → Option α} (hC : MsCall G M d mc ms cu su pc stk rest σ κ' x mc' ms')
    (kk : ∀ r0 v, x = some r0 → (κ' r0).1 = .inl v → TrO G M d mc ms (cu + mc') (su + ms') κ (pc + 3) lv (v.toList ++ rest) (κ' r0).2 (f r0))
    (kx : ∀ r0 e0, x = some r0 → (κ' r0).1 = .inr e0 → ∃ v, MsCatch M G pc e0 v ∧ cu + mc' ≤ mc ∧ su + ms' ≤ ms ∧ ∀ r, f r0 = some r → κ r = (.inl (some (.int v)), (κ' r0).2)) :
    TrO G M d mc ms cu su κ pc lv stk σ (x.bind f) := by
  intro r hr p e R s m args below meth c H locs cells slots ls X hR hc hs hP hL hl
  obtain ⟨r0, hx, hr⟩ := ms_bind_s hr
  refine hC r0 hx p e R s m args below meth c H locs cells slots ls _ X hR hc hs hP hL hl.1 (fun v H' locs' h1 h2 h3 => ?_) (fun e0 H' locs' q ce h1 h2 h3 h4 h5 h6 => ?_)
  · have h := kk r0 v hx h1 r hr p e R s m args below meth c H' locs' (cells + mc') (slots + ms') ls X hR (by omega) (by omega) h2 h3 hl
    rw [List.map_append] at h
    have e9 : v.toList.map (ms_cv G) = (v.map (ms_cv G)).toList := by cases v <;> rfl
    rw [e9] at h
    exact h
  · obtain ⟨v, ⟨pre, xe, suf, hh, n, g1, g2, g3, g4, g5, g6, g7, g8, g9, g10, g11⟩, w1, w2, w3⟩ := kx r0 e0 hx h1
    have hlocks : meth.locks = false := X.2.2.2.1
    have fin : ∀ ls', W p (g_l G) e R s m args below meth c H' locs' (cells + mc') (slots + ms') (vx_MQ below (ms_qc G (κ r)) (ms_xc G (κ r)) args s mc ms (fun q => (g_H G).size ≤ q)) (F0 m hh ls' []) := fun ls' => by
      refine lv_iconst X.1 X.2.1 g8 g9 ?_
      refine W.widen (k := mc) (n := ms) (by omega) (by omega) (vx_ret ?_)
      exact W.iret (v := v) X.1 X.2.1 (X.2.2.1.trans g11) (fun t ht hW => ms_qend (w3 r hr) h2 ht) h3 g10 hlocks
    refine vx_catch (own := M.1) (name := ms_xn e0) (E := ms_xn e0) X.2.2.2.2.2.1 pre xe suf (X.2.2.2.2.2.2.2.1.trans g1) (fun z hz => ?_) g3 g4 (X.2.2.2.2.2.2.1.w g5 rfl) (X.2.2.2.2.2.2.1.w g6 rfl) h4 h5 h6 ?_
    · rcases g2 z hz with a | ⟨a, nm, b1, b2⟩
      · exact Or.inl a
      · exact Or.inr ⟨a, nm, X.2.2.2.2.2.2.1.w b1 rfl, b2 s X.2.2.2.2.2.2.1⟩
    · rcases g7 with ⟨k, a1, a2, a3⟩ | ⟨k, a1, a2, a3⟩
      · refine lv_astore_n X.1 X.2.1 a1 rfl hl a2 rfl (fun ls' hl2 => ?_)
        rw [← a3]
        exact fin ls'
      · refine lv_astore X.1 X.2.1 a1 hl a2 rfl (fun ls' hl2 => ?_)
        rw [← a3]
        exact fin ls'
end Ct
