/-! query: factors, and the whole of a test -/
section Q6
variable {σ τ : MsSt} {B w : Nat → Nat} {E : Nat}
theorem par_conj {d : Nat} {rC : MsSt → Nat → Int32 → Option (Int64 × MsSt)} {rM : MsSt → Nat → Option MsSt} (hE : E ≤ 200) (hP : Par w B E d (fun σ => rC σ 276 (iZ (d : Int))) (fun τ => rM τ 493)) : Par w B E d (fun σ => f_X4_readConjunction rC σ 276 (iZ (d : Int))) (fun τ => f_X12_compileConjunction rM τ 493) := by
  intro σ τ C s hS hQ hd hC
  obtain ⟨s1, t1, h1, a1, a2, a3, a4, a5, a6, a7⟩ := hP σ τ C s hS hQ hd hC
  obtain ⟨σ', τ', h', b1, b2, b3, b4, b5, b6, b7⟩ := s_loop (o := -24) (op := fun x y => x &&& y) (cb := fun x y => x && y) (LC := fun n σ h l => f_X4_readConjunction_9 rC n σ 276 (iZ (d : Int)) h l) (LM := fun n τ => f_X12_compileConjunction_4 rM n τ 493) str_and.1 str_and.2 hE hP
    (fun n σ h l => by
      show (if l < 200 then (f_X9_isWord σ (ms_rf 276 0) 628).bind fun v3 => if v3 = 0 then some (h, σ) else (f_X9_advance σ (ms_rf 276 0)).bind fun s4 => ms_b2 (rC s4 276 (iZ (d : Int))) fun v5 s6 => f_X4_readConjunction_9 rC n s6 276 (iZ (d : Int)) (h &&& v5) (l + 1) else some (h, σ)) = _
      rw [z_rf0])
    (fun n τ => rfl) (by omega) (by omega) (by omega) op_and (fun x y => by cases x <;> cases y <;> rfl) (fun g g' => mk_and g g') 201 0 ms_fuel ms_fuel σ s1 t1 C s h1 (show 201 < 100000 by omega) (show 201 < 100000 by omega) (by omega) a3 (hQ.fr a6 (fun a k g => g)) a5 (fun g => by
      obtain ⟨y1, c, s', f, y2, y3, y4, y5⟩ := a4 g
      exact ⟨y1, (hC y1).2, c, s', f, y2, y3, y4, y5, by omega, by omega⟩)
  have b1' : f_X4_readConjunction_9 rC ms_fuel s1 276 (iZ (d : Int)) h1 0 = some (h', σ') := b1
  have b2' : f_X12_compileConjunction_4 rM ms_fuel t1 493 = some τ' := b2
  dsimp only at a1 a2
  refine ⟨σ', τ', h', ?_, ?_, b3, b4, b5, a6.trans b6, a7.trans b7⟩
  · dsimp only
    unfold f_X4_readConjunction
    rw [a1, b2_s, b1']
  · dsimp only
    unfold f_X12_compileConjunction
    rw [a2, Option.bind_some, b2']
theorem par_test {d : Nat} {rC : MsSt → Nat → Int32 → Option (Int64 × MsSt)} {rM : MsSt → Nat → Option MsSt} (hE : E ≤ 200) (hP : Par w B E d (fun σ => rC σ 276 (iZ (d : Int))) (fun τ => rM τ 493)) : Par w B E d (fun σ => f_X4_readTest rC σ 276 (iZ (d : Int))) (fun τ => f_X12_compileTest rM τ 493) := by
  intro σ τ C s hS hQ hd hC
  have hP' := par_conj hE hP
  obtain ⟨s1, t1, h1, a1, a2, a3, a4, a5, a6, a7⟩ := hP' σ τ C s hS hQ hd hC
  obtain ⟨σ', τ', h', b1, b2, b3, b4, b5, b6, b7⟩ := s_loop (o := -25) (op := fun x y => x ||| y) (cb := fun x y => x || y) (LC := fun n σ h l => f_X4_readTest_9 rC n σ 276 (iZ (d : Int)) h l) (LM := fun n τ => f_X12_compileTest_4 rM n τ 493) str_or.1 str_or.2 hE hP'
    (fun n σ h l => by
      show (if l < 200 then (f_X9_isWord σ (ms_rf 276 0) 629).bind fun v3 => if v3 = 0 then some (h, σ) else (f_X9_advance σ (ms_rf 276 0)).bind fun s4 => ms_b2 (f_X4_readConjunction rC s4 276 (iZ (d : Int))) fun v5 s6 => f_X4_readTest_9 rC n s6 276 (iZ (d : Int)) (h ||| v5) (l + 1) else some (h, σ)) = _
      rw [z_rf0])
    (fun n τ => rfl) (by omega) (by omega) (by omega) op_or (fun x y => by cases x <;> cases y <;> rfl) (fun g g' => mk_or g g') 201 0 ms_fuel ms_fuel σ s1 t1 C s h1 (show 201 < 100000 by omega) (show 201 < 100000 by omega) (by omega) a3 (hQ.fr a6 (fun a k g => g)) a5 (fun g => by
      obtain ⟨y1, c, s', f, y2, y3, y4, y5⟩ := a4 g
      exact ⟨y1, (hC y1).2, c, s', f, y2, y3, y4, y5, by omega, by omega⟩)
  have b1' : f_X4_readTest_9 rC ms_fuel s1 276 (iZ (d : Int)) h1 0 = some (h', σ') := b1
  have b2' : f_X12_compileTest_4 rM ms_fuel t1 493 = some τ' := b2
  dsimp only at a1 a2
  refine ⟨σ', τ', h', ?_, ?_, b3, b4, b5, a6.trans b6, a7.trans b7⟩
  · dsimp only
    unfold f_X4_readTest
    rw [a1, b2_s, b1']
  · dsimp only
    unfold f_X12_compileTest
    rw [a2, Option.bind_some, b2']
theorem sym_pos {σ' : MsSt} {c : Int32} (h : Sim σ τ B E) (ht : f_X9_takeSymbol σ 1 c = some σ') (hk' : okT σ') : f_X9_advance σ 1 = some σ' := by
  unfold f_X9_takeSymbol at ht
  cases hs : f_X9_isSymbol σ 1 c with
  | none => rw [hs] at ht; cases ht
  | some v =>
    rw [hs, Option.bind_some] at ht
    by_cases g : v = 0
    · rw [if_pos g] at ht
      obtain ⟨s1, t1, a1, a2, a3, a4, a5, a6⟩ := s_fail h (c := 1) (by omega) (by omega)
      have a1' : f_X9_fail σ 1 1 = some s1 := a1
      obtain ⟨s2, t2, b1, b2, b3, b4, b5, b6⟩ := s_advance a3
      rw [a1', Option.bind_some, b1, Option.bind_some] at ht
      have e := Option.some.inj ht
      subst e
      exact absurd (b4.mp hk') a4
    · rw [if_neg g] at ht
      obtain ⟨s2, t2, b1, b2, b3, b4, b5, b6⟩ := s_advance h
      rw [b1, Option.bind_some] at ht
      rw [b1, Option.some.inj ht]
end Q6
