/-! the makings: a store that grows, place by place, in the order of the static shape -/
section Cd
abbrev DSt : Type := Nat × Nat × List (Nat × Nat × Int32)
def cd_v : List (Nat × Nat × Int32) → Nat → Nat → Int32
  | [], _, _ => 0
  | x :: w, a, k => if x.1 = a ∧ x.2.1 = k then x.2.2 else cd_v w a k
def cd_s (δ : DSt) (a k : Nat) : Bool := decide (k < 64) && Nat.testBit δ.2.1 (a * 64 + k)
variable {G : MG}
def cd_fv (G : MG) (δ : DSt) (a c k : Nat) : Value := if ms_isr c k = true then (if cd_s δ a k = true then .ref (ms_ad G (ms_rf a k)) else .null) else .int (cd_v δ.2.2 a k)
def cd_av (G : MG) (δ : DSt) (a ak k : Nat) : Value := if ak = 2 then .long 0 else if ak = 3 then .double 0 else if ak < 2 then .int (cd_v δ.2.2 a k) else if cd_s δ a k = true then .ref (ms_ad G (ms_rf a k)) else .null
def cd_ob (G : MG) (δ : DSt) (a c : Nat) (H : Heap) : Prop := ∃ r : vw_C, ms_cl[c]? = some r ∧ t_OB (ms_ad G a) ((g_D G).1 c) r.2.2 ((g_D G).2 c) H (cd_fv G δ a c)
def cd_ar (G : MG) (δ : DSt) (a ak : Nat) (H : Heap) : Prop := H[ms_ad G a]? = some (arrV (g_A G ak) (ms_ln a) (cd_av G δ a ak))
def cd_at (G : MG) (δ : DSt) (a : Nat) (H : Heap) : Prop := (∀ c, ms_kd a = c + 1 → c < 13 → cd_ob G δ a c H) ∧ ∀ ak, ms_kd a = ak + 20 → cd_ar G δ a ak H
def cd_rep (G : MG) (δ : DSt) (H : Heap) : Prop := H.size = (g_H G).size + δ.1 ∧ δ.1 ≤ 519 ∧ (∀ a, a < δ.1 → cd_at G δ a H) ∧ (∀ q, q < (g_H G).size → H[q]? = (g_H G)[q]?) ∧ ∀ a, δ.1 ≤ a → ∀ k, cd_v δ.2.2 a k = 0 ∧ cd_s δ a k = false
/-! what is done to it; each result is told in full -/
def cd_f1 {α : Type} (n : Nat) (f : Nat → Option α) : Option α := match n with
  | 0 => f 0
  | m + 1 => f (m + 1)
def cd_f2 {α β : Type} (w : List β) (f : List β → Option α) : Option α := match w with
  | [] => f []
  | x :: t => f (x :: t)
def cd_mk (n S : Nat) (w : List (Nat × Nat × Int32)) : Option DSt := cd_f1 n fun n => cd_f1 S fun S => cd_f2 w fun w => some (n, S, w)
theorem cd_mk_eq (n S : Nat) (w : List (Nat × Nat × Int32)) : cd_mk n S w = some (n, S, w) := by
  unfold cd_mk cd_f1 cd_f2
  cases n <;> cases S <;> cases w <;> rfl
def cd_new (δ : DSt) (c : Nat) : Option DSt := if ms_kd δ.1 = c + 1 then cd_mk (δ.1 + 1) δ.2.1 δ.2.2 else none
def cd_arr (δ : DSt) (ak : Nat) (l : Int32) : Option DSt := if ms_kd δ.1 = ak + 20 ∧ ¬ l < 0 ∧ l.toNatClampNeg = ms_ln δ.1 then cd_mk (δ.1 + 1) δ.2.1 δ.2.2 else none
def cd_wi (w : List (Nat × Nat × Int32)) (a k : Nat) (x : Int32) : List (Nat × Nat × Int32) := if x = 0 ∧ cd_v w a k = 0 then w else (a, k, x) :: w
def cd_pi (δ : DSt) (c a k : Nat) (x : Int32) : Option DSt := if ms_kd a = c + 1 ∧ a < δ.1 then cd_mk δ.1 δ.2.1 (cd_wi δ.2.2 a k x) else none
def cd_pr (δ : DSt) (c a k v : Nat) : Option DSt := if ms_kd a = c + 1 ∧ a < δ.1 ∧ ms_rf a k = v ∧ k < 64 then cd_mk δ.1 (δ.2.1 ||| (1 <<< (a * 64 + k))) δ.2.2 else none
def cd_gr (δ : DSt) (c a k : Nat) : Option Nat := if ms_kd a = c + 1 ∧ a < δ.1 ∧ cd_s δ a k = true then some (ms_rf a k) else none
def cd_ln (δ : DSt) (ak a : Nat) : Option Int32 := if ms_kd a = ak + 20 ∧ a < δ.1 then some (Int32.ofNat (ms_ln a)) else none
def cd_as (δ : DSt) (ak a : Nat) (i : Int32) (v : Nat) : Option DSt := if ms_kd a = ak + 20 ∧ a < δ.1 ∧ ¬ i < 0 ∧ i.toNatClampNeg < ms_ln a ∧ ms_rf a i.toNatClampNeg = v ∧ i.toNatClampNeg < 64 then cd_mk δ.1 (δ.2.1 ||| (1 <<< (a * 64 + i.toNatClampNeg))) δ.2.2 else none
def cd_ai (δ : DSt) (a : Nat) (i x : Int32) : Option DSt := if ms_kd a = 20 ∧ a < δ.1 ∧ ¬ i < 0 ∧ i.toNatClampNeg < ms_ln a then cd_mk δ.1 δ.2.1 (cd_wi δ.2.2 a i.toNatClampNeg x) else none
theorem cd_wi_same (w : List (Nat × Nat × Int32)) (a k : Nat) (x : Int32) : cd_v (cd_wi w a k x) a k = x := by
  unfold cd_wi
  by_cases h : x = 0 ∧ cd_v w a k = 0
  · rw [if_pos h, h.2, h.1]
  · rw [if_neg h]
    exact if_pos ⟨rfl, rfl⟩
theorem cd_wi_ne (w : List (Nat × Nat × Int32)) {a k b j : Nat} (x : Int32) (h1 : b ≠ a ∨ j ≠ k) : cd_v (cd_wi w a k x) b j = cd_v w b j := by
  unfold cd_wi
  by_cases h : x = 0 ∧ cd_v w a k = 0
  · rw [if_pos h]
  · rw [if_neg h]
    refine if_neg ?_
    rintro ⟨q1, q2⟩
    rcases h1 with q | q
    · exact q q1.symm
    · exact q q2.symm
theorem cd_s_same {n S a k : Nat} {w : List (Nat × Nat × Int32)} (hk : k < 64) : cd_s (n, S ||| (1 <<< (a * 64 + k)), w) a k = true := by
  unfold cd_s
  show (decide (k < 64) && Nat.testBit (S ||| (1 <<< (a * 64 + k))) (a * 64 + k)) = true
  rw [Nat.testBit_or, Nat.one_shiftLeft, Nat.testBit_two_pow, decide_eq_true hk]
  simp
theorem cd_s_ne {n m S a k b j : Nat} {w w' : List (Nat × Nat × Int32)} (hk : k < 64) (h : b ≠ a ∨ j ≠ k) : cd_s (n, S ||| (1 <<< (a * 64 + k)), w) b j = cd_s (m, S, w') b j := by
  unfold cd_s
  show (decide (j < 64) && Nat.testBit (S ||| (1 <<< (a * 64 + k))) (b * 64 + j)) = (decide (j < 64) && Nat.testBit S (b * 64 + j))
  by_cases hj : j < 64
  · rw [Nat.testBit_or, Nat.one_shiftLeft, Nat.testBit_two_pow, decide_eq_false (by omega : ¬ a * 64 + k = b * 64 + j), Bool.or_false]
  · rw [decide_eq_false hj]
    rfl
/-! rooms: how many fields and places the first n cells have -/
def cd_sl (a : Nat) : Nat := if ms_kd a < 14 then ((ms_cl[ms_kd a - 1]?).map fun r => r.2.2).getD 0 else ms_ln a
def cd_z : Nat → Nat
  | 0 => 0
  | n + 1 => cd_z n + cd_sl n
theorem cd_z_mono {a b : Nat} (h : a ≤ b) : cd_z a ≤ cd_z b := by
  induction b with
  | zero => rw [show a = 0 by omega]; exact Nat.le_refl _
  | succ b ih =>
    by_cases hab : a ≤ b
    · exact Nat.le_trans (ih hab) (Nat.le_add_right _ _)
    · rw [show a = b + 1 by omega]; exact Nat.le_refl _
/-! the judgement -/
def ms_tc (G : MG) (U : State) : Prop := (∀ ak, ak < 8 → va_RA U (g_A G ak) (ms_akty ak)) ∧ ∀ ak, 4 ≤ ak → ak < 8 → ∃ C, ms_akty ak = .object C ∧ va_AO C U
theorem ms_tc.moved {s U : State} (hvm : s.vm.Alike U.vm) (h : ms_tc G s) : ms_tc G U := ⟨fun ak hk => (h.1 ak hk).moved hvm, fun ak h4 h8 => by
  obtain ⟨C, e, q⟩ := h.2 ak h4 h8
  exact ⟨C, e, q.moved hvm⟩⟩
def CdX (G : MG) (M : MM) (d : Nat) (p : Program) (s : State) (m : MethodId) (args : Array Value) (meth : Method) (c : Code) (R : Room) : Prop := ms_cx G M p s m args meth c ∧ ms_tc G s ∧ (M.2.2.2.2.1.name = "<init>" → meth.name = "<init>") ∧ d ≤ R.frames ∧ 64 * d ≤ R.locals
def CdS (G : MG) (M : MM) (c0 s0 : Nat) (δ : DSt) (lv : List (Nat × Value)) (H : Heap) (locs : List Loc) (cells slots : Nat) (ls : Array Slot) : Prop := cells + c0 ≤ δ.1 ∧ slots + s0 ≤ cd_z δ.1 ∧ cd_rep G δ H ∧ (∀ q ∈ locs, (g_H G).size ≤ q.base) ∧ lv_has ls M.2.2.1 (ms_mp G lv)
/-- from here, with this store, the run comes to the place pc2 with δ', for every δ' that o has -/
def TrC (G : MG) (M : MM) (d c0 s0 : Nat) (pc2 : Nat) (lv2 : List (Nat × Value)) (pc : Nat) (lv : List (Nat × Value)) (st : List Value) (δ : DSt) (o : Option DSt) : Prop :=
  ∀ δ', o = some δ' → δ.1 ≤ δ'.1 ∧ ∀ (p : Program) (e : Env) (R : Room) (s : State) (m : MethodId) (args : Array Value) (below : List Frame) (meth : Method) (c : Code) (H : Heap) (locs : List Loc) (cells slots : Nat) (ls : Array Slot) (Q : State → Prop),
    CdX G M d p s m args meth c R → δ'.1 ≤ R.cells + c0 → cd_z δ'.1 ≤ R.slots + s0 → CdS G M c0 s0 δ lv H locs cells slots ls →
    (∀ (H' : Heap) (locs' : List Loc) (cells' slots' : Nat) (ls' : Array Slot), CdS G M c0 s0 δ' lv2 H' locs' cells' slots' ls' → W p (g_l G) e R s m args below meth c H' locs' cells' slots' Q (F0 m pc2 ls' [])) →
    W p (g_l G) e R s m args below meth c H locs cells slots Q (F0 m pc ls (st.map (ms_cv G)))
variable {M M' : MM} {d c0 s0 pc2 : Nat} {lv2 : List (Nat × Value)} {pc : Nat} {lv : List (Nat × Value)} {rest : List Value} {δ : DSt} {o : Option DSt}
theorem tc_end : TrC G M d c0 s0 pc lv pc lv [] δ (some δ) := by
  intro δ' h
  cases h
  exact ⟨Nat.le_refl _, fun p e R s m args below meth c H locs cells slots ls Q X h1 h2 S K => K H locs cells slots ls S⟩
theorem tc_none {st : List Value} : TrC G M d c0 s0 pc2 lv2 pc lv st δ none := fun _ h => by cases h
theorem tc_step {pc1 : Nat} {lv1 : List (Nat × Value)} {st st1 : List Value}
    (h : ∀ (p : Program) (e : Env) (R : Room) (s : State) (m : MethodId) (args : Array Value) (below : List Frame) (meth : Method) (c : Code) (H : Heap) (locs : List Loc) (cells slots : Nat) (ls : Array Slot) (Q : State → Prop), CdX G M d p s m args meth c R → cells ≤ R.cells → slots ≤ R.slots → cd_rep G δ H → lv_has ls M.2.2.1 (ms_mp G lv) →
      (∀ ls', lv_has ls' M.2.2.1 (ms_mp G lv1) → W p (g_l G) e R s m args below meth c H locs cells slots Q (F0 m pc1 ls' (st1.map (ms_cv G)))) → W p (g_l G) e R s m args below meth c H locs cells slots Q (F0 m pc ls (st.map (ms_cv G))))
    (k : TrC G M d c0 s0 pc2 lv2 pc1 lv1 st1 δ o) : TrC G M d c0 s0 pc2 lv2 pc lv st δ o := by
  intro δ' hδ
  obtain ⟨hm, kk⟩ := k δ' hδ
  refine ⟨hm, fun p e R s m args below meth c H locs cells slots ls Q X h1 h2 S K => ?_⟩
  obtain ⟨a1, a2, a3, a4, a5⟩ := S
  have hz := cd_z_mono hm
  exact h p e R s m args below meth c H locs cells slots ls Q X (by omega) (by omega) a3 a5 (fun ls' hl' => kk p e R s m args below meth c H locs cells slots ls' Q X h1 h2 ⟨a1, a2, a3, a4, hl'⟩ K)
theorem tc_aload_n {k : Fin 4} {i x : Nat} (hd : decode M.2.1 pc = .ok (.aload_n k, 1)) (hv : lv[i]? = some ((k : Nat), .ref x)) (kk : TrC G M d c0 s0 pc2 lv2 (pc + 1) lv (.ref x :: rest) δ o) : TrC G M d c0 s0 pc2 lv2 pc lv rest δ o :=
  tc_step (fun p e R s m args below meth c H locs cells slots ls Q X hc hs hP hl K => lv_aload_n X.1.1 X.1.2.1 hd rfl (ms_lvat hl hv) (K ls hl)) kk
theorem tc_iload_n {k : Fin 4} {i : Nat} {x : Int32} (hd : decode M.2.1 pc = .ok (.iload_n k, 1)) (hv : lv[i]? = some ((k : Nat), .int x)) (kk : TrC G M d c0 s0 pc2 lv2 (pc + 1) lv (.int x :: rest) δ o) : TrC G M d c0 s0 pc2 lv2 pc lv rest δ o :=
  tc_step (fun p e R s m args below meth c H locs cells slots ls Q X hc hs hP hl K => lv_iload_n X.1.1 X.1.2.1 hd rfl (ms_lvat hl hv) (K ls hl)) kk
theorem tc_iconst {n : Int} {v : Int32} (hd : decode M.2.1 pc = .ok (.iconst n, 1)) (hv : Int32.ofInt n = v) (kk : TrC G M d c0 s0 pc2 lv2 (pc + 1) lv (.int v :: rest) δ o) : TrC G M d c0 s0 pc2 lv2 pc lv rest δ o :=
  tc_step (fun p e R s m args below meth c H locs cells slots ls Q X hc hs hP hl K => lv_iconst X.1.1 X.1.2.1 hd hv (K ls hl)) kk
theorem tc_bipush {n : Int} {v : Int32} (hd : decode M.2.1 pc = .ok (.bipush n, 2)) (hv : (Int8.ofInt n).toInt32 = v) (kk : TrC G M d c0 s0 pc2 lv2 (pc + 2) lv (.int v :: rest) δ o) : TrC G M d c0 s0 pc2 lv2 pc lv rest δ o :=
  tc_step (fun p e R s m args below meth c H locs cells slots ls Q X hc hs hP hl K => lv_bipush X.1.1 X.1.2.1 hd hv (K ls hl)) kk
theorem tc_sipush {n : Int} {v : Int32} (hd : decode M.2.1 pc = .ok (.sipush n, 3)) (hv : (Int16.ofInt n).toInt32 = v) (kk : TrC G M d c0 s0 pc2 lv2 (pc + 3) lv (.int v :: rest) δ o) : TrC G M d c0 s0 pc2 lv2 pc lv rest δ o :=
  tc_step (fun p e R s m args below meth c H locs cells slots ls Q X hc hs hP hl K => lv_sipush X.1.1 X.1.2.1 hd hv (K ls hl)) kk
theorem tc_dup {v : Value} (hd : decode M.2.1 pc = .ok (.dup, 1)) (hc1 : v.category = 1) (kk : TrC G M d c0 s0 pc2 lv2 (pc + 1) lv (v :: v :: rest) δ o) : TrC G M d c0 s0 pc2 lv2 pc lv (v :: rest) δ o :=
  tc_step (fun p e R s m args below meth c H locs cells slots ls Q X hc hs hP hl K => lv_dup X.1.1 X.1.2.1 hd (by rw [ms_cv_cat]; exact hc1) (K ls hl)) kk
theorem tc_istore_n {k : Fin 4} {x : Int32} {lv' : List (Nat × Value)} (ps : List Nat) (hd : decode M.2.1 pc = .ok (.istore_n k, 1)) (hn : (k : Nat) < M.2.2.1) (hl' : ms_pk (ms_st1 lv (k : Nat) (.int x)) ps = lv') (kk : TrC G M d c0 s0 pc2 lv2 (pc + 1) lv' rest δ o) : TrC G M d c0 s0 pc2 lv2 pc lv (.int x :: rest) δ o :=
  tc_step (fun p e R s m args below meth c H locs cells slots ls Q X hc hs hP hl K => lv_istore_n X.1.1 X.1.2.1 hd rfl hl hn (lv' := ms_mp G (ms_st1 lv (k : Nat) (.int x))) (by rw [ms_mp_st1]; rfl) (fun ls' hl2 => K ls' (ms_lvpk hl2 hl'))) kk
theorem tc_istore {k : Nat} {x : Int32} {lv' : List (Nat × Value)} (ps : List Nat) (hd : decode M.2.1 pc = .ok (.istore k, 2)) (hn : k < M.2.2.1) (hl' : ms_pk (ms_st1 lv k (.int x)) ps = lv') (kk : TrC G M d c0 s0 pc2 lv2 (pc + 2) lv' rest δ o) : TrC G M d c0 s0 pc2 lv2 pc lv (.int x :: rest) δ o :=
  tc_step (fun p e R s m args below meth c H locs cells slots ls Q X hc hs hP hl K => lv_istore X.1.1 X.1.2.1 hd hl hn (lv' := ms_mp G (ms_st1 lv k (.int x))) (by rw [ms_mp_st1]; rfl) (fun ls' hl2 => K ls' (ms_lvpk hl2 hl'))) kk
theorem tc_astore_n {k : Fin 4} {x : Nat} {lv' : List (Nat × Value)} (ps : List Nat) (hd : decode M.2.1 pc = .ok (.astore_n k, 1)) (hn : (k : Nat) < M.2.2.1) (hl' : ms_pk (ms_st1 lv (k : Nat) (.ref x)) ps = lv') (kk : TrC G M d c0 s0 pc2 lv2 (pc + 1) lv' rest δ o) : TrC G M d c0 s0 pc2 lv2 pc lv (.ref x :: rest) δ o :=
  tc_step (fun p e R s m args below meth c H locs cells slots ls Q X hc hs hP hl K => lv_astore_n X.1.1 X.1.2.1 hd rfl hl hn (lv' := ms_mp G (ms_st1 lv (k : Nat) (.ref x))) (by rw [ms_mp_st1]; rfl) (fun ls' hl2 => K ls' (ms_lvpk hl2 hl'))) kk
theorem tc_astore {k x : Nat} {lv' : List (Nat × Value)} (ps : List Nat) (hd : decode M.2.1 pc = .ok (.astore k, 2)) (hn : k < M.2.2.1) (hl' : ms_pk (ms_st1 lv k (.ref x)) ps = lv') (kk : TrC G M d c0 s0 pc2 lv2 (pc + 2) lv' rest δ o) : TrC G M d c0 s0 pc2 lv2 pc lv (.ref x :: rest) δ o :=
  tc_step (fun p e R s m args below meth c H locs cells slots ls Q X hc hs hP hl K => lv_astore X.1.1 X.1.2.1 hd hl hn (lv' := ms_mp G (ms_st1 lv k (.ref x))) (by rw [ms_mp_st1]; rfl) (fun ls' hl2 => K ls' (ms_lvpk hl2 hl'))) kk
theorem tc_iinc {i k : Nat} {n : Int} {x v : Int32} {lv' : List (Nat × Value)} (ps : List Nat) (hd : decode M.2.1 pc = .ok (.iinc i n, 3)) (hk : lv[k]? = some (i, .int x)) (hv : x + Int32.ofInt n = v) (hn : i < M.2.2.1) (hl' : ms_pk (ms_st1 lv i (.int v)) ps = lv') (kk : TrC G M d c0 s0 pc2 lv2 (pc + 3) lv' rest δ o) : TrC G M d c0 s0 pc2 lv2 pc lv rest δ o :=
  tc_step (fun p e R s m args below meth c H locs cells slots ls Q X hc hs hP hl K => lv_iinc X.1.1 X.1.2.1 hd hl (k := k) (ms_mpat hk) hv hn (lv' := ms_mp G (ms_st1 lv i (.int v))) (by rw [ms_mp_st1]; rfl) (fun ls' hl2 => K ls' (ms_lvpk hl2 hl'))) kk
theorem tc_goto {off : Int} {tgt : Nat} (hd : decode M.2.1 pc = .ok (.goto off, 3)) (ht : (pc : Int) + off = (tgt : Int)) (kk : TrC G M d c0 s0 pc2 lv2 tgt lv rest δ o) : TrC G M d c0 s0 pc2 lv2 pc lv rest δ o :=
  tc_step (fun p e R s m args below meth c H locs cells slots ls Q X hc hs hP hl K => lv_goto X.1.1 X.1.2.1 hd ht (K ls hl)) kk
theorem tc_icge {x y : Int32} {off : Int} {tgt : Nat} {o1 o2 : Option DSt} (hd : decode M.2.1 pc = .ok (.if_icmp .ge off, 3)) (ht : (pc : Int) + off = (tgt : Int)) (kt : TrC G M d c0 s0 pc2 lv2 tgt lv rest δ o2) (kf : TrC G M d c0 s0 pc2 lv2 (pc + 3) lv rest δ o1) : TrC G M d c0 s0 pc2 lv2 pc lv (.int y :: .int x :: rest) δ (if x < y then o1 else o2) := by
  by_cases hh : x < y
  · rw [if_pos hh]
    exact tc_step (fun p e R s m args below meth c H locs cells slots ls Q X hc hs hP hl K => lv_icmp_ge X.1.1 X.1.2.1 hd ht (fun h => absurd hh (ms_nlt h)) (fun h => K ls hl)) kf
  · rw [if_neg hh]
    exact tc_step (fun p e R s m args below meth c H locs cells slots ls Q X hc hs hP hl K => lv_icmp_ge X.1.1 X.1.2.1 hd ht (fun h => K ls hl) (fun h => absurd (ms_lt h) hh)) kt
theorem tc_ldcs {idx : Nat} (j : Nat) {tx : String} (hj : j < 50) (ht : ms_tx.getD j ("", 0, "") = (M.1, idx, tx)) (hd : decode M.2.1 pc = .ok (.ldc idx, 2)) (kk : TrC G M d c0 s0 pc2 lv2 (pc + 2) lv (.ref (600 + j) :: rest) δ o) : TrC G M d c0 s0 pc2 lv2 pc lv rest δ o := by
  refine tc_step (fun p e R s m args below meth c H locs cells slots ls Q X hc hs hP hl K => ?_) kk
  have h1 := X.1.2.2.2.2.2.2.1.2.2.2.2.1 j hj
  rw [ht] at h1
  have h2 := K ls hl
  refine va_ldcS X.1.1 X.1.2.1 X.1.2.2.2.2.2.1 h1 hd ?_
  have e1 : ms_cv G (.ref (600 + j)) = .ref (g_s G (600 + j)) := by
    show Value.ref (ms_ad G (600 + j)) = _
    unfold ms_ad
    rw [if_neg (by omega)]
  rw [← e1]
  exact h2
theorem tc_mmax {x y : Int32} {idx : Nat} (hw : Cond.methodLink M.1 idx Lib.Math.max.name ∈ lw_tbl) (hst : Cond.static Lib.Math.max.name ∈ lw_tbl) (hin : Cond.initialized "java/lang/Math" ∈ lw_tbl) (hco : Cond.code Lib.Math.max.name Lib.Math.max.code 2 (some .int) ∈ lw_tbl) (hdd : 1 ≤ d) (hs8 : (rest.map fun v => v.category).sum ≤ 8) (hd : decode M.2.1 pc = .ok (.invokestatic idx, 3)) (kk : TrC G M d c0 s0 pc2 lv2 (pc + 3) lv (.int (if x < y then y else x) :: rest) δ o) : TrC G M d c0 s0 pc2 lv2 pc lv (.int y :: .int x :: rest) δ o :=
  tc_step (fun p e R s m args below meth c H locs cells slots ls Q X hc hs hP hl K => va_mmax X.1.1 X.1.2.1 (X.1.2.2.2.2.1.trans hl.1.symm) X.1.2.2.2.2.2.1 (X.1.2.2.2.2.2.2.1.w hw rfl) (X.1.2.2.2.2.2.2.1.w hst rfl) (X.1.2.2.2.2.2.2.1.w hin rfl) (X.1.2.2.2.2.2.2.1.w hco rfl) (Nat.le_trans hdd X.2.2.2.1) (by have h1 := X.2.2.2.2; rw [ms_sumcat]; omega) hc hs hd (K ls hl)) kk
theorem tc_obj {idx a : Nat} (hw : Cond.methodLink M.1 idx Lib.objectInit ∈ lw_tbl) (hst : Cond.instanceMethod Lib.objectInit ∈ lw_tbl) (hco : Cond.code Lib.objectInit ⟨#[0xb1]⟩ 1 none ∈ lw_tbl) (hdd : 1 ≤ d) (hs8 : (rest.map fun v => v.category).sum ≤ 8) (hd : decode M.2.1 pc = .ok (.invokespecial idx, 3)) (kk : TrC G M d c0 s0 pc2 lv2 (pc + 3) lv rest δ o) : TrC G M d c0 s0 pc2 lv2 pc lv (.ref a :: rest) δ o :=
  tc_step (fun p e R s m args below meth c H locs cells slots ls Q X hc hs hP hl K => W.objInit X.1.1 X.1.2.1 X.1.2.2.2.2.2.1 (X.1.2.2.2.2.2.2.1.w hw rfl) (X.1.2.2.2.2.2.2.1.w hst rfl) (X.1.2.2.2.2.2.2.1.w hco rfl) (g := F0 m pc ls (.ref (ms_ad G a) :: rest.map (ms_cv G))) rfl (hl.1.trans X.1.2.2.2.2.1.symm) rfl hd (Nat.le_trans hdd X.2.2.2.1) (by have h1 := X.2.2.2.2; show 2 * 0 + _ + 12 ≤ _; rw [ms_sumcat]; omega) (K ls hl)) kk
end Cd
