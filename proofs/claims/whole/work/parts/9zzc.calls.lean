/-! the makings: stores into arrays, constructors -/
section Ck
variable {G : MG} {M M' : MM} {d d' c0 s0 pc2 : Nat} {lv2 : List (Nat × Value)} {pc : Nat} {lv : List (Nat × Value)} {rest : List Value} {δ : DSt} {o : Option DSt}
theorem cd_au {a ak j : Nat} {v : Value} {δ1 : DSt} {H H' : Heap} (hP : cd_rep G δ H) (hk : ms_kd a = ak + 20) (ha : a < δ.1) (hn : δ1.1 = δ.1) (e1 : H'[ms_ad G a]? = some ((arrV (g_A G ak) (ms_ln a) (cd_av G δ a ak)).setSlot j v)) (e2 : H'.size = H.size) (e3 : ∀ q, q ≠ ms_ad G a → H'[q]? = H[q]?) (hv : ∀ k, (if k = j then v else cd_av G δ a ak k) = cd_av G δ1 a ak k)
    (h1 : ∀ b k, b ≠ a → cd_v δ1.2.2 b k = cd_v δ.2.2 b k) (h2 : ∀ b k, b ≠ a → cd_s δ1 b k = cd_s δ b k) : cd_rep G δ1 H' := by
  refine hP.upd hn ha ⟨fun c2 hc2 hc3 => by omega, fun ak2 hak => ?_⟩ e2 e3 h1 h2
  obtain rfl : ak2 = ak := by omega
  unfold cd_ar
  rw [e1, arrV_store]
  congr 2
  funext k
  exact hv k
theorem tc_aput {a v : Nat} {i : Int32} (ak : Nat) (C : String) (h4 : 4 ≤ ak) (h8 : ak < 8) (hC : ms_akty ak = .object C) (hd : decode M.2.1 pc = .ok (.aastore, 1))
    (hcell : ∀ s H, ms_tk G s → cd_rep G δ H → v < δ.1 ∨ 600 ≤ v → ∃ cv : Cell, H[ms_ad G v]? = some cv ∧ cv.vm.isStatics = false ∧ s.vm.findClass C = some cv.cls)
    (hk0 : ms_kd a = ak + 20 ∧ a < δ.1 ∧ ¬ i < 0 ∧ i.toNatClampNeg < ms_ln a ∧ ms_rf a i.toNatClampNeg = v ∧ i.toNatClampNeg < 64) (hv0 : v < δ.1 ∨ 600 ≤ v)
    (kk : TrC G M d c0 s0 pc2 lv2 (pc + 1) lv rest (δ.1, δ.2.1 ||| (1 <<< (a * 64 + i.toNatClampNeg)), δ.2.2) o) : TrC G M d c0 s0 pc2 lv2 pc lv (.ref v :: .int i :: .ref a :: rest) δ o := by
  intro δ' hδ
  obtain ⟨hm, K1⟩ := kk _ hδ
  have hm' : δ.1 ≤ δ'.1 := hm
  refine ⟨hm', fun p e R s m args below meth cc H locs cells slots ls Q X h1 h2 S K => ?_⟩
  obtain ⟨a1, a2, hP, a4, a5⟩ := S
  obtain ⟨k1, k2, k3, k4, k5, k6⟩ := hk0
  have ha : a < 519 := ms_kd_lt (by omega)
  have hT := X.1.2.2.2.2.2.2.1
  have hra := X.2.1.1 ak h8
  rw [hC] at hra
  obtain ⟨kA, comp, g1, g2, g3, g4⟩ := hra
  obtain ⟨cv, w1, w2, w3⟩ := hcell s H hT hP hv0
  obtain rfl : comp = cv.cls := Option.some.inj (g3.symm.trans w3)
  obtain ⟨kC, hkC, -⟩ := Vm.findClass_spec w3
  have hca : H[ms_ad G a]? = some (arrV (g_A G ak) (ms_ln a) (cd_av G δ a ak)) := (hP.2.2.1 a k2).2 ak k1
  refine W.aast X.1.1 X.1.2.1 hca (fun q h => by cases h) (fun h => by cases h) g1 g2 rfl hkC ⟨k3, by rw [arrV_size]; exact k4⟩ w1 (fun q h => by rw [h] at w2; cases w2) hkC (Vm.assignable_self _ _) rfl rfl hd fun H1 e1 z1 o1 => ?_
  refine K1 p e R s m args below meth cc H1 _ cells slots ls Q X h1 h2 ⟨a1, a2, cd_au hP k1 k2 rfl e1 z1 o1 (fun k => ?_) (fun b j hb => rfl) (fun b j hb => cd_s_ne (m := δ.1) (w' := δ.2.2) k6 (Or.inl hb)), ms_base a4 ha, a5⟩ K
  unfold cd_av
  rw [if_neg (by omega : ¬ ak = 2), if_neg (by omega : ¬ ak = 3), if_neg (by omega : ¬ ak < 2), if_neg (by omega : ¬ ak = 2), if_neg (by omega : ¬ ak = 3), if_neg (by omega : ¬ ak < 2)]
  by_cases hj : k = i.toNatClampNeg
  · rw [hj, if_pos rfl, cd_s_same k6, if_pos rfl, k5]
  · rw [if_neg hj, cd_s_ne (m := δ.1) (w' := δ.2.2) k6 (Or.inr hj)]
/-- an object of a class of ours into an array -/
def cd_as' (δ : DSt) (ak c a : Nat) (i : Int32) (v : Nat) : Option DSt := if ms_kd v = c + 1 ∧ v < δ.1 then cd_as δ ak a i v else none
theorem tc_as {a v : Nat} {i : Int32} (ak c : Nat) (r : vw_C) (hr : ms_cl[c]? = some r) (h4 : 4 ≤ ak) (h8 : ak < 8) (hC : ms_akty ak = .object r.1) (hd : decode M.2.1 pc = .ok (.aastore, 1)) {f : DSt → Option DSt}
    (kk : ∀ δ1, TrC G M d c0 s0 pc2 lv2 (pc + 1) lv rest δ1 (f δ1)) : TrC G M d c0 s0 pc2 lv2 pc lv (.ref v :: .int i :: .ref a :: rest) δ ((cd_as' δ ak c a i v).bind f) := by
  unfold cd_as' cd_as
  by_cases hv : ms_kd v = c + 1 ∧ v < δ.1
  · rw [if_pos hv]
    by_cases hk0 : ms_kd a = ak + 20 ∧ a < δ.1 ∧ ¬ i < 0 ∧ i.toNatClampNeg < ms_ln a ∧ ms_rf a i.toNatClampNeg = v ∧ i.toNatClampNeg < 64
    · rw [if_pos hk0, cd_mk_eq, Option.bind_some]
      refine tc_aput ak r.1 h4 h8 hC hd (fun s H hT hP _ => ?_) hk0 (Or.inl hv.2) (kk _)
      obtain ⟨r', hr', cell, q1, q2, q3, q4⟩ := (hP.2.2.1 v hv.2).1 c hv.1 (cd_nf hr).1
      cases hr.symm.trans hr'
      exact ⟨cell, q1, by rw [q3]; rfl, by rw [q2]; exact (hT.2.1.1 c r hr).2.1⟩
    · rw [if_neg hk0]
      exact tc_none
  · rw [if_neg hv]
    exact tc_none
/-- a constant String into an array -/
def cd_ss (δ : DSt) (a : Nat) (i : Int32) (j : Nat) : Option DSt := if j < 50 then cd_as δ 7 a i (600 + j) else none
theorem tc_ss {a j : Nat} {i : Int32} (hd : decode M.2.1 pc = .ok (.aastore, 1)) {f : DSt → Option DSt}
    (kk : ∀ δ1, TrC G M d c0 s0 pc2 lv2 (pc + 1) lv rest δ1 (f δ1)) : TrC G M d c0 s0 pc2 lv2 pc lv (.ref (600 + j) :: .int i :: .ref a :: rest) δ ((cd_ss δ a i j).bind f) := by
  unfold cd_ss cd_as
  by_cases hv : j < 50
  · rw [if_pos hv]
    by_cases hk0 : ms_kd a = 7 + 20 ∧ a < δ.1 ∧ ¬ i < 0 ∧ i.toNatClampNeg < ms_ln a ∧ ms_rf a i.toNatClampNeg = 600 + j ∧ i.toNatClampNeg < 64
    · rw [if_pos hk0, cd_mk_eq, Option.bind_some]
      refine tc_aput 7 "java/lang/String" (by decide) (by decide) rfl hd (fun s H hT hP _ => ?_) hk0 (Or.inr (by omega)) (kk _)
      obtain ⟨cell, q1, q2, q3, q4⟩ := (hT.2.2.2.1 j hv).1
      have had : ms_ad G (600 + j) = g_s G (600 + j) := by
        unfold ms_ad
        rw [if_neg (by omega)]
      rw [had]
      exact ⟨cell, (hP.2.2.2.1 _ (Array.getElem?_eq_some_iff.mp q1).1).trans q1, q2, q3⟩
    · rw [if_neg hk0]
      exact tc_none
  · rw [if_neg hv]
    exact tc_none
theorem tc_ai {a : Nat} {i x : Int32} (hd : decode M.2.1 pc = .ok (.iastore, 1)) {f : DSt → Option DSt}
    (kk : ∀ δ1, TrC G M d c0 s0 pc2 lv2 (pc + 1) lv rest δ1 (f δ1)) : TrC G M d c0 s0 pc2 lv2 pc lv (.int x :: .int i :: .ref a :: rest) δ ((cd_ai δ a i x).bind f) := by
  intro δ' hδ
  unfold cd_ai at hδ
  by_cases hk0 : ms_kd a = 20 ∧ a < δ.1 ∧ ¬ i < 0 ∧ i.toNatClampNeg < ms_ln a
  · rw [if_pos hk0, cd_mk_eq, Option.bind_some] at hδ
    obtain ⟨hm, K1⟩ := kk _ δ' hδ
    have hm' : δ.1 ≤ δ'.1 := hm
    refine ⟨hm', fun p e R s m args below meth cc H locs cells slots ls Q X h1 h2 S K => ?_⟩
    obtain ⟨a1, a2, hP, a4, a5⟩ := S
    obtain ⟨k1, k2, k3, k4⟩ := hk0
    have ha : a < 519 := ms_kd_lt (by omega)
    have hca : H[ms_ad G a]? = some (arrV (g_A G 0) (ms_ln a) (cd_av G δ a 0)) := (hP.2.2.1 a k2).2 0 k1
    refine W.iast X.1.1 X.1.2.1 hca (X.1.2.2.2.2.2.2.1.2.2.1 0 (by omega) _ _) (fun q => by cases q) (by rw [arrV_size]; exact fun q => q.elim k3 (fun h => by omega)) rfl rfl hd fun H1 e1 z1 o1 => ?_
    refine K1 p e R s m args below meth cc H1 _ cells slots ls Q X h1 h2 ⟨a1, a2, cd_au hP (ak := 0) k1 k2 rfl e1 z1 o1 (fun k => ?_) (fun b j hb => cd_wi_ne _ _ (Or.inl hb)) (fun b j hb => rfl), ms_base a4 ha, a5⟩ K
    show (if k = i.toNatClampNeg then Value.int x else Value.int (cd_v δ.2.2 a k)) = Value.int (cd_v (cd_wi δ.2.2 a i.toNatClampNeg x) a k)
    by_cases hj : k = i.toNatClampNeg
    · rw [hj, if_pos rfl, cd_wi_same]
    · rw [if_neg hj, cd_wi_ne _ _ (Or.inr hj)]
  · rw [if_neg hk0] at hδ
    cases hδ
/-! constructors -/
def cd_pc (G : MG) (al : List Value) (δ : DSt) : Array Value → State → Prop := fun a U => a = (al.map (ms_cv G)).toArray ∧ cd_rep G δ U.heap ∧ ms_tk G U ∧ ms_tc G U
def cd_qc (G : MG) (δ : DSt) : Array Value → State → Outcome → State → Prop := fun _ _ o t => o = .returned none ∧ cd_rep G δ t.heap
/-- called with these arguments in this store, the constructor comes back with δ', for every δ' that o has -/
def CdSpec (G : MG) (M : MM) (d : Nat) (al : List Value) (δ : DSt) (o : Option DSt) : Prop :=
  ∀ δ', o = some δ' → δ.1 ≤ δ'.1 ∧ Met (g_l G) M.2.2.2.2.1 [Cond.code M.2.2.2.2.1 M.2.1 M.2.2.1 M.2.2.2.1] (ms_room d (δ'.1 - δ.1) (cd_z δ'.1 - cd_z δ.1)) (cd_pc G al δ) (cd_qc G δ') (δ'.1 - δ.1) (cd_z δ'.1 - cd_z δ.1) (fun q => (g_H G).size ≤ q)
theorem tc_start {al : List Value} (hn : plainName M.2.2.2.2.1.cls = true) (hown : M.2.2.2.2.1.cls = M.1) (htb : M.2.2.2.2.2 = []) (hret : M.2.2.2.1 = none) (hsz : (lg_sl al).length ≤ M.2.2.1) (hd : decode M.2.1 pc2 = .ok (.return_, 1)) (k : TrC G M d δ.1 (cd_z δ.1) pc2 lv2 0 (lv_args 0 al) [] δ o) : CdSpec G M d al δ o := by
  intro δ' hδ
  obtain ⟨hm, kk⟩ := k δ' hδ
  refine ⟨hm, ?_⟩
  have hz := cd_z_mono hm
  refine Met.ofW (cc := M.2.1) (maxL := M.2.2.1) (ret := M.2.2.2.1) hn rfl ?_
  intro p e s m args below meth c s₁ B hml hv
  obtain ⟨rfl, hP, hT, hC⟩ := hv
  have htab : c.exceptionTable.toList = [] := by
    obtain ⟨meth9, c9, h1, h2, -, -, -, -, h7, -⟩ := Cond.code_spec B.named (atoms_spec B.pre _ List.mem_cons_self)
    cases Option.some.inj (h1.symm.trans B.method)
    cases Option.some.inj (h2.symm.trans (Stand.of_body B).code)
    rw [Array.isEmpty_iff.mp h7]
  rw [lg_entry_eq]
  have hl := lv_entry (al.map (ms_cv G)) (n := M.2.2.1) (by rw [ms_lgsl]; exact hsz)
  generalize (lg_sl (al.map (ms_cv G)) ++ List.replicate (M.2.2.1 - (lg_sl (al.map (ms_cv G))).length) Slot.unset).toArray = ls at hl ⊢
  rw [ms_lvargs] at hl
  have X : CdX G M d p s m (al.map (ms_cv G)).toArray meth c (ms_room d (δ'.1 - δ.1) (cd_z δ'.1 - cd_z δ.1)) := ⟨⟨B.exec, B.bytes, B.returns, B.notSynchronized, hml, by rw [← hown]; exact findClass_of_methodNamed B.named, hT, htab.trans htb.symm, hP.2.2.2.1, by rw [hP.1]; exact Nat.le_add_right _ _⟩, hC, fun h => by rw [← h]; exact (name_of_methodNamed B.named B.method).1, Nat.le_refl _, Nat.le_refl _⟩
  refine kk p e _ s m _ below meth c s.heap [] 0 0 ls _ X (by show δ'.1 ≤ (δ'.1 - δ.1) + δ.1; omega) (by show cd_z δ'.1 ≤ (cd_z δ'.1 - cd_z δ.1) + cd_z δ.1; omega) ⟨by omega, by omega, hP, fun q hq => (by cases hq), hl⟩ (fun H' locs' cells' slots' ls' S => ?_)
  obtain ⟨b1, b2, b3, b4, b5⟩ := S
  have hlocks : meth.locks = false := B.notSynchronized
  refine W.widen (k := δ'.1 - δ.1) (n := cd_z δ'.1 - cd_z δ.1) (by omega) (by omega) ?_
  exact W.vret X.1.1 X.1.2.1 (X.1.2.2.1.trans hret) (fun t ht hW => ⟨rfl, by rw [ht]; exact b3⟩) b4 hd hlocks
def CdYI (M : MM) : Prop := Cond.instanceMethod M.2.2.2.2.1 ∈ lw_tbl ∧ Cond.initialized M.2.2.2.2.1.cls ∈ lw_tbl ∧ Cond.code M.2.2.2.2.1 M.2.1 M.2.2.1 M.2.2.2.1 ∈ lw_tbl ∧ M.2.2.2.2.1.cls ≠ "java/lang/invoke/MethodHandle" ∧ M.2.2.2.2.1.cls ≠ "java/lang/invoke/VarHandle" ∧ M.2.2.1 ≤ 45 ∧ M.2.2.2.2.1.name = "<init>" ∧ M.2.2.2.1 = none
theorem cd_blind {al : List Value} : FrameBlind (cd_pc G al δ) := by
  intro a U g mk h
  obtain ⟨h1, h2, h3, h4⟩ := h
  exact ⟨h1, h2, ms_tk.moved (s := U) (U := U.calling g mk a) (State.WarmedH.refl U) h3, h4⟩
theorem tc_init {idx a : Nat} {al : List Value} {x : Option DSt} {f : DSt → Option DSt} (S : CdSpec G M' d' (.ref a :: al) δ x) (L : Cond.methodLink M.1 idx M'.2.2.2.2.1 ∈ lw_tbl ∨ ∃ host, Cond.methodLinkNest M.1 idx M'.2.2.2.2.1 host ∈ lw_tbl) (F : CdYI M') (hd : decode M.2.1 pc = .ok (.invokespecial idx, 3))
    (hn : (parseMethodDescriptor M'.2.2.2.2.1.desc).map (fun d => d.parameters.length) = some al.length) (hdd : d' + 1 ≤ d) (hw : (rest.map fun v => v.category).sum ≤ 8)
    (kk : ∀ δ1, TrC G M d c0 s0 pc2 lv2 (pc + 3) lv rest δ1 (f δ1)) : TrC G M d c0 s0 pc2 lv2 pc lv (al.reverse ++ .ref a :: rest) δ (x.bind f) := by
  intro δ' hδ
  obtain ⟨δ1, hx, hf⟩ := ms_bind_s hδ
  obtain ⟨hm1, hM⟩ := S δ1 hx
  obtain ⟨hm2, K1⟩ := kk δ1 δ' hf
  refine ⟨Nat.le_trans hm1 hm2, fun p e R s m args below meth cc H locs cells slots ls Q X h1 h2 S K => ?_⟩
  obtain ⟨a1, a2, hP, a4, a5⟩ := S
  obtain ⟨f1, f3, f4, f5, f6, f7, f8, f9⟩ := F
  obtain ⟨X1, X2, X3, w1, w2⟩ := X
  obtain ⟨x1, x2, x3, x4, x5, x6, x7, x8⟩ := id X1
  have hts := x7.g (args := args)
  have hz1 := cd_z_mono hm1
  have hz2 := cd_z_mono hm2
  have hfr : d' + 1 ≤ R.frames := by omega
  have hlo : 8 + (M'.2.2.1 + 11) + 64 * d' ≤ R.locals := by omega
  have hlen : ∀ sig, parseMethodDescriptor M'.2.2.2.2.1.desc = some sig → al.length = sig.parameters.length := fun sig h => by
    rw [h] at hn
    exact (Option.some.inj hn).symm
  have hcode : Cond.code M'.2.2.2.2.1 M'.2.1 M'.2.2.1 none ∈ lw_tbl := by rw [← f9]; exact f4
  have hws : ∀ w ∈ [Cond.code M'.2.2.2.2.1 M'.2.1 M'.2.2.1 M'.2.2.2.1], ∀ (a' : Array Value) (U : State), s.WarmedH U.vm → w.before a' U = true := fun w hw a' U hW => by
    rw [List.mem_singleton.mp hw]
    exact (x7.moved hW).w f4 rfl
  have hp : PreS s H (cd_pc G (.ref a :: al) δ) (.ref (ms_ad G a) :: al.map (ms_cv G)) := ⟨cd_blind, fun U hU hW => ⟨rfl, by rw [hU]; exact hP, x7.moved hW, X2.moved hW.alike⟩⟩
  have hstk : (al.reverse ++ .ref a :: rest).map (ms_cv G) = (al.map (ms_cv G)).reverse ++ .ref (ms_ad G a) :: rest.map (ms_cv G) := by
    rw [List.map_append, List.map_reverse]
    rfl
  rw [hstk]
  have hrun : va_Run p (g_l G) e R s m args below meth cc H locs cells slots (δ1.1 - δ.1) (cd_z δ1.1 - cd_z δ.1) (F0 m pc ls ((al.map (ms_cv G)).reverse ++ .ref (ms_ad G a) :: rest.map (ms_cv G))) (rest.map (ms_cv G)) (cd_qc G δ1 (Value.ref (ms_ad G a) :: al.map (ms_cv G)).toArray) (fun q => (g_H G).size ≤ q) := by
    rcases L with L | ⟨host, L⟩
    · exact va_runI (own := M.1) (index := idx) (bytes := M'.2.1) (maxL := M'.2.2.1) (ws := [Cond.code M'.2.2.2.2.1 M'.2.1 M'.2.2.1 M'.2.2.2.1]) (rm := ms_room d' (δ1.1 - δ.1) (cd_z δ1.1 - cd_z δ.1)) (n := al.length) (nL := M.2.2.1) ⟨x1, x2, x5, x6, hts⟩ hM ⟨⟨rfl, rfl, hfr, hlo, hws, by rw [f9]; exact List.mem_singleton.mpr rfl, x7.w hcode rfl, x7.w f3 rfl, ⟨f5, f6⟩, hlen, x7.w L rfl⟩, f8, x7.w f1 rfl⟩ hp rfl (List.length_map _) a5.1 rfl (by show 2 * 0 + _ ≤ 8; rw [ms_sumcat]; omega) hd ⟨by omega, by omega⟩
    · exact va_runIN (own := M.1) (host := host) (index := idx) (bytes := M'.2.1) (maxL := M'.2.2.1) (ws := [Cond.code M'.2.2.2.2.1 M'.2.1 M'.2.2.1 M'.2.2.2.1]) (rm := ms_room d' (δ1.1 - δ.1) (cd_z δ1.1 - cd_z δ.1)) (n := al.length) (nL := M.2.2.1) ⟨x1, x2, x5, x6, hts⟩ hM ⟨⟨⟨rfl, rfl, hfr, hlo, hws, by rw [f9]; exact List.mem_singleton.mpr rfl⟩, x7.w hcode rfl, x7.w f3 rfl, ⟨f5, f6⟩, hlen, x7.w L rfl⟩, f8, x7.w f1 rfl⟩ hp rfl (List.length_map _) a5.1 rfl (by show 2 * 0 + _ ≤ 8; rw [ms_sumcat]; omega) hd ⟨by omega, by omega⟩
  intro T hT XS
  obtain ⟨v, st₀, t, T', L1, h0, X', hL1, e1, e2, ⟨q1, q2⟩, st⟩ := hrun T hT XS
  cases q1
  obtain ⟨t2, b1, b2⟩ := K1 p e R s m args below meth cc T'.heap (locs ++ L1) (cells + (δ1.1 - δ.1)) (slots + (cd_z δ1.1 - cd_z δ.1)) ls Q ⟨X1, X2, X3, w1, w2⟩ h1 h2 ⟨by omega, by omega, by rw [e1]; exact q2, fun q hq => (List.mem_append.mp hq).elim (a4 q) (hL1 q), a5⟩ K T' rfl X'
  exact ⟨t2, st t2 b1, b2⟩
/-! fewer locals; a value that is what it should be -/
theorem tc_weak (ps : List Nat) {lv' : List (Nat × Value)} {st : List Value} (hp : ms_pk lv ps = lv') (k : TrC G M d c0 s0 pc2 lv2 pc lv' st δ o) : TrC G M d c0 s0 pc2 lv2 pc lv st δ o :=
  tc_step (fun p e R s m args below meth c H locs cells slots ls Q X hc hs hP hl K => K ls (ms_lvpk hl hp)) k
def cd_is (v n : Nat) (f : Unit → Option DSt) : Option DSt := if v = n then f () else none
theorem tc_is {v n : Nat} {f : Unit → Option DSt} (kk : ∀ u, TrC G M d c0 s0 pc2 lv2 pc lv (.ref n :: rest) δ (f u)) : TrC G M d c0 s0 pc2 lv2 pc lv (.ref v :: rest) δ (cd_is v n f) := by
  unfold cd_is
  by_cases h : v = n
  · rw [if_pos h, h]
    exact kk ()
  · rw [if_neg h]
    exact tc_none
end Ck
