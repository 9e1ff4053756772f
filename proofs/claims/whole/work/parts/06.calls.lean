section MsCalls
variable {α β : Type} {G : MG} {M M' : MM} {d mc ms cu su d' mc' ms' : Nat} {κ : α → MsRes} {κ' : β → MsRes} {pc : Nat} {lv : List (Nat × Value)} {rest : List Value} {σ : MsSt} {o : Option α}
/-! ends -/
theorem ms_qend {r : α} {v : Option Value} {H : Heap} {a : Array Value} {s t : State} (hκ : κ r = (.inl v, σ)) (hP : ms_rep G σ H) (ht : t.heap = H) : ms_qc G (κ r) a s (.returned (v.map (ms_cv G))) t := ⟨v, congrArg Prod.fst hκ, rfl, by rw [hκ, ht]; exact hP⟩
theorem tr_iret {r : α} {v : Int32} (hr0 : M.2.2.2.1 = some .int) (hκ : κ r = (.inl (some (.int v)), σ)) (hc1 : cu ≤ mc) (hs1 : su ≤ ms) (hd : decode M.2.1 pc = .ok (.ireturn, 1)) : TrO G M d mc ms cu su κ pc lv [.int v] σ (some r) := by
  intro r' hr p e R s m args below meth c H locs cells slots ls X hR hc hs hP hL hl
  cases hr
  have hlocks : meth.locks = false := X.2.2.2.1
  refine W.widen (k := mc) (n := ms) (Nat.le_trans hc hc1) (Nat.le_trans hs hs1) (vx_ret ?_)
  exact W.iret (v := v) X.1 X.2.1 (X.2.2.1.trans hr0) (fun t ht hW => ms_qend hκ hP ht) hL hd hlocks
theorem tr_zret {r : α} {v : Int32} {ty : FieldType} (hr0 : M.2.2.2.1 = some ty) (hn : narrow ty (.int v) = .int v) (hκ : κ r = (.inl (some (.int v)), σ)) (hc1 : cu ≤ mc) (hs1 : su ≤ ms) (hd : decode M.2.1 pc = .ok (.ireturn, 1)) : TrO G M d mc ms cu su κ pc lv [.int v] σ (some r) := by
  intro r' hr p e R s m args below meth c H locs cells slots ls X hR hc hs hP hL hl
  cases hr
  have hlocks : meth.locks = false := X.2.2.2.1
  refine W.widen (k := mc) (n := ms) (Nat.le_trans hc hc1) (Nat.le_trans hs hs1) (vx_ret ?_)
  exact W.zret (v := v) X.1 X.2.1 (X.2.2.1.trans hr0) hn (fun t ht hW => ms_qend hκ hP ht) hL hd hlocks
theorem tr_bret {v : Int32} {f : Int32 → Option α} {r : α} (hf : f v = some r) (hr0 : M.2.2.2.1 = some .boolean) (hκ : κ r = (.inl (some (.int v)), σ)) (hc1 : cu ≤ mc) (hs1 : su ≤ ms) (hd : decode M.2.1 pc = .ok (.ireturn, 1)) : TrO G M d mc ms cu su κ pc lv [.int v] σ ((ms_bz v).bind f) := by
  intro r' hr
  obtain ⟨hx, hr⟩ := ms_bz_s hr
  rw [hf] at hr
  exact tr_zret hr0 (ms_nz hx).1 hκ hc1 hs1 hd r' hr
theorem tr_lret {r : α} {v : Int64} (hr0 : M.2.2.2.1 = some .long) (hκ : κ r = (.inl (some (.long v)), σ)) (hc1 : cu ≤ mc) (hs1 : su ≤ ms) (hd : decode M.2.1 pc = .ok (.lreturn, 1)) : TrO G M d mc ms cu su κ pc lv [.long v] σ (some r) := by
  intro r' hr p e R s m args below meth c H locs cells slots ls X hR hc hs hP hL hl
  cases hr
  have hlocks : meth.locks = false := X.2.2.2.1
  refine W.widen (k := mc) (n := ms) (Nat.le_trans hc hc1) (Nat.le_trans hs hs1) (vx_ret ?_)
  exact W.lret (v := v) X.1 X.2.1 (X.2.2.1.trans hr0) (fun t ht hW => ms_qend hκ hP ht) hL hd hlocks
theorem tr_fret {r : α} {v : UInt32} (hr0 : M.2.2.2.1 = some .float) (hκ : κ r = (.inl (some (.float v)), σ)) (hc1 : cu ≤ mc) (hs1 : su ≤ ms) (hd : decode M.2.1 pc = .ok (.freturn, 1)) : TrO G M d mc ms cu su κ pc lv [.float v] σ (some r) := by
  intro r' hr p e R s m args below meth c H locs cells slots ls X hR hc hs hP hL hl
  cases hr
  have hlocks : meth.locks = false := X.2.2.2.1
  refine W.widen (k := mc) (n := ms) (Nat.le_trans hc hc1) (Nat.le_trans hs hs1) (vx_ret ?_)
  exact W.fret (v := v) X.1 X.2.1 (X.2.2.1.trans hr0) (fun t ht hW => ms_qend hκ hP ht) hL hd hlocks
theorem tr_dret {r : α} {v : UInt64} (hr0 : M.2.2.2.1 = some .double) (hκ : κ r = (.inl (some (.double v)), σ)) (hc1 : cu ≤ mc) (hs1 : su ≤ ms) (hd : decode M.2.1 pc = .ok (.dreturn, 1)) : TrO G M d mc ms cu su κ pc lv [.double v] σ (some r) := by
  intro r' hr p e R s m args below meth c H locs cells slots ls X hR hc hs hP hL hl
  cases hr
  have hlocks : meth.locks = false := X.2.2.2.1
  refine W.widen (k := mc) (n := ms) (Nat.le_trans hc hc1) (Nat.le_trans hs hs1) (vx_ret ?_)
  exact W.dret (v := v) X.1 X.2.1 (X.2.2.1.trans hr0) (fun t ht hW => ms_qend hκ hP ht) hL hd hlocks
theorem tr_aret {r : α} {v : Nat} {n : String} (hr0 : M.2.2.2.1 = some (.object n)) (hκ : κ r = (.inl (some (.ref v)), σ)) (hc1 : cu ≤ mc) (hs1 : su ≤ ms) (hd : decode M.2.1 pc = .ok (.areturn, 1)) : TrO G M d mc ms cu su κ pc lv [.ref v] σ (some r) := by
  intro r' hr p e R s m args below meth c H locs cells slots ls X hR hc hs hP hL hl
  cases hr
  have hlocks : meth.locks = false := X.2.2.2.1
  refine W.widen (k := mc) (n := ms) (Nat.le_trans hc hc1) (Nat.le_trans hs hs1) (vx_ret ?_)
  exact W.aret (v := .ref (ms_ad G v)) X.1 X.2.1 (X.2.2.1.trans hr0) (Or.inl ⟨n, rfl⟩) (Or.inr ⟨_, rfl⟩) (fun t ht hW => ms_qend hκ hP ht) hL hd hlocks
theorem tr_nret {r : α} {n : String} (hr0 : M.2.2.2.1 = some (.object n)) (hκ : κ r = (.inl (some .null), σ)) (hc1 : cu ≤ mc) (hs1 : su ≤ ms) (hd : decode M.2.1 pc = .ok (.areturn, 1)) : TrO G M d mc ms cu su κ pc lv [.null] σ (some r) := by
  intro r' hr p e R s m args below meth c H locs cells slots ls X hR hc hs hP hL hl
  cases hr
  have hlocks : meth.locks = false := X.2.2.2.1
  refine W.widen (k := mc) (n := ms) (Nat.le_trans hc hc1) (Nat.le_trans hs hs1) (vx_ret ?_)
  exact W.aret (v := .null) X.1 X.2.1 (X.2.2.1.trans hr0) (Or.inl ⟨n, rfl⟩) (Or.inl rfl) (fun t ht hW => ms_qend hκ hP ht) hL hd hlocks
theorem tr_vret {r : α} (hr0 : M.2.2.2.1 = none) (hκ : κ r = (.inl none, σ)) (hc1 : cu ≤ mc) (hs1 : su ≤ ms) (hd : decode M.2.1 pc = .ok (.return_, 1)) : TrO G M d mc ms cu su κ pc lv [] σ (some r) := by
  intro r' hr p e R s m args below meth c H locs cells slots ls X hR hc hs hP hL hl
  cases hr
  have hlocks : meth.locks = false := X.2.2.2.1
  refine W.widen (k := mc) (n := ms) (Nat.le_trans hc hc1) (Nat.le_trans hs hs1) (vx_ret ?_)
  exact W.vret X.1 X.2.1 (X.2.2.1.trans hr0) (fun t ht hW => ms_qend hκ hP ht) hL hd hlocks
/-! a throw of the program's own: new, dup, ldc, <init>, athrow -/
def ms_names2 : List String := ["java/lang/RuntimeException", "java/lang/Exception"]
def MsTh (own : String) (ik is ic : Nat) (cls text : String) (j : Nat) : Prop :=
  Bundle.fit cls = true ∧ Cond.classLink own ik cls ∈ lw_tbl ∧ Cond.initialized cls ∈ lw_tbl ∧ j < 50 ∧ ms_tx.getD j ("", 0, "") = (own, is, text) ∧ (∀ w ∈ vx_atS own ic cls ms_names2, w ∈ lw_tbl ∧ ms_tw w = true) ∧ ∀ w ∈ Cond.classLink own ik cls :: Cond.initialized cls :: vx_atS own ic cls ms_names2, vx_ot w = true
theorem tr_throw {r : α} (e0 : Nat) {ik is ic j : Nat} {text : String} (hl0 : (g_l G).stackTraces = false) (ht : MsTh M.1 ik is ic (ms_xn e0) text j) (htb : M.2.2.2.2.2 = []) (hκ : κ r = (.inr e0, σ)) (hc1 : cu + 1 ≤ mc) (hs1 : su + 6 ≤ ms) (hdd : 6 ≤ d) (hw : (rest.map fun v => v.category).sum ≤ 8)
    (d0 : decode M.2.1 pc = .ok (.new ik, 3)) (d3 : decode M.2.1 (pc + 3) = .ok (.dup, 1)) (d4 : decode M.2.1 (pc + 4) = .ok (.ldc is, 2)) (d6 : decode M.2.1 (pc + 6) = .ok (.invokespecial ic, 3)) (d9 : decode M.2.1 (pc + 9) = .ok (.athrow, 1)) : TrO G M d mc ms cu su κ pc lv rest σ (some r) := by
  intro r' hr p e R s m args below meth c H locs cells slots ls X hR hc hs hP hL hl T hT XS
  cases hr
  obtain ⟨t1, t2, t3, t4, t5, t6, t7⟩ := ht
  obtain ⟨x1, x2, x3, x4, x5, x6, x7, x8, x9, x10⟩ := X
  obtain ⟨k1, k2, k3, k4, k5, k6, k7⟩ := x7.2.2.2
  obtain ⟨r1, r2, r3, r4⟩ := hR
  have hsz : s.heap.size ≤ H.size := by
    have h := (vx_frame XS.same).1
    have h2 : (T.setVm s.vm).heap = H := hT
    have h3 : s.heap.size ≤ T.heap.size := h
    rw [hT] at h3
    exact h3
  have hS : va_S (fun q => (g_H G).size ≤ q) s.heap H locs := ⟨hsz, fun q h1 h2 => by
    have h3 : q < (g_H G).size := Nat.not_le.mp h2
    rw [hP.2.1 q h3, x9 q h3], hL⟩
  have hzk : ∀ a : Nat, a < (g_H G).size → ¬ (g_H G).size ≤ a → s.heap[a]? = (g_H G)[a]? := fun a h1 _ => x9 a h1
  have hstr := k2 j t4
  rw [t5] at hstr
  have hsum : ((rest.map (ms_cv G)).map fun v => v.category).sum ≤ 8 := by
    rw [List.map_map]
    have : ((fun v : Value => v.category) ∘ ms_cv G) = fun v => v.category := by
      funext v
      exact ms_cv_cat G v
    rw [this]
    exact hw
  exact vx_throwS (A := fun q => (g_H G).size ≤ q) (names := ms_names2) (cls := ms_xn e0) (text := text) (sa := g_s G (600 + j)) x1 x2 hl0 x6 t1 (by decide +kernel) (x7.w t2 rfl) (x7.w t3 rfl) hstr (fun w hw => x7.w (t6 w hw).1 (t6 w hw).2) t7 (k4.kept hzk) (k5.kept hzk) hS
    (hl.1.trans x5.symm) d0 d3 d4 d6 d9 (by rw [x8, htb]; intro x hx; cases hx) (by show 2 + 3 < R.frames; omega) (by show _ + (13 * (2 + 1) + 43) ≤ R.locals; omega) (by omega) (by omega) x4
    (fun t hA h1 h2 => ⟨e0, congrArg Prod.fst hκ, rfl, by
      rw [hκ]
      refine ⟨fun a ha => (hP.1 a ha).kept (h2 _ (hP.lt ha)) (fun _ => rfl) (fun _ => rfl) (fun _ => rfl), fun q hq => by rw [h2 q (Nat.lt_of_lt_of_le hq hP.2.2)]; exact hP.2.1 q hq, Nat.le_trans hP.2.2 h1⟩⟩) hL (by omega) (by omega) T hT XS
/-! contracts -/
def ms_pc (G : MG) (al : List Value) (σ : MsSt) : Array Value → State → Prop := fun a U => a = (al.map (ms_cv G)).toArray ∧ ms_rep G σ U.heap ∧ ms_tk G U
def ms_room (d mc ms : Nat) : Room := { frames := d, cells := mc, slots := ms, locals := 64 * d }
/-- called with these arguments in this store, the method comes to κ r, for every r that o has -/
def MsSpec (G : MG) (M : MM) (d mc ms : Nat) (al : List Value) (σ : MsSt) (κ : α → MsRes) (o : Option α) : Prop :=
  ∀ r, o = some r → vx_Met (g_l G) M.2.2.2.2.1 [Cond.code M.2.2.2.2.1 M.2.1 M.2.2.1 M.2.2.2.1] (ms_room d mc ms) (ms_pc G al σ) (ms_qc G (κ r)) (ms_xc G (κ r)) mc ms (fun q => (g_H G).size ≤ q)
theorem ms_lvargs (G : MG) : ∀ (al : List Value) (i : Nat), lv_args i (al.map (ms_cv G)) = ms_mp G (lv_args i al)
  | [], _ => rfl
  | v :: vs, i => by
    show (i, ms_cv G v) :: lv_args (if (ms_cv G v).category = 2 then i + 2 else i + 1) (vs.map (ms_cv G)) = (i, ms_cv G v) :: ms_mp G (lv_args (if v.category = 2 then i + 2 else i + 1) vs)
    rw [ms_cv_cat, ms_lvargs G vs]
theorem ms_lgsl (G : MG) (al : List Value) : (lg_sl (al.map (ms_cv G))).length = (lg_sl al).length := by
  unfold lg_sl
  induction al with
  | nil => rfl
  | cons v vs ih =>
    rw [List.map_cons, List.flatMap_cons, List.flatMap_cons, List.length_append, List.length_append, ih, ms_cv_cat]
    split <;> rfl
theorem ms_start {al : List Value} (hn : plainName M.2.2.2.2.1.cls = true) (hown : M.2.2.2.2.1.cls = M.1) (htb : M.2.2.2.2.2 = []) (hsz : (lg_sl al).length ≤ M.2.2.1) (k : TrO G M d mc ms 0 0 κ 0 (lv_args 0 al) [] σ o) : MsSpec G M d mc ms al σ κ o := by
  intro r hr
  refine vx_ofW (cc := M.2.1) (maxL := M.2.2.1) (ret := M.2.2.2.1) hn rfl ?_
  intro p e s m args below meth c s₁ B hml htab hv
  obtain ⟨rfl, hP, hT⟩ := hv
  rw [lg_entry_eq]
  have hl := lv_entry (al.map (ms_cv G)) (n := M.2.2.1) (by rw [ms_lgsl]; exact hsz)
  generalize (lg_sl (al.map (ms_cv G)) ++ List.replicate (M.2.2.1 - (lg_sl (al.map (ms_cv G))).length) Slot.unset).toArray = ls at hl ⊢
  rw [ms_lvargs] at hl
  refine k r hr p e _ s m _ below meth c s.heap [] 0 0 ls ⟨B.exec, B.bytes, B.returns, B.notSynchronized, hml, ?_, hT, ?_, hP.2.1, hP.2.2⟩ ⟨Nat.le_refl _, Nat.le_refl _, Nat.le_refl _, Nat.le_refl _⟩ (Nat.le_refl _) (Nat.le_refl _) hP (fun q hq => by cases hq) hl
  · rw [← hown]
    exact findClass_of_methodNamed B.named
  · rw [htb]
    cases hx : c.exceptionTable.toList with
    | nil => rfl
    | cons x xs => exact absurd (htab x (by rw [hx]; exact List.mem_cons_self)) (fun h => h)
/-! calls -/
def MsCall (G : MG) (M : MM) (d mc ms cu su : Nat) (pc : Nat) (stk rest : List Value) (σ : MsSt) (κ' : β → MsRes) (x : Option β) (mc' ms' : Nat) : Prop :=
  ∀ r0, x = some r0 → ∀ (p : Program) (e : Env) (R : Room) (s : State) (m : MethodId) (args : Array Value) (below : List Frame) (meth : Method) (c : Code) (H : Heap) (locs : List Loc) (cells slots : Nat) (ls : Array Slot) (Q : State → Prop),
    ms_cx G M p s m args meth c → ms_rm R d mc ms → cells ≤ cu → slots ≤ su → ms_rep G σ H → (∀ q ∈ locs, (g_H G).size ≤ q.base) → ls.size = M.2.2.1 →
    (∀ (v : Option Value) (H' : Heap) (locs' : List Loc), (κ' r0).1 = .inl v → ms_rep G (κ' r0).2 H' → (∀ q ∈ locs', (g_H G).size ≤ q.base) → W p (g_l G) e R s m args below meth c H' locs' (cells + mc') (slots + ms') Q (F0 m (pc + 3) ls ((v.map (ms_cv G)).toList ++ rest.map (ms_cv G)))) →
    (∀ (e0 : Nat) (H' : Heap) (locs' : List Loc) (q : Nat) (ce : Cell), (κ' r0).1 = .inr e0 → ms_rep G (κ' r0).2 H' → (∀ q ∈ locs', (g_H G).size ≤ q.base) → H'[q]? = some ce → ce.vm = .none → s.vm.findClass (ms_xn e0) = some ce.cls → vx_W p (g_l G) e R s m args below meth c H' locs' (cells + mc') (slots + ms') Q (F0 m pc ls (rest.map (ms_cv G))) q) →
    W p (g_l G) e R s m args below meth c H locs cells slots Q (F0 m pc ls (stk.map (ms_cv G)))
theorem ms_blind {al : List Value} : FrameBlind (ms_pc G al σ) := by
  intro a U g mk h
  obtain ⟨h1, h2, h3⟩ := h
  exact ⟨h1, h2, ms_tk.moved (s := U) (U := U.calling g mk a) (State.WarmedH.refl U) h3⟩
theorem ms_sumcat (l : List Value) : ((l.map (ms_cv G)).map fun v => v.category).sum = (l.map fun v => v.category).sum := by
  rw [List.map_map]
  congr 2
  funext v
  exact ms_cv_cat G v
def MsYV (M : MM) : Prop := Cond.instanceMethod M.2.2.2.2.1 ∈ lw_tbl ∧ Cond.selects M.2.2.2.2.1.cls M.2.2.2.2.1 M.2.2.2.2.1 ∈ lw_tbl ∧ Cond.initialized M.2.2.2.2.1.cls ∈ lw_tbl ∧ Cond.code M.2.2.2.2.1 M.2.1 M.2.2.1 M.2.2.2.1 ∈ lw_tbl ∧ M.2.2.2.2.1.cls ≠ "java/lang/invoke/MethodHandle" ∧ M.2.2.2.2.1.cls ≠ "java/lang/invoke/VarHandle" ∧ M.2.2.1 ≤ 45
def MsYS (M : MM) : Prop := Cond.static M.2.2.2.2.1 ∈ lw_tbl ∧ Cond.initialized M.2.2.2.2.1.cls ∈ lw_tbl ∧ Cond.code M.2.2.2.2.1 M.2.1 M.2.2.1 M.2.2.2.1 ∈ lw_tbl ∧ M.2.2.2.2.1.cls ≠ "java/lang/invoke/MethodHandle" ∧ M.2.2.2.2.1.cls ≠ "java/lang/invoke/VarHandle" ∧ M.2.2.1 ≤ 45
theorem ms_codeIn {y : MethodName} {cc : ByteArray} {n : Nat} {ret : Option FieldType} (h : Cond.code y cc n ret ∈ lw_tbl) : GoodIn ms_gw [Cond.code y cc n ret] := by
  intro w hw
  rw [List.mem_singleton.mp hw]
  exact ms_gi h rfl
theorem ms_cVR {a idx : Nat} {al : List Value} {x : Option β} {C : String} (S : MsSpec G M' d' mc' ms' (.ref a :: al) σ κ' x) (hC : M'.2.2.2.2.1.cls = C) (hrecv : ∀ s H, ms_tk G s → ms_rep G σ H → (∃ cellB : Cell, H[ms_ad G a]? = some cellB ∧ cellB.vm.isStatics = false ∧ s.vm.findClass C = some cellB.cls))
    (L : Cond.methodLink M.1 idx M'.2.2.2.2.1 ∈ lw_tbl) (F : MsYV M') (hd : decode M.2.1 pc = .ok (.invokevirtual idx, 3))
    (hn : (parseMethodDescriptor M'.2.2.2.2.1.desc).map (fun d => d.parameters.length) = some al.length) (hdd : d' + 1 ≤ d) (hw : (rest.map fun v => v.category).sum ≤ 8) (hc1 : cu + mc' ≤ mc) (hs1 : su + ms' ≤ ms) :
    MsCall G M d mc ms cu su pc (al.reverse ++ .ref a :: rest) rest σ κ' x mc' ms' := by
  intro r0 hr p e R s m args below meth cc H locs cells slots ls Q X hR hc hs hP hL hl kk kx
  obtain ⟨f1, f2, f3, f4, f5, f6, f7⟩ := F
  obtain ⟨x1, x2, x3, x4, x5, x6, x7, x8⟩ := X
  obtain ⟨w1, w2, w3, w4⟩ := hR
  have hts := x7.g (args := args)
  have cb : CallB R s args M.1 idx M'.2.2.2.2.1 M'.2.1 M'.2.2.1 M'.2.2.2.1 [Cond.code M'.2.2.2.2.1 M'.2.1 M'.2.2.1 M'.2.2.2.1] (ms_room d' mc' ms') mc' ms' al.length :=
    callB_of (n := al.length) hts (ms_codeIn f4) rfl rfl rfl (x7.w f3 rfl) (x7.w L rfl) ⟨f5, f6, hn⟩ ⟨by show d' + 1 ≤ R.frames; omega, by show 8 + (M'.2.2.1 + 11) + 64 * d' ≤ R.locals; omega⟩
  have cw : CallW R s args M.1 M'.2.2.2.2.1.cls idx M'.2.2.2.2.1 M'.2.1 M'.2.2.1 M'.2.2.2.1 [Cond.code M'.2.2.2.2.1 M'.2.1 M'.2.2.1 M'.2.2.2.1] (ms_room d' mc' ms') mc' ms' al.length := ⟨cb, x7.w f1 rfl, x7.w f2 rfl⟩
  have hrec : ∃ cellB : Cell, H[ms_ad G a]? = some cellB ∧ cellB.vm.isStatics = false ∧ s.vm.findClass M'.2.2.2.2.1.cls = some cellB.cls := by rw [hC]; exact hrecv s H x7 hP
  have hp : PreV s H M'.2.2.2.2.1.cls (ms_ad G a) (ms_pc G (.ref a :: al) σ) (al.map (ms_cv G)) := ⟨ms_blind, hrec, fun U hU hW => ⟨rfl, by rw [hU]; exact hP, x7.moved hW⟩⟩
  intro T hT XS
  have hstk : (al.reverse ++ .ref a :: rest).map (ms_cv G) = (al.map (ms_cv G)).reverse ++ .ref (ms_ad G a) :: rest.map (ms_cv G) := by
    rw [List.map_append, List.map_reverse]
    rfl
  rw [hstk]
  rcases vx_runV (g := F0 m pc ls ((al.map (ms_cv G)).reverse ++ .ref (ms_ad G a) :: rest.map (ms_cv G))) (rest := rest.map (ms_cv G)) (nL := M.2.2.1) ⟨x1, x2, x5, x6, hts⟩ (S r0 hr) cw hp rfl (List.length_map _) hl rfl (by show 2 * 0 + _ ≤ 8; rw [ms_sumcat]; omega) hd ⟨by omega, by omega⟩ T hT XS with ⟨v, st₀, t, T', L1, h0, X', hL1, e1, e2, hq, st⟩ | ⟨q, st₀, t, T', L1, E, ce, h0, X', hL1, e1, e2, hq, hce, hcv, hcl, st⟩
  · obtain ⟨v0, g1, g2, g3⟩ := hq
    cases g2
    obtain ⟨t2, a1, b1⟩ := kk v0 T'.heap (locs ++ L1) g1 (by rw [e1]; exact g3) (fun q hq => (List.mem_append.mp hq).elim (hL q) (hL1 q)) T' rfl X'
    exact ⟨t2, st t2 a1, b1⟩
  · obtain ⟨e0, g1, g2, g3⟩ := hq
    subst g2
    obtain ⟨t2, a1, b1⟩ := kx e0 T'.heap (locs ++ L1) q ce g1 (by rw [e1]; exact g3) (fun q hq => (List.mem_append.mp hq).elim (hL q) (hL1 q)) (by rw [e1]; exact hce) hcv hcl T' rfl X'
    exact ⟨t2, st.trans a1, b1⟩
theorem ms_recv {a c : Nat} {C : String} (hk : ms_kd a = c + 1) (hcl : (ms_cl[c]?).map (fun r => r.1) = some C) (s : State) (H : Heap) (x7 : ms_tk G s) (hP : ms_rep G σ H) : ∃ cellB : Cell, H[ms_ad G a]? = some cellB ∧ cellB.vm.isStatics = false ∧ s.vm.findClass C = some cellB.cls := by
  have hc13 : c < 13 := by
    rcases Nat.lt_or_ge c 13 with h | h
    · exact h
    · have : ms_cl[c]? = none := List.getElem?_eq_none (by show 13 ≤ c; exact h)
      rw [this] at hcl
      cases hcl
  obtain ⟨q', h1', cell, q1, q2, q3, q4⟩ := hP.obj hk hc13
  rw [h1'] at hcl
  cases hcl
  exact ⟨cell, q1, by rw [q3]; rfl, by rw [q2]; exact (x7.2.1.1 c _ h1').2.1⟩
theorem ms_cV {a idx : Nat} {al : List Value} {x : Option β} (c : Nat) (S : MsSpec G M' d' mc' ms' (.ref a :: al) σ κ' x) (hk : ms_kd a = c + 1) (hcl : (ms_cl[c]?).map (fun r => r.1) = some M'.2.2.2.2.1.cls)
    (L : Cond.methodLink M.1 idx M'.2.2.2.2.1 ∈ lw_tbl) (F : MsYV M') (hd : decode M.2.1 pc = .ok (.invokevirtual idx, 3))
    (hn : (parseMethodDescriptor M'.2.2.2.2.1.desc).map (fun d => d.parameters.length) = some al.length) (hdd : d' + 1 ≤ d) (hw : (rest.map fun v => v.category).sum ≤ 8) (hc1 : cu + mc' ≤ mc) (hs1 : su + ms' ≤ ms) :
    MsCall G M d mc ms cu su pc (al.reverse ++ .ref a :: rest) rest σ κ' x mc' ms' := ms_cVR S rfl (fun s H x7 hP => ms_recv hk hcl s H x7 hP) L F hd hn hdd hw hc1 hs1
theorem ms_cS {idx : Nat} {al : List Value} {x : Option β} (S : MsSpec G M' d' mc' ms' al σ κ' x)
    (L : Cond.methodLink M.1 idx M'.2.2.2.2.1 ∈ lw_tbl) (F : MsYS M') (hd : decode M.2.1 pc = .ok (.invokestatic idx, 3))
    (hn : (parseMethodDescriptor M'.2.2.2.2.1.desc).map (fun d => d.parameters.length) = some al.length) (hdd : d' + 1 ≤ d) (hw : (rest.map fun v => v.category).sum ≤ 8) (hc1 : cu + mc' ≤ mc) (hs1 : su + ms' ≤ ms) :
    MsCall G M d mc ms cu su pc (al.reverse ++ rest) rest σ κ' x mc' ms' := by
  intro r0 hr p e R s m args below meth cc H locs cells slots ls Q X hR hc hs hP hL hl kk kx
  obtain ⟨f1, f3, f4, f5, f6, f7⟩ := F
  obtain ⟨x1, x2, x3, x4, x5, x6, x7, x8⟩ := X
  obtain ⟨w1, w2, w3, w4⟩ := hR
  have hts := x7.g (args := args)
  have cb : CallB R s args M.1 idx M'.2.2.2.2.1 M'.2.1 M'.2.2.1 M'.2.2.2.1 [Cond.code M'.2.2.2.2.1 M'.2.1 M'.2.2.1 M'.2.2.2.1] (ms_room d' mc' ms') mc' ms' al.length :=
    callB_of (n := al.length) hts (ms_codeIn f4) rfl rfl rfl (x7.w f3 rfl) (x7.w L rfl) ⟨f5, f6, hn⟩ ⟨by show d' + 1 ≤ R.frames; omega, by show 8 + (M'.2.2.1 + 11) + 64 * d' ≤ R.locals; omega⟩
  have hp : PreS s H (ms_pc G al σ) (al.map (ms_cv G)) := ⟨ms_blind, fun U hU hW => ⟨rfl, by rw [hU]; exact hP, x7.moved hW⟩⟩
  intro T hT XS
  have hstk : (al.reverse ++ rest).map (ms_cv G) = (al.map (ms_cv G)).reverse ++ rest.map (ms_cv G) := by
    rw [List.map_append, List.map_reverse]
  rw [hstk]
  rcases vx_runS (g := F0 m pc ls ((al.map (ms_cv G)).reverse ++ rest.map (ms_cv G))) (rest := rest.map (ms_cv G)) (nL := M.2.2.1) ⟨x1, x2, x5, x6, hts⟩ (S r0 hr) ⟨cb, x7.w f1 rfl⟩ hp rfl (List.length_map _) hl rfl (by show 2 * 0 + _ ≤ 8; rw [ms_sumcat]; omega) hd ⟨by omega, by omega⟩ T hT XS with ⟨v, st₀, t, T', L1, h0, X', hL1, e1, e2, hq, st⟩ | ⟨q, st₀, t, T', L1, E, ce, h0, X', hL1, e1, e2, hq, hce, hcv, hcl, st⟩
  · obtain ⟨v0, g1, g2, g3⟩ := hq
    cases g2
    obtain ⟨t2, a1, b1⟩ := kk v0 T'.heap (locs ++ L1) g1 (by rw [e1]; exact g3) (fun q hq => (List.mem_append.mp hq).elim (hL q) (hL1 q)) T' rfl X'
    exact ⟨t2, st t2 a1, b1⟩
  · obtain ⟨e0, g1, g2, g3⟩ := hq
    subst g2
    obtain ⟨t2, a1, b1⟩ := kx e0 T'.heap (locs ++ L1) q ce g1 (by rw [e1]; exact g3) (fun q hq => (List.mem_append.mp hq).elim (hL q) (hL1 q)) (by rw [e1]; exact hce) hcv hcl T' rfl X'
    exact ⟨t2, st.trans a1, b1⟩
/-! behind a call: the kinds of results -/
def ms_ki (σ : MsSt) (v : Int32) : MsRes := (.inl (some (.int v)), σ)
def ms_kj (σ : MsSt) (v : Int64) : MsRes := (.inl (some (.long v)), σ)
def ms_kf (σ : MsSt) (v : UInt32) : MsRes := (.inl (some (.float v)), σ)
def ms_kx (σ : MsSt) (v : UInt64) : MsRes := (.inl (some (.double v)), σ)
def ms_ka (σ : MsSt) (v : Nat) : MsRes := (.inl (some (.ref v)), σ)
def ms_kq (σ : MsSt) (v : Option Nat) : MsRes := (.inl (some (match v with | none => .null | some a => .ref a)), σ)
def ms_kv (σ : MsSt) (_ : Unit) : MsRes := (.inl none, σ)
def ms_wi (v : Int32 × MsSt) : MsRes := (.inl (some (.int v.1)), v.2)
def ms_wj (v : Int64 × MsSt) : MsRes := (.inl (some (.long v.1)), v.2)
def ms_wf (v : UInt32 × MsSt) : MsRes := (.inl (some (.float v.1)), v.2)
def ms_wx (v : UInt64 × MsSt) : MsRes := (.inl (some (.double v.1)), v.2)
def ms_wa (v : Nat × MsSt) : MsRes := (.inl (some (.ref v.1)), v.2)
def ms_wv (v : MsSt) : MsRes := (.inl none, v)
/-- nothing, or what is thrown -/
def ms_tv (σ : MsSt) (v : Option Nat) : MsRes := (match v with | none => .inl none | some e => .inr e, σ)
def ms_uv (v : Option Nat × MsSt) : MsRes := (match v.1 with | none => .inl none | some e => .inr e, v.2)
def ms_ti (σ : MsSt) (v : Int32 ⊕ Nat) : MsRes := (match v with | .inl x => .inl (some (.int x)) | .inr e => .inr e, σ)
def ms_ui (v : (Int32 ⊕ Nat) × MsSt) : MsRes := (match v.1 with | .inl x => .inl (some (.int x)) | .inr e => .inr e, v.2)
def ms_uj (v : (Int64 ⊕ Nat) × MsSt) : MsRes := (match v.1 with | .inl x => .inl (some (.long x)) | .inr e => .inr e, v.2)
def ms_uf (v : (UInt32 ⊕ Nat) × MsSt) : MsRes := (match v.1 with | .inl x => .inl (some (.float x)) | .inr e => .inr e, v.2)
def ms_ux (v : (UInt64 ⊕ Nat) × MsSt) : MsRes := (match v.1 with | .inl x => .inl (some (.double x)) | .inr e => .inr e, v.2)
theorem tr_call {stk : List Value} {x : Option β} {f : β → Option α} (hC : MsCall G M d mc ms cu su pc stk rest σ κ' x mc' ms')
    (kk : ∀ r0 v, x = some r0 → (κ' r0).1 = .inl v → TrO G M d mc ms (cu + mc') (su + ms') κ (pc + 3) lv (v.toList ++ rest) (κ' r0).2 (f r0))
    (kx : ∀ r0 e0, x = some r0 → (κ' r0).1 = .inr e0 → M.2.2.2.2.2 = [] ∧ cu + mc' ≤ mc ∧ su + ms' ≤ ms ∧ ∀ r, f r0 = some r → κ r = (.inr e0, (κ' r0).2)) :
    TrO G M d mc ms cu su κ pc lv stk σ (x.bind f) := by
  intro r hr p e R s m args below meth c H locs cells slots ls X hR hc hs hP hL hl
  obtain ⟨r0, hx, hr⟩ := ms_bind_s hr
  refine hC r0 hx p e R s m args below meth c H locs cells slots ls _ X hR hc hs hP hL hl.1 (fun v H' locs' h1 h2 h3 => ?_) (fun e0 H' locs' q ce h1 h2 h3 h4 h5 h6 => ?_)
  · have h := kk r0 v hx h1 r hr p e R s m args below meth c H' locs' (cells + mc') (slots + ms') ls X hR (by omega) (by omega) h2 h3 hl
    rw [List.map_append] at h
    have e9 : v.toList.map (ms_cv G) = (v.map (ms_cv G)).toList := by cases v <;> rfl
    rw [e9] at h
    exact h
  · obtain ⟨g1, g2, g3, g4⟩ := kx r0 e0 hx h1
    have g5 := g4 r hr
    exact vx_out (by rw [X.2.2.2.2.2.2.2.1, g1]; intro x hx; cases hx) X.2.2.2.1 h4 h5 h6 (fun t ht hA => ⟨e0, by rw [g5], rfl, by rw [g5, ht]; exact h2⟩) h3 (by omega) (by omega)
theorem tr_c_i {stk : List Value} {x : Option Int32} {f : Int32 → Option α} (hC : MsCall G M d mc ms cu su pc stk rest σ (ms_ki σ) x mc' ms') (kk : ∀ v, TrO G M d mc ms (cu + mc') (su + ms') κ (pc + 3) lv (.int v :: rest) σ (f v)) : TrO G M d mc ms cu su κ pc lv stk σ (x.bind f) :=
  tr_call hC (fun r0 v hx h => by cases h; exact kk r0) (fun r0 e0 hx h => by cases h)
theorem tr_c_j {stk : List Value} {x : Option Int64} {f : Int64 → Option α} (hC : MsCall G M d mc ms cu su pc stk rest σ (ms_kj σ) x mc' ms') (kk : ∀ v, TrO G M d mc ms (cu + mc') (su + ms') κ (pc + 3) lv (.long v :: rest) σ (f v)) : TrO G M d mc ms cu su κ pc lv stk σ (x.bind f) :=
  tr_call hC (fun r0 v hx h => by cases h; exact kk r0) (fun r0 e0 hx h => by cases h)
theorem tr_c_f {stk : List Value} {x : Option UInt32} {f : UInt32 → Option α} (hC : MsCall G M d mc ms cu su pc stk rest σ (ms_kf σ) x mc' ms') (kk : ∀ v, TrO G M d mc ms (cu + mc') (su + ms') κ (pc + 3) lv (.float v :: rest) σ (f v)) : TrO G M d mc ms cu su κ pc lv stk σ (x.bind f) :=
  tr_call hC (fun r0 v hx h => by cases h; exact kk r0) (fun r0 e0 hx h => by cases h)
theorem tr_c_x {stk : List Value} {x : Option UInt64} {f : UInt64 → Option α} (hC : MsCall G M d mc ms cu su pc stk rest σ (ms_kx σ) x mc' ms') (kk : ∀ v, TrO G M d mc ms (cu + mc') (su + ms') κ (pc + 3) lv (.double v :: rest) σ (f v)) : TrO G M d mc ms cu su κ pc lv stk σ (x.bind f) :=
  tr_call hC (fun r0 v hx h => by cases h; exact kk r0) (fun r0 e0 hx h => by cases h)
theorem tr_c_a {stk : List Value} {x : Option Nat} {f : Nat → Option α} (hC : MsCall G M d mc ms cu su pc stk rest σ (ms_ka σ) x mc' ms') (kk : ∀ v, x = some v → TrO G M d mc ms (cu + mc') (su + ms') κ (pc + 3) lv (.ref v :: rest) σ (f v)) : TrO G M d mc ms cu su κ pc lv stk σ (x.bind f) :=
  tr_call hC (fun r0 v hx h => by cases h; exact kk r0 hx) (fun r0 e0 hx h => by cases h)
theorem tr_c_wi {stk : List Value} {x : Option (Int32 × MsSt)} {f : Int32 × MsSt → Option α} (hC : MsCall G M d mc ms cu su pc stk rest σ ms_wi x mc' ms') (kk : ∀ v σ', TrO G M d mc ms (cu + mc') (su + ms') κ (pc + 3) lv (.int v :: rest) σ' (f (v, σ'))) : TrO G M d mc ms cu su κ pc lv stk σ (x.bind f) :=
  tr_call hC (fun r0 v hx h => by cases h; exact kk r0.1 r0.2) (fun r0 e0 hx h => by cases h)
theorem tr_c_wj {stk : List Value} {x : Option (Int64 × MsSt)} {f : Int64 × MsSt → Option α} (hC : MsCall G M d mc ms cu su pc stk rest σ ms_wj x mc' ms') (kk : ∀ v σ', TrO G M d mc ms (cu + mc') (su + ms') κ (pc + 3) lv (.long v :: rest) σ' (f (v, σ'))) : TrO G M d mc ms cu su κ pc lv stk σ (x.bind f) :=
  tr_call hC (fun r0 v hx h => by cases h; exact kk r0.1 r0.2) (fun r0 e0 hx h => by cases h)
theorem tr_c_wf {stk : List Value} {x : Option (UInt32 × MsSt)} {f : UInt32 × MsSt → Option α} (hC : MsCall G M d mc ms cu su pc stk rest σ ms_wf x mc' ms') (kk : ∀ v σ', TrO G M d mc ms (cu + mc') (su + ms') κ (pc + 3) lv (.float v :: rest) σ' (f (v, σ'))) : TrO G M d mc ms cu su κ pc lv stk σ (x.bind f) :=
  tr_call hC (fun r0 v hx h => by cases h; exact kk r0.1 r0.2) (fun r0 e0 hx h => by cases h)
theorem tr_c_wx {stk : List Value} {x : Option (UInt64 × MsSt)} {f : UInt64 × MsSt → Option α} (hC : MsCall G M d mc ms cu su pc stk rest σ ms_wx x mc' ms') (kk : ∀ v σ', TrO G M d mc ms (cu + mc') (su + ms') κ (pc + 3) lv (.double v :: rest) σ' (f (v, σ'))) : TrO G M d mc ms cu su κ pc lv stk σ (x.bind f) :=
  tr_call hC (fun r0 v hx h => by cases h; exact kk r0.1 r0.2) (fun r0 e0 hx h => by cases h)
theorem tr_c_wa {stk : List Value} {x : Option (Nat × MsSt)} {f : Nat × MsSt → Option α} (hC : MsCall G M d mc ms cu su pc stk rest σ ms_wa x mc' ms') (kk : ∀ v σ', x = some (v, σ') → TrO G M d mc ms (cu + mc') (su + ms') κ (pc + 3) lv (.ref v :: rest) σ' (f (v, σ'))) : TrO G M d mc ms cu su κ pc lv stk σ (x.bind f) :=
  tr_call hC (fun r0 v hx h => by cases h; exact kk r0.1 r0.2 hx) (fun r0 e0 hx h => by cases h)
theorem tr_c_wv {stk : List Value} {x : Option MsSt} {f : MsSt → Option α} (hC : MsCall G M d mc ms cu su pc stk rest σ ms_wv x mc' ms') (kk : ∀ σ', TrO G M d mc ms (cu + mc') (su + ms') κ (pc + 3) lv rest σ' (f σ')) : TrO G M d mc ms cu su κ pc lv stk σ (x.bind f) :=
  tr_call hC (fun r0 v hx h => by cases h; exact kk r0) (fun r0 e0 hx h => by cases h)
theorem tr_c_v {stk : List Value} {x : Option Unit} {f : Unit → Option α} (hC : MsCall G M d mc ms cu su pc stk rest σ (ms_kv σ) x mc' ms') (kk : TrO G M d mc ms (cu + mc') (su + ms') κ (pc + 3) lv rest σ (f ())) : TrO G M d mc ms cu su κ pc lv stk σ (x.bind f) :=
  tr_call hC (fun r0 v hx h => by cases h; exact kk) (fun r0 e0 hx h => by cases h)
theorem tr_c_q {stk : List Value} {x : Option (Option Nat)} {f : Option Nat → Option α} (hC : MsCall G M d mc ms cu su pc stk rest σ (ms_kq σ) x mc' ms') (k0 : TrO G M d mc ms (cu + mc') (su + ms') κ (pc + 3) lv (.null :: rest) σ (f none)) (kk : ∀ a, x = some (some a) → TrO G M d mc ms (cu + mc') (su + ms') κ (pc + 3) lv (.ref a :: rest) σ (f (some a))) : TrO G M d mc ms cu su κ pc lv stk σ (x.bind f) :=
  tr_call hC (fun r0 v hx h => by
    cases r0 with
    | none => cases h; exact k0
    | some a => cases h; exact kk a hx) (fun r0 e0 hx h => by cases h)
theorem tr_c_tv {stk : List Value} {x : Option (Option Nat)} {f : Option Nat → Option α} (hC : MsCall G M d mc ms cu su pc stk rest σ (ms_tv σ) x mc' ms') (htb : M.2.2.2.2.2 = []) (hc1 : cu + mc' ≤ mc) (hs1 : su + ms' ≤ ms) (kk : TrO G M d mc ms (cu + mc') (su + ms') κ (pc + 3) lv rest σ (f none)) (kx : ∀ e0 r, f (some e0) = some r → κ r = (.inr e0, σ)) : TrO G M d mc ms cu su κ pc lv stk σ (x.bind f) :=
  tr_call hC (fun r0 v hx h => by
    cases r0 with
    | none => cases h; exact kk
    | some a => cases h) (fun r0 e0 hx h => by
    cases r0 with
    | none => cases h
    | some a => cases h; exact ⟨htb, hc1, hs1, kx _⟩)
theorem tr_c_uv {stk : List Value} {x : Option (Option Nat × MsSt)} {f : Option Nat × MsSt → Option α} (hC : MsCall G M d mc ms cu su pc stk rest σ ms_uv x mc' ms') (htb : M.2.2.2.2.2 = []) (hc1 : cu + mc' ≤ mc) (hs1 : su + ms' ≤ ms) (kk : ∀ σ', TrO G M d mc ms (cu + mc') (su + ms') κ (pc + 3) lv rest σ' (f (none, σ'))) (kx : ∀ e0 σ' r, f (some e0, σ') = some r → κ r = (.inr e0, σ')) : TrO G M d mc ms cu su κ pc lv stk σ (x.bind f) :=
  tr_call hC (fun r0 v hx h => by
    obtain ⟨q, σ'⟩ := r0
    cases q with
    | none => cases h; exact kk σ'
    | some a => cases h) (fun r0 e0 hx h => by
    obtain ⟨q, σ'⟩ := r0
    cases q with
    | none => cases h
    | some a => cases h; exact ⟨htb, hc1, hs1, kx _ _⟩)
end MsCalls
/-! binds with names -/
def ms_b2 {α β γ : Type} (x : Option (β × γ)) (f : β → γ → Option α) : Option α := x.bind (fun p => f p.1 p.2)
def ms_bq {α : Type} (x : Option (Option Nat)) (f0 : Option α) (f1 : Nat → Option α) : Option α := x.bind (fun p => match p with | none => f0 | some a => f1 a)
def ms_bt {α : Type} (x : Option (Option Nat)) (f0 : Option α) (f1 : Nat → Option α) : Option α := x.bind (fun p => match p with | none => f0 | some e => f1 e)
def ms_bu {α : Type} (x : Option (Option Nat × MsSt)) (f0 : MsSt → Option α) (f1 : Nat → MsSt → Option α) : Option α := x.bind (fun p => match p.1 with | none => f0 p.2 | some e => f1 e p.2)
def ms_fuel : Nat := 100000
def ms_nm {α β : Type} (v : β) (f : β → Option α) : Option α := f v
def ms_cz (x : Int32) : Option Int32 := if (x.toUInt32 % 65536).toInt32 = x then some x else none
theorem ms_isB_of {s : Nat} (h : 600 ≤ s ∧ s < 650) : 800 ≤ 200 + s ∧ 200 + s < 850 := ⟨by omega, by omega⟩
section MsBinds
variable {α β : Type} {G : MG} {M M' : MM} {d mc ms cu su d' mc' ms' : Nat} {κ : α → MsRes} {κ' : β → MsRes} {pc : Nat} {lv : List (Nat × Value)} {rest stk : List Value} {σ : MsSt} {o : Option α}
theorem tr_d_wi {x : Option (Int32 × MsSt)} {f : Int32 → MsSt → Option α} (hC : MsCall G M d mc ms cu su pc stk rest σ ms_wi x mc' ms') (kk : ∀ v σ', TrO G M d mc ms (cu + mc') (su + ms') κ (pc + 3) lv (.int v :: rest) σ' (f v σ')) : TrO G M d mc ms cu su κ pc lv stk σ (ms_b2 x f) := tr_c_wi hC kk
theorem tr_d_wj {x : Option (Int64 × MsSt)} {f : Int64 → MsSt → Option α} (hC : MsCall G M d mc ms cu su pc stk rest σ ms_wj x mc' ms') (kk : ∀ v σ', TrO G M d mc ms (cu + mc') (su + ms') κ (pc + 3) lv (.long v :: rest) σ' (f v σ')) : TrO G M d mc ms cu su κ pc lv stk σ (ms_b2 x f) := tr_c_wj hC kk
theorem tr_d_wf {x : Option (UInt32 × MsSt)} {f : UInt32 → MsSt → Option α} (hC : MsCall G M d mc ms cu su pc stk rest σ ms_wf x mc' ms') (kk : ∀ v σ', TrO G M d mc ms (cu + mc') (su + ms') κ (pc + 3) lv (.float v :: rest) σ' (f v σ')) : TrO G M d mc ms cu su κ pc lv stk σ (ms_b2 x f) := tr_c_wf hC kk
theorem tr_d_wx {x : Option (UInt64 × MsSt)} {f : UInt64 → MsSt → Option α} (hC : MsCall G M d mc ms cu su pc stk rest σ ms_wx x mc' ms') (kk : ∀ v σ', TrO G M d mc ms (cu + mc') (su + ms') κ (pc + 3) lv (.double v :: rest) σ' (f v σ')) : TrO G M d mc ms cu su κ pc lv stk σ (ms_b2 x f) := tr_c_wx hC kk
theorem tr_d_wa {x : Option (Nat × MsSt)} {f : Nat → MsSt → Option α} (hC : MsCall G M d mc ms cu su pc stk rest σ ms_wa x mc' ms') (kk : ∀ v σ', x = some (v, σ') → TrO G M d mc ms (cu + mc') (su + ms') κ (pc + 3) lv (.ref v :: rest) σ' (f v σ')) : TrO G M d mc ms cu su κ pc lv stk σ (ms_b2 x f) := tr_c_wa hC kk
theorem tr_d_q {x : Option (Option Nat)} {f0 : Option α} {f1 : Nat → Option α} (hC : MsCall G M d mc ms cu su pc stk rest σ (ms_kq σ) x mc' ms') (k0 : TrO G M d mc ms (cu + mc') (su + ms') κ (pc + 3) lv (.null :: rest) σ f0) (kk : ∀ a, x = some (some a) → TrO G M d mc ms (cu + mc') (su + ms') κ (pc + 3) lv (.ref a :: rest) σ (f1 a)) : TrO G M d mc ms cu su κ pc lv stk σ (ms_bq x f0 f1) := tr_c_q hC k0 kk
theorem tr_d_tv {x : Option (Option Nat)} {f0 : Option α} {f1 : Nat → Option α} (hC : MsCall G M d mc ms cu su pc stk rest σ (ms_tv σ) x mc' ms') (htb : M.2.2.2.2.2 = []) (hc1 : cu + mc' ≤ mc) (hs1 : su + ms' ≤ ms) (kk : TrO G M d mc ms (cu + mc') (su + ms') κ (pc + 3) lv rest σ f0) (kx : ∀ e0 r, f1 e0 = some r → κ r = (.inr e0, σ)) : TrO G M d mc ms cu su κ pc lv stk σ (ms_bt x f0 f1) := tr_c_tv hC htb hc1 hs1 kk kx
theorem tr_d_uv {x : Option (Option Nat × MsSt)} {f0 : MsSt → Option α} {f1 : Nat → MsSt → Option α} (hC : MsCall G M d mc ms cu su pc stk rest σ ms_uv x mc' ms') (htb : M.2.2.2.2.2 = []) (hc1 : cu + mc' ≤ mc) (hs1 : su + ms' ≤ ms) (kk : ∀ σ', TrO G M d mc ms (cu + mc') (su + ms') κ (pc + 3) lv rest σ' (f0 σ')) (kx : ∀ e0 σ' r, f1 e0 σ' = some r → κ r = (.inr e0, σ')) : TrO G M d mc ms cu su κ pc lv stk σ (ms_bu x f0 f1) := tr_c_uv hC htb hc1 hs1 kk kx
/-! Math.max, Math.min -/
theorem tr_mmax {x y : Int32} {idx : Nat} (hw : Cond.methodLink M.1 idx Lib.Math.max.name ∈ lw_tbl) (hst : Cond.static Lib.Math.max.name ∈ lw_tbl) (hin : Cond.initialized "java/lang/Math" ∈ lw_tbl) (hco : Cond.code Lib.Math.max.name Lib.Math.max.code 2 (some .int) ∈ lw_tbl) (hdd : 1 ≤ d) (hs8 : (rest.map fun v => v.category).sum ≤ 8) (hc1 : cu ≤ mc) (hs1 : su ≤ ms) (hd : decode M.2.1 pc = .ok (.invokestatic idx, 3)) (kk : TrO G M d mc ms cu su κ (pc + 3) lv (.int (if x < y then y else x) :: rest) σ o) : TrO G M d mc ms cu su κ pc lv (.int y :: .int x :: rest) σ o := by
  intro r hr p e R s m args below meth c H locs cells slots ls X hR hc hs hP hL hl
  exact va_mmax X.1 X.2.1 (X.2.2.2.2.1.trans hl.1.symm) X.2.2.2.2.2.1 (X.2.2.2.2.2.2.1.w hw rfl) (X.2.2.2.2.2.2.1.w hst rfl) (X.2.2.2.2.2.2.1.w hin rfl) (X.2.2.2.2.2.2.1.w hco rfl) (Nat.le_trans hdd hR.1) (by have h1 := hR.2.1; rw [ms_sumcat]; omega) (by have h1 := hR.2.2.1; omega) (by have h1 := hR.2.2.2; omega) hd (kk r hr p e R s m args below meth c H locs cells slots ls X hR hc hs hP hL hl)
theorem tr_mmin {x y : Int32} {idx : Nat} (hw : Cond.methodLink M.1 idx Lib.Math.min.name ∈ lw_tbl) (hst : Cond.static Lib.Math.min.name ∈ lw_tbl) (hin : Cond.initialized "java/lang/Math" ∈ lw_tbl) (hco : Cond.code Lib.Math.min.name Lib.Math.min.code 2 (some .int) ∈ lw_tbl) (hdd : 1 ≤ d) (hs8 : (rest.map fun v => v.category).sum ≤ 8) (hc1 : cu ≤ mc) (hs1 : su ≤ ms) (hd : decode M.2.1 pc = .ok (.invokestatic idx, 3)) (kk : TrO G M d mc ms cu su κ (pc + 3) lv (.int (if y < x then y else x) :: rest) σ o) : TrO G M d mc ms cu su κ pc lv (.int y :: .int x :: rest) σ o := by
  intro r hr p e R s m args below meth c H locs cells slots ls X hR hc hs hP hL hl
  exact va_mmin X.1 X.2.1 (X.2.2.2.2.1.trans hl.1.symm) X.2.2.2.2.2.1 (X.2.2.2.2.2.2.1.w hw rfl) (X.2.2.2.2.2.2.1.w hst rfl) (X.2.2.2.2.2.2.1.w hin rfl) (X.2.2.2.2.2.2.1.w hco rfl) (Nat.le_trans hdd hR.1) (by have h1 := hR.2.1; rw [ms_sumcat]; omega) (by have h1 := hR.2.2.1; omega) (by have h1 := hR.2.2.2; omega) hd (kk r hr p e R s m args below meth c H locs cells slots ls X hR hc hs hP hL hl)
/-! the JDK's Strings: the constants, their bytes, two statics -/
theorem ms_ad_s {k : Nat} (h : 600 ≤ k) : ms_ad G k = g_s G k := if_neg (by omega)
def ms_isS (s : Nat) : Prop := 600 ≤ s ∧ s < 650
theorem ms_hk_s {U : State} (h : ms_hk G U) {s : Nat} (hs : ms_isS s) : va_O "java/lang/String" (ms_ad G s) (fun q => (g_H G).size ≤ q) U (g_H G) ∧ va_OF "java/lang/String" "coder" "B" (.int 0) (ms_ad G s) (fun q => (g_H G).size ≤ q) U (g_H G) ∧
    va_OF "java/lang/String" "value" "[B" (.ref (ms_ad G (200 + s))) (ms_ad G s) (fun q => (g_H G).size ≤ q) U (g_H G) ∧ va_T .byte (ms_ad G (200 + s)) (ms_txt s).length (fun i => .int ((ms_txt s).getD i 0)) (fun q => (g_H G).size ≤ q) U (g_H G) := by
  have h1 := h.1 (s - 600) (by have := hs.2; omega)
  have e1 : 600 + (s - 600) = s := by have := hs.1; omega
  have e2 : 800 + (s - 600) = 200 + s := by have := hs.1; omega
  rw [e1, e2] at h1
  rw [ms_ad_s hs.1, ms_ad_s (k := 200 + s) (by have := hs.1; omega)]
  exact h1
theorem tr_getSv {s idx : Nat} (hs9 : ms_isS s) (hlink : Cond.fieldLink M.1 idx "java/lang/String" "value" "[B" ∈ lw_tbl) (hd : decode M.2.1 pc = .ok (.getfield idx, 3)) (kk : TrO G M d mc ms cu su κ (pc + 3) lv (.ref (200 + s) :: rest) σ o) : TrO G M d mc ms cu su κ pc lv (.ref s :: rest) σ o := by
  intro r hr p e R s1 m args below meth c H locs cells slots ls X hR hc hs hP hL hl
  obtain ⟨cf, k, fi, f, cell, h1, h2, h3, h4, h5, h6⟩ := (ms_hk_s X.2.2.2.2.2.2.1.2.2.2 hs9).2.2.1
  have h3' : H[ms_ad G s]? = some cell := by rw [hP.2.1 _ (Nat.not_le.mp h6)]; exact h3
  exact W.getf X.1 X.2.1 X.2.2.2.2.2.1 (X.2.2.2.2.2.2.1.w hlink rfl) h1 h2 h3' h4 (v := ms_cv G (.ref (200 + s))) h5 rfl rfl hd (kk r hr p e R s1 m args below meth c H locs cells slots ls X hR hc hs hP hL hl)
theorem tr_getSc {s idx : Nat} (hs9 : ms_isS s) (hlink : Cond.fieldLink M.1 idx "java/lang/String" "coder" "B" ∈ lw_tbl) (hd : decode M.2.1 pc = .ok (.getfield idx, 3)) (kk : TrO G M d mc ms cu su κ (pc + 3) lv (.int 0 :: rest) σ o) : TrO G M d mc ms cu su κ pc lv (.ref s :: rest) σ o := by
  intro r hr p e R s1 m args below meth c H locs cells slots ls X hR hc hs hP hL hl
  obtain ⟨cf, k, fi, f, cell, h1, h2, h3, h4, h5, h6⟩ := (ms_hk_s X.2.2.2.2.2.2.1.2.2.2 hs9).2.1
  have h3' : H[ms_ad G s]? = some cell := by rw [hP.2.1 _ (Nat.not_le.mp h6)]; exact h3
  exact W.getf X.1 X.2.1 X.2.2.2.2.2.1 (X.2.2.2.2.2.2.1.w hlink rfl) h1 h2 h3' h4 (v := .int 0) h5 rfl rfl hd (kk r hr p e R s1 m args below meth c H locs cells slots ls X hR hc hs hP hL hl)
/-- the bytes of a constant -/
def ms_isB (b : Nat) : Prop := 800 ≤ b ∧ b < 850
theorem ms_hk_b {U : State} (h : ms_hk G U) {b : Nat} (hs : ms_isB b) : va_T .byte (ms_ad G b) (ms_txt (b - 200)).length (fun i => .int ((ms_txt (b - 200)).getD i 0)) (fun q => (g_H G).size ≤ q) U (g_H G) := by
  have h1 := (ms_hk_s h (s := b - 200) ⟨by have := hs.1; omega, by have := hs.2; omega⟩).2.2.2
  rw [show 200 + (b - 200) = b from by have := hs.1; omega] at h1
  exact h1
theorem tr_lenB {b : Nat} (hb9 : ms_isB b) (hd : decode M.2.1 pc = .ok (.arraylength, 1)) (kk : TrO G M d mc ms cu su κ (pc + 1) lv (.int (Int32.ofNat (ms_txt (b - 200)).length) :: rest) σ o) : TrO G M d mc ms cu su κ pc lv (.ref b :: rest) σ o := by
  intro r hr p e R s1 m args below meth c H locs cells slots ls X hR hc hs hP hL hl
  obtain ⟨cell, h1, h2, h3, h4, h5, h6, h7⟩ := ms_hk_b X.2.2.2.2.2.2.1.2.2.2 hb9
  have h3' : H[ms_ad G b]? = some cell := by rw [hP.2.1 _ (Nat.not_le.mp h7)]; exact h1
  exact W.alen X.1 X.2.1 h3' h2 h5 rfl rfl hd (kk r hr p e R s1 m args below meth c H locs cells slots ls X hR hc hs hP hL hl)
def ms_alt (b : Nat) (i : Int32) : Option Int32 := if i < 0 ∨ (ms_txt (b - 200)).length ≤ i.toNatClampNeg then none else some ((ms_txt (b - 200)).getD i.toNatClampNeg 0)
theorem tr_aldB {b : Nat} {i : Int32} {f : Int32 → Option α} (hb9 : ms_isB b) (hd : decode M.2.1 pc = .ok (.baload, 1)) (kk : ∀ v, TrO G M d mc ms cu su κ (pc + 1) lv (.int v :: rest) σ (f v)) : TrO G M d mc ms cu su κ pc lv (.int i :: .ref b :: rest) σ ((ms_alt b i).bind f) := by
  intro r hr p e R s1 m args below meth c H locs cells slots ls X hR hc hs hP hL hl
  obtain ⟨hin, hr⟩ := ms_if_s hr
  obtain ⟨cell, h1, h2, h3, h4, h5, h6, h7⟩ := ms_hk_b X.2.2.2.2.2.2.1.2.2.2 hb9
  have h3' : H[ms_ad G b]? = some cell := by rw [hP.2.1 _ (Nat.not_le.mp h7)]; exact h1
  exact W.bald (v := .int ((ms_txt (b - 200)).getD i.toNatClampNeg 0)) X.1 X.2.1 h3' h2 h3 (fun q => q.elim (fun q => hin (Or.inl q)) (fun q => hin (Or.inr (Nat.le_trans h4 q)))) (h6 _ (Nat.not_le.mp fun q => hin (Or.inr q))) rfl rfl hd (kk _ r hr p e R s1 m args below meth c H locs cells slots ls X hR hc hs hP hL hl)
theorem tr_gets {idx : Nat} {C n dsc : String} {v : Value} (hz : ∀ U, ms_hk G U → va_Z C n dsc (ms_cv G v) (fun q => (g_H G).size ≤ q) U (g_H G)) (hlink : Cond.fieldLink M.1 idx C n dsc ∈ lw_tbl) (hd : decode M.2.1 pc = .ok (.getstatic idx, 3)) (kk : TrO G M d mc ms cu su κ (pc + 3) lv (v :: rest) σ o) : TrO G M d mc ms cu su κ pc lv rest σ o := by
  intro r hr p e R s1 m args below meth c H locs cells slots ls X hR hc hs hP hL hl
  obtain ⟨cf, kf, fi, f, a, cell, h1, h2, h3, h4, h5, h6, h7, h8⟩ := hz s1 X.2.2.2.2.2.2.1.2.2.2
  have h5' : H[a]? = some cell := by rw [hP.2.1 _ (Nat.not_le.mp h8)]; exact h5
  exact W.gets X.1 X.2.1 X.2.2.2.2.2.1 (X.2.2.2.2.2.2.1.w hlink rfl) h1 h2 h3 h4 h5' (fun e => by rw [e] at h6; cases h6) h7 rfl hd (kk r hr p e R s1 m args below meth c H locs cells slots ls X hR hc hs hP hL hl)
theorem ms_recvS {s : Nat} (hs9 : ms_isS s) (s1 : State) (H : Heap) (x7 : ms_tk G s1) (hP : ms_rep G σ H) : ∃ cellB : Cell, H[ms_ad G s]? = some cellB ∧ cellB.vm.isStatics = false ∧ s1.vm.findClass "java/lang/String" = some cellB.cls := by
  obtain ⟨cell, h1, h2, h3, h4⟩ := (ms_hk_s x7.2.2.2 hs9).1
  exact ⟨cell, by rw [hP.2.1 _ (Nat.not_le.mp h4)]; exact h1, h2, h3⟩
theorem ms_cVs {s idx : Nat} {al : List Value} {x : Option β} (S : MsSpec G M' d' mc' ms' (.ref s :: al) σ κ' x) (hC : M'.2.2.2.2.1.cls = "java/lang/String") (hs9 : ms_isS s)
    (L : Cond.methodLink M.1 idx M'.2.2.2.2.1 ∈ lw_tbl) (F : MsYV M') (hd : decode M.2.1 pc = .ok (.invokevirtual idx, 3))
    (hn : (parseMethodDescriptor M'.2.2.2.2.1.desc).map (fun d => d.parameters.length) = some al.length) (hdd : d' + 1 ≤ d) (hw : (rest.map fun v => v.category).sum ≤ 8) (hc1 : cu + mc' ≤ mc) (hs1 : su + ms' ≤ ms) :
    MsCall G M d mc ms cu su pc (al.reverse ++ .ref s :: rest) rest σ κ' x mc' ms' := ms_cVR S hC (fun s1 H x7 hP => ms_recvS hs9 s1 H x7 hP) L F hd hn hdd hw hc1 hs1
theorem tr_pop {v : Value} (hd : decode M.2.1 pc = .ok (.pop, 1)) (hc1 : v.category = 1) (k : TrO G M d mc ms cu su κ (pc + 1) lv rest σ o) : TrO G M d mc ms cu su κ pc lv (v :: rest) σ o := by
  intro r hr p e R s m args below meth c H locs cells slots ls X hR hc hs hP hL hl
  exact lv_pop X.1 X.2.1 hd (by rw [ms_cv_cat]; exact hc1) (k r hr p e R s m args below meth c H locs cells slots ls X hR hc hs hP hL hl)
end MsBinds
section MsLt
variable {α : Type} {G : MG} {M : MM} {d mc ms cu su : Nat} {κ : α → MsRes} {pc : Nat} {lv : List (Nat × Value)} {st : List Value} {σ : MsSt}
theorem ms_ltS {f : MsSt → Option α} (k : ∀ s, TrO G M d mc ms cu su κ pc lv st s (f s)) : TrO G M d mc ms cu su κ pc lv st σ (ms_nm σ f) := k σ
theorem tr_cret {v : Int32} {f : Int32 → Option α} {r : α} (hf : f v = some r) (hr0 : M.2.2.2.1 = some .char) (hκ : κ r = (.inl (some (.int v)), σ)) (hc1 : cu ≤ mc) (hs1 : su ≤ ms) (hd : decode M.2.1 pc = .ok (.ireturn, 1)) : TrO G M d mc ms cu su κ pc lv [.int v] σ ((ms_cz v).bind f) := by
  intro r' hr
  unfold ms_cz at hr
  by_cases hx : (v.toUInt32 % 65536).toInt32 = v
  · rw [if_pos hx] at hr
    have hr1 : f v = some r' := hr
    rw [hf] at hr1
    exact tr_zret hr0 (by have := pk_nc v; rw [hx] at this; exact this) hκ hc1 hs1 hd r' hr1
  · rw [if_neg hx] at hr
    cases hr
end MsLt
section MsThrowW
variable {α : Type} {G : MG} {M : MM} {d mc ms cu su : Nat} {κ : α → MsRes} {pc : Nat} {lv : List (Nat × Value)} {rest : List Value} {σ : MsSt}
theorem tr_throwW {r : α} (e0 : Nat) {ik is ic j : Nat} {text : String} (hl0 : (g_l G).stackTraces = false) (ht : MsTh M.1 ik is ic (ms_xn e0) text j) (htb : M.2.2.2.2.2 = []) (hκ : κ r = (.inr e0, σ)) (hc1 : cu + 1 ≤ mc) (hs1 : su + 6 ≤ ms) (hdd : 6 ≤ d) (hw : (rest.map fun v => v.category).sum ≤ 8)
    (d0 : decode M.2.1 pc = .ok (.new ik, 3)) (d3 : decode M.2.1 (pc + 3) = .ok (.dup, 1)) (d4 : decode M.2.1 (pc + 4) = .ok (.ldc_w is, 3)) (d7 : decode M.2.1 (pc + 7) = .ok (.invokespecial ic, 3)) (d10 : decode M.2.1 (pc + 10) = .ok (.athrow, 1)) : TrO G M d mc ms cu su κ pc lv rest σ (some r) := by
  intro r' hr p e R s m args below meth c H locs cells slots ls X hR hc hs hP hL hl T hT XS
  cases hr
  obtain ⟨t1, t2, t3, t4, t5, t6, t7⟩ := ht
  obtain ⟨x1, x2, x3, x4, x5, x6, x7, x8, x9, x10⟩ := X
  obtain ⟨k1, k2, k3, k4, k5, k6, k7⟩ := x7.2.2.2
  obtain ⟨r1, r2, r3, r4⟩ := hR
  have hsz : s.heap.size ≤ H.size := by
    have h3 : s.heap.size ≤ T.heap.size := (vx_frame XS.same).1
    rw [hT] at h3
    exact h3
  have hS : va_S (fun q => (g_H G).size ≤ q) s.heap H locs := ⟨hsz, fun q h1 h2 => by
    have h3 : q < (g_H G).size := Nat.not_le.mp h2
    rw [hP.2.1 q h3, x9 q h3], hL⟩
  have hzk : ∀ a : Nat, a < (g_H G).size → ¬ (g_H G).size ≤ a → s.heap[a]? = (g_H G)[a]? := fun a h1 _ => x9 a h1
  have hstr := k2 j t4
  rw [t5] at hstr
  have hsum : ((rest.map (ms_cv G)).map fun v => v.category).sum ≤ 8 := by
    rw [ms_sumcat]
    exact hw
  exact vx_throwSW (A := fun q => (g_H G).size ≤ q) (names := ms_names2) (cls := ms_xn e0) (text := text) (sa := g_s G (600 + j)) x1 x2 hl0 x6 t1 (by decide +kernel) (x7.w t2 rfl) (x7.w t3 rfl) hstr (fun w hw => x7.w (t6 w hw).1 (t6 w hw).2) t7 (k4.kept hzk) (k5.kept hzk) hS
    (hl.1.trans x5.symm) d0 d3 d4 d7 d10 (by rw [x8, htb]; intro x hx; cases hx) (by show 2 + 3 < R.frames; omega) (by show _ + (13 * (2 + 1) + 43) ≤ R.locals; omega) (by omega) (by omega) x4
    (fun t hA h1 h2 => ⟨e0, congrArg Prod.fst hκ, rfl, by
      rw [hκ]
      refine ⟨fun a ha => (hP.1 a ha).kept (h2 _ (hP.lt ha)) (fun _ => rfl) (fun _ => rfl) (fun _ => rfl), fun q hq => by rw [h2 q (Nat.lt_of_lt_of_le hq hP.2.2)]; exact hP.2.1 q hq, Nat.le_trans hP.2.2 h1⟩⟩) hL (by omega) (by omega) T hT XS
end MsThrowW
