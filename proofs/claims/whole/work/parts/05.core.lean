/-! THE STORE: what the fields and places of whole numbers, long numbers and doubles hold: (object or array, field or place) -/
abbrev MsSt : Type := (Nat → Nat → Int32) × (Nat → Nat → Int64) × (Nat → Nat → UInt64)
def ms_up {α : Type} (f : Nat → Nat → α) (a k : Nat) (v : α) : Nat → Nat → α := fun x y => if x = a ∧ y = k then v else f x y
theorem ms_up_same {α : Type} (f : Nat → Nat → α) (a k : Nat) (v : α) : ms_up f a k v a k = v := by simp [ms_up]
theorem ms_up_ne {α : Type} (f : Nat → Nat → α) {a k x y : Nat} (v : α) (h : x ≠ a ∨ y ≠ k) : ms_up f a k v x y = f x y := by
  unfold ms_up
  rw [if_neg]
  rintro ⟨h1, h2⟩
  rcases h with h | h
  · exact h h1
  · exact h h2
def ms_i (σ : MsSt) (a k : Nat) : Int32 := σ.1 a k
def ms_j (σ : MsSt) (a k : Nat) : Int64 := σ.2.1 a k
def ms_d (σ : MsSt) (a k : Nat) : UInt64 := σ.2.2 a k
def ms_si (σ : MsSt) (a k : Nat) (v : Int32) : MsSt := (ms_up σ.1 a k v, σ.2)
def ms_sj (σ : MsSt) (a k : Nat) (v : Int64) : MsSt := (σ.1, ms_up σ.2.1 a k v, σ.2.2)
def ms_sd (σ : MsSt) (a k : Nat) (v : UInt64) : MsSt := (σ.1, σ.2.1, ms_up σ.2.2 a k v)
/-- the launch, the classes' numbers and slots, the array classes, the addresses of constants and script, the heap at the start, the script -/
abbrev MG : Type := Launch × va_G × (Nat → ClassId) × (Nat → Nat) × Heap × Nat × (Nat → Int32) × Option Nat
abbrev g_l (G : MG) : Launch := G.1
abbrev g_D (G : MG) : va_G := G.2.1
abbrev g_A (G : MG) : Nat → ClassId := G.2.2.1
abbrev g_s (G : MG) : Nat → Nat := G.2.2.2.1
abbrev g_H (G : MG) : Heap := G.2.2.2.2.1
abbrev g_L (G : MG) : Nat := G.2.2.2.2.2.1
abbrev g_xs (G : MG) : Nat → Int32 := G.2.2.2.2.2.2.1
/-- the formatter that the JDK hands to its index check: null or some reference -/
abbrev g_f (G : MG) : Option Nat := G.2.2.2.2.2.2.2
def ms_ad (G : MG) (k : Nat) : Nat := if k < 600 then (g_H G).size + k else g_s G k
theorem ms_ad_lo {G : MG} {k : Nat} (h : k < 600) : ms_ad G k = (g_H G).size + k := if_pos h
theorem ms_ad_inj {G : MG} {a b : Nat} (ha : a < 600) (hb : b < 600) (h : ms_ad G a = ms_ad G b) : a = b := by
  rw [ms_ad_lo ha, ms_ad_lo hb] at h
  omega
def ms_cv (G : MG) (v : Value) : Value := match v with
  | .ref k => .ref (ms_ad G k)
  | .int x => .int x
  | .long x => .long x
  | .float x => .float x
  | .double x => .double x
  | .null => .null
  | .retAddr _ => va_rf (g_f G)
theorem ms_cv_cat (G : MG) (v : Value) : (ms_cv G v).category = v.category := by
  cases v with
  | retAddr x =>
    show (va_rf (g_f G)).category = 1
    cases g_f G <;> rfl
  | _ => rfl
def ms_mp (G : MG) (lv : List (Nat × Value)) : List (Nat × Value) := lv.map (fun q => (q.1, ms_cv G q.2))
theorem ms_mpat {G : MG} {lv : List (Nat × Value)} {i k : Nat} {v : Value} (h : lv[i]? = some (k, v)) : (ms_mp G lv)[i]? = some (k, ms_cv G v) := by
  unfold ms_mp
  rw [List.getElem?_map, h]
  rfl
theorem ms_lvat {G : MG} {ls : Array Slot} {n : Nat} {lv : List (Nat × Value)} {i k : Nat} {v : Value} (hl : lv_has ls n (ms_mp G lv)) (h : lv[i]? = some (k, v)) : ls[k]? = some (.val (ms_cv G v)) := lv_at hl i (ms_mpat h)
def ms_st1 (lv : List (Nat × Value)) (k : Nat) (v : Value) : List (Nat × Value) := (k, v) :: lv.filter (fun q => !(q.1 == k) && !(q.1 + 1 == k && q.2.category == 2))
def ms_st2 (lv : List (Nat × Value)) (k : Nat) (v : Value) : List (Nat × Value) := (k, v) :: lv.filter (fun q => !(q.1 == k) && (!(q.1 == k + 1) && !(q.1 + 1 == k && q.2.category == 2)))
theorem ms_mp_st1 (G : MG) (lv : List (Nat × Value)) (k : Nat) (v : Value) : ms_mp G (ms_st1 lv k v) = (k, ms_cv G v) :: (ms_mp G lv).filter (fun q => !(q.1 == k) && !(q.1 + 1 == k && q.2.category == 2)) := by
  unfold ms_mp ms_st1
  rw [List.map_cons, List.filter_map]
  congr 3
  funext q
  simp [ms_cv_cat]
theorem ms_mp_st2 (G : MG) (lv : List (Nat × Value)) (k : Nat) (v : Value) : ms_mp G (ms_st2 lv k v) = (k, ms_cv G v) :: (ms_mp G lv).filter (fun q => !(q.1 == k) && (!(q.1 == k + 1) && !(q.1 + 1 == k && q.2.category == 2))) := by
  unfold ms_mp ms_st2
  rw [List.map_cons, List.filter_map]
  congr 3
  funext q
  simp [ms_cv_cat]
def ms_pk (l : List (Nat × Value)) (ks : List Nat) : List (Nat × Value) := ks.filterMap (fun k => l[k]?)
theorem ms_lvpk {G : MG} {ls : Array Slot} {n : Nat} {lv lv' : List (Nat × Value)} {ps : List Nat} (h : lv_has ls n (ms_mp G lv)) (hp : ms_pk lv ps = lv') : lv_has ls n (ms_mp G lv') := by
  refine lv_sub h ps ?_
  rw [← hp]
  unfold lv_pick ms_pk ms_mp
  rw [List.map_filterMap]
  congr 1
  funext k
  rw [List.getElem?_map]
theorem ms_lt {x y : Int32} (h : ¬ y ≤ x) : x < y := by
  rw [Int32.lt_iff_toInt_lt]
  rw [Int32.le_iff_toInt_le] at h
  omega
theorem ms_nlt {x y : Int32} (h : y ≤ x) : ¬ x < y := fun q => by
  rw [Int32.lt_iff_toInt_lt] at q
  rw [Int32.le_iff_toInt_le] at h
  omega
def ms_idiv (x y : Int32) : Option Int32 := if y = 0 then none else some (x / y)
def ms_irem (x y : Int32) : Option Int32 := if y = 0 then none else some (x - x / y * y)
def ms_ldiv (x y : Int64) : Option Int64 := if y = 0 then none else some (x / y)
def ms_fdiv (x y : UInt32) : Option UInt32 := if FP.fdiv x y &&& 0x7fffffff ≤ 0x7f800000 then some (FP.fdiv x y) else none
def ms_ddiv (x y : UInt64) : Option UInt64 := if FP.ddiv x y &&& 0x7fffffffffffffff ≤ 0x7ff0000000000000 then some (FP.ddiv x y) else none
def ms_f2d (x : UInt32) : Option UInt64 := if FP.f2d x &&& 0x7fffffffffffffff ≤ 0x7ff0000000000000 then some (FP.f2d x) else none
theorem ms_idiv_s {α : Type} {x y : Int32} {f : Int32 → Option α} {r : α} (h : (ms_idiv x y).bind f = some r) : ¬ y = 0 ∧ f (x / y) = some r := by
  unfold ms_idiv at h
  by_cases hy : y = 0
  · rw [if_pos hy] at h; cases h
  · rw [if_neg hy] at h; exact ⟨hy, h⟩
theorem ms_irem_s {α : Type} {x y : Int32} {f : Int32 → Option α} {r : α} (h : (ms_irem x y).bind f = some r) : ¬ y = 0 ∧ f (x - x / y * y) = some r := by
  unfold ms_irem at h
  by_cases hy : y = 0
  · rw [if_pos hy] at h; cases h
  · rw [if_neg hy] at h; exact ⟨hy, h⟩
theorem ms_ldiv_s {α : Type} {x y : Int64} {f : Int64 → Option α} {r : α} (h : (ms_ldiv x y).bind f = some r) : ¬ y = 0 ∧ f (x / y) = some r := by
  unfold ms_ldiv at h
  by_cases hy : y = 0
  · rw [if_pos hy] at h; cases h
  · rw [if_neg hy] at h; exact ⟨hy, h⟩
theorem ms_fdiv_s {α : Type} {x y : UInt32} {f : UInt32 → Option α} {r : α} (h : (ms_fdiv x y).bind f = some r) : vf_n32 (FP.fdiv x y) ∧ f (FP.fdiv x y) = some r := by
  unfold ms_fdiv at h
  by_cases hy : FP.fdiv x y &&& 0x7fffffff ≤ 0x7f800000
  · rw [if_pos hy] at h; exact ⟨hy, h⟩
  · rw [if_neg hy] at h; cases h
theorem ms_ddiv_s {α : Type} {x y : UInt64} {f : UInt64 → Option α} {r : α} (h : (ms_ddiv x y).bind f = some r) : vf_n64 (FP.ddiv x y) ∧ f (FP.ddiv x y) = some r := by
  unfold ms_ddiv at h
  by_cases hy : FP.ddiv x y &&& 0x7fffffffffffffff ≤ 0x7ff0000000000000
  · rw [if_pos hy] at h; exact ⟨hy, h⟩
  · rw [if_neg hy] at h; cases h
theorem ms_f2d_s {α : Type} {x : UInt32} {f : UInt64 → Option α} {r : α} (h : (ms_f2d x).bind f = some r) : vf_n64 (FP.f2d x) ∧ f (FP.f2d x) = some r := by
  unfold ms_f2d at h
  by_cases hy : FP.f2d x &&& 0x7fffffffffffffff ≤ 0x7ff0000000000000
  · rw [if_pos hy] at h; exact ⟨hy, h⟩
  · rw [if_neg hy] at h; cases h
theorem ms_bind_s {α β : Type} {x : Option β} {f : β → Option α} {r : α} (h : x.bind f = some r) : ∃ v, x = some v ∧ f v = some r := by
  cases x with
  | none => cases h
  | some v => exact ⟨v, rfl, h⟩
/-! THE CELLS -/
def ms_fv (G : MG) (σ : MsSt) (a c k : Nat) : Value := if ms_isr c k = true then .ref (ms_ad G (ms_rf a k)) else .int (ms_i σ a k)
def ms_av (G : MG) (σ : MsSt) (a ak k : Nat) : Value := if ak = 2 then .long (ms_j σ a k) else if ak = 3 then .double (ms_d σ a k) else if ak < 2 then .int (ms_i σ a k) else .ref (ms_ad G (ms_rf a k))
def ms_ob (G : MG) (σ : MsSt) (a c : Nat) (H : Heap) : Prop := ∃ r : vw_C, ms_cl[c]? = some r ∧ t_OB (ms_ad G a) ((g_D G).1 c) r.2.2 ((g_D G).2 c) H (ms_fv G σ a c)
def ms_ar (G : MG) (σ : MsSt) (a ak : Nat) (H : Heap) : Prop := H[ms_ad G a]? = some (arrV (g_A G ak) (ms_ln a) (ms_av G σ a ak))
def ms_at (G : MG) (σ : MsSt) (a : Nat) (H : Heap) : Prop := (∀ c, ms_kd a = c + 1 → c < 13 → ms_ob G σ a c H) ∧ ∀ ak, ms_kd a = ak + 20 → ms_ar G σ a ak H
def ms_rep (G : MG) (σ : MsSt) (H : Heap) : Prop := (∀ a, a < 519 → ms_at G σ a H) ∧ (∀ q, q < (g_H G).size → H[q]? = (g_H G)[q]?) ∧ (g_H G).size ≤ H.size
theorem ms_at.kept {G : MG} {σ σ' : MsSt} {a : Nat} {H H' : Heap} (h : ms_at G σ a H) (hq : H'[ms_ad G a]? = H[ms_ad G a]?) (h1 : ∀ k, ms_i σ' a k = ms_i σ a k) (h2 : ∀ k, ms_j σ' a k = ms_j σ a k) (h3 : ∀ k, ms_d σ' a k = ms_d σ a k) : ms_at G σ' a H' := by
  refine ⟨fun c hc hc2 => ?_, fun ak hk => ?_⟩
  · obtain ⟨r, e1, e2⟩ := h.1 c hc hc2
    exact ⟨r, e1, (e2.kept hq).to (fun k _ => by unfold ms_fv; rw [h1])⟩
  · have e := h.2 ak hk
    unfold ms_ar at e ⊢
    rw [hq, e]
    congr 2
    funext k
    unfold ms_av
    rw [h1, h2, h3]
theorem ms_kd_lt {a : Nat} (h : ms_kd a ≠ 0) : a < 519 := by
  by_cases h1 : a < 519
  · exact h1
  · exfalso
    apply h
    by_cases h2 : a < 540
    · have : ∀ k, k < 540 → ¬ k < 519 → ms_kd k = 0 := by decide +kernel
      exact this a h2 h1
    · unfold ms_kd ms_sh
      rw [if_neg (by omega), if_neg (by omega), if_neg (by omega), if_neg (by omega), if_neg (by omega), if_neg (by omega), if_neg (by omega), if_neg (by omega), if_neg (by omega)]
theorem ms_kd_pos {a : Nat} (h : a < 519) : ms_kd a ≠ 0 := by
  have : ∀ k, k < 519 → ms_kd k ≠ 0 := by decide +kernel
  exact this a h
theorem ms_rep.obj {G : MG} {σ : MsSt} {H : Heap} (h : ms_rep G σ H) {a c : Nat} (hk : ms_kd a = c + 1) (hc : c < 13) : ms_ob G σ a c H := (h.1 a (ms_kd_lt (by omega))).1 c hk hc
theorem ms_rep.arr {G : MG} {σ : MsSt} {H : Heap} (h : ms_rep G σ H) {a ak : Nat} (hk : ms_kd a = ak + 20) : ms_ar G σ a ak H := (h.1 a (ms_kd_lt (by omega))).2 ak hk
/-! THE TABLES -/
def ms_tw (w : Cond) : Bool := (w.onTables && w.keepsH) || (match w with
  | .castable _ _ => true
  | .declares _ => true
  | .arrayClass _ => true
  | _ => false)
theorem ms_castable_moved {s U : State} {args a' : Array Value} {A B : String} (h : s.vm.Alike U.vm) (hb : (Cond.castable A B).before args s = true) : (Cond.castable A B).before a' U = true := by
  have e : (Cond.castable A B).before a' U = (Cond.castable A B).before args s := by
    simp only [Cond.before, Cond.holds, Cond.value, h.findClass, h.assignable]
  rw [e]
  exact hb
theorem ms_declares_moved {s U : State} {args a' : Array Value} {x : MethodName} (h : s.vm.Alike U.vm) (hb : (Cond.declares x).before args s = true) : (Cond.declares x).before a' U = true := by
  have hm : U.vm.method? = s.vm.method? := funext h.method?
  have e1 : (Cond.declares x).before args (s.setVm U.vm) = (Cond.declares x).before args s := by
    simp only [Cond.before, Cond.holds, Cond.value, State.methodNamed?_setVm h, State.vm_setVm, hm]
  have e2 := Cond.onTables_vm (A := args) (A' := a') (U := s) (U' := U) U.vm (Cond.declares x) rfl
  rw [State.setVm_self] at e2
  rw [← e2, e1]
  exact hb
theorem ms_word {s U : State} {args a' : Array Value} (hW : s.WarmedH U.vm) {w : Cond} (ht : ms_tw w = true) (h : w.before args s = true) : w.before a' U = true := by
  by_cases h1 : (w.onTables && w.keepsH) = true
  · simp only [Bool.and_eq_true] at h1
    have h2 := Cond.onTables_warmH (T := U) (args' := a') hW h1.1 h1.2 h
    rwa [State.setVm_self] at h2
  · unfold ms_tw at ht
    rw [Bool.eq_false_iff.mpr h1] at ht
    cases w with
    | castable A B => exact ms_castable_moved hW.alike h
    | declares x => exact ms_declares_moved hW.alike h
    | arrayClass ty => exact word_at hW (Or.inr ⟨ty, rfl⟩) h
    | _ => simp at ht
def ms_gw : List Cond := lw_tbl.filter goodWord
theorem ms_gi {w : Cond} (h : w ∈ lw_tbl) (hg : goodWord w = true) : w ∈ ms_gw ∧ ((w.onTables && w.keeps) = true ∨ ∃ ty, w = .arrayClass ty) := ⟨List.mem_filter.mpr ⟨h, hg⟩, good_of_word hg⟩
theorem ms_gi_tw {w : Cond} (h : w ∈ ms_gw) : ms_tw w = true := by
  have h1 := (List.mem_filter.mp h).2
  cases w <;> first | rfl | (simp [goodWord, Cond.onTables, Cond.keeps, Cond.steady] at h1; done) | (simp [goodWord, Cond.onTables, Cond.keeps, Cond.steady] at h1; simp [ms_tw, Cond.onTables, Cond.keepsH, Cond.steady, h1])
/-- what is known of the String constants, the script and the two statics that a throw reads: all of it of the heap at the start -/
def ms_hk (G : MG) (U : State) : Prop :=
  (∀ j, j < 50 → va_O "java/lang/String" (g_s G (600 + j)) (fun q => (g_H G).size ≤ q) U (g_H G) ∧ va_OF "java/lang/String" "coder" "B" (.int 0) (g_s G (600 + j)) (fun q => (g_H G).size ≤ q) U (g_H G) ∧
    va_OF "java/lang/String" "value" "[B" (.ref (g_s G (800 + j))) (g_s G (600 + j)) (fun q => (g_H G).size ≤ q) U (g_H G) ∧ va_T .byte (g_s G (800 + j)) (ms_txt (600 + j)).length (fun i => .int ((ms_txt (600 + j)).getD i 0)) (fun q => (g_H G).size ≤ q) U (g_H G)) ∧
  (∀ j, j < 50 → vk_R (ms_tx.getD j ("", 0, "")).1 (ms_tx.getD j ("", 0, "")).2.1 (ms_tx.getD j ("", 0, "")).2.2 (g_s G (600 + j)) U) ∧
  va_X (g_s G 700) (g_L G) (g_xs G) U (g_H G) ∧
  vx_Zq Bundle.tN "UNASSIGNED_STACK" Bundle.steD (fun q => (g_H G).size ≤ q) U (g_H G) ∧ vx_Zq Bundle.tN "SUPPRESSED_SENTINEL" Bundle.listD (fun q => (g_H G).size ≤ q) U (g_H G) ∧
  va_Z "java/lang/String" "COMPACT_STRINGS" "Z" (.int 1) (fun q => (g_H G).size ≤ q) U (g_H G) ∧
  va_Z "jdk/internal/util/Preconditions" "SIOOBE_FORMATTER" "Ljava/util/function/BiFunction;" (va_rf (g_f G)) (fun q => (g_H G).size ≤ q) U (g_H G) ∧
  va_Nc "java/lang/IllegalArgumentException" "java/util/NoSuchElementException" U
theorem ms_hk.moved {G : MG} {s U : State} (hW : s.WarmedH U.vm) (h : ms_hk G s) : ms_hk G U := by
  obtain ⟨h1, h2, h3, h4, h5, h6, h7, h8⟩ := h
  refine ⟨fun j hj => ?_, fun j hj => vk_R.warm hW (h2 j hj), h3.moved hW.alike, vx_Zq.moved hW.alike h4, vx_Zq.moved hW.alike h5, va_Z.moved hW.alike h6, va_Z.moved hW.alike h7, va_Nc.moved hW.alike h8⟩
  obtain ⟨a, b, c, e⟩ := h1 j hj
  exact ⟨va_O.moved hW.alike a, va_OF.moved hW.alike b, va_OF.moved hW.alike c, va_T.moved hW.alike e⟩
def ms_tk (G : MG) (U : State) : Prop := (∀ w ∈ lw_tbl, ms_tw w = true → w.before #[] U = true) ∧ va_K (g_D G) ms_cl [] U ∧ (∀ ak, ak < 8 → ArrOfT U (g_A G ak) (ms_akty ak)) ∧ ms_hk G U
theorem ms_tk.moved {G : MG} {s U : State} (hW : s.WarmedH U.vm) (h : ms_tk G s) : ms_tk G U :=
  ⟨fun w hw ht => ms_word hW ht (h.1 w hw ht), va_K.moved hW.alike h.2.1, fun ak hk => arrOfT_moved hW.alike (h.2.2.1 ak hk), h.2.2.2.moved hW⟩
theorem ms_tk.w {G : MG} {s : State} {args : Array Value} (h : ms_tk G s) {w : Cond} (hw : w ∈ lw_tbl) (ht : ms_tw w = true) : w.before args s = true := ms_word (State.WarmedH.refl s) ht (h.1 w hw ht)
theorem ms_tk.g {G : MG} {s : State} {args : Array Value} (h : ms_tk G s) : ∀ w ∈ ms_gw, w.before args s = true := fun w hw => h.w (List.mem_filter.mp hw).1 (ms_gi_tw hw)
/-! THE JUDGEMENT -/
abbrev MsRes : Type := (Option Value ⊕ Nat) × MsSt
/-- a method: its class, bytes, number of locals, result, name, table -/
abbrev MM : Type := String × ByteArray × Nat × Option FieldType × MethodName × List ExceptionTableEntry
def ms_xn (e : Nat) : String := if e = 0 then "java/util/NoSuchElementException" else "java/lang/IllegalArgumentException"
def ms_qc (G : MG) (r : MsRes) : Array Value → State → Outcome → State → Prop := fun _ _ o t => ∃ v, r.1 = .inl v ∧ o = .returned (v.map (ms_cv G)) ∧ ms_rep G r.2 t.heap
def ms_xc (G : MG) (r : MsRes) : String → State → State → Prop := fun E _ t => ∃ e, r.1 = .inr e ∧ E = ms_xn e ∧ ms_rep G r.2 t.heap
def ms_cx (G : MG) (M : MM) (p : Program) (s : State) (m : MethodId) (args : Array Value) (meth : Method) (c : Code) : Prop :=
  p.tables.exec = Jvm.exec ∧ c.code = M.2.1 ∧ meth.sig.returnType = M.2.2.2.1 ∧ meth.locks = false ∧ c.maxLocals = M.2.2.1 ∧ s.vm.findClass M.1 = some m.cls ∧ ms_tk G s ∧ c.exceptionTable.toList = M.2.2.2.2.2 ∧ (∀ q, q < (g_H G).size → s.heap[q]? = (g_H G)[q]?) ∧ (g_H G).size ≤ s.heap.size
def ms_rm (R : Room) (d mc ms : Nat) : Prop := d ≤ R.frames ∧ 64 * d ≤ R.locals ∧ mc ≤ R.cells ∧ ms ≤ R.slots
/-- from this place of the method, with these locals, this stack and this store, the method comes to its end with κ r, for every r that o has -/
def TrO {α : Type} (G : MG) (M : MM) (d mc ms cu su : Nat) (κ : α → MsRes) (pc : Nat) (lv : List (Nat × Value)) (st : List Value) (σ : MsSt) (o : Option α) : Prop :=
  ∀ r, o = some r → ∀ (p : Program) (e : Env) (R : Room) (s : State) (m : MethodId) (args : Array Value) (below : List Frame) (meth : Method) (c : Code) (H : Heap) (locs : List Loc) (cells slots : Nat) (ls : Array Slot),
    ms_cx G M p s m args meth c → ms_rm R d mc ms → cells ≤ cu → slots ≤ su → ms_rep G σ H → (∀ q ∈ locs, (g_H G).size ≤ q.base) → lv_has ls M.2.2.1 (ms_mp G lv) →
    W p (g_l G) e R s m args below meth c H locs cells slots (vx_MQ below (ms_qc G (κ r)) (ms_xc G (κ r)) args s mc ms (fun q => (g_H G).size ≤ q)) (F0 m pc ls (st.map (ms_cv G)))

theorem tr_iconst {α : Type} {G : MG} {M : MM} {d mc ms cu su : Nat} {κ : α → MsRes} {pc : Nat} {lv : List (Nat × Value)} {rest : List Value} {σ : MsSt} {o : Option α} {n : Int} {v : Int32} (hd : decode M.2.1 pc = .ok (.iconst n, 1)) (hv : Int32.ofInt n = v) (k : TrO G M d mc ms cu su κ (pc + 1) lv (.int v :: rest) σ o) : TrO G M d mc ms cu su κ pc lv rest σ o := by
  intro r hr p e R s m args below meth c H locs cells slots ls X hR hc hs hP hL hl
  exact lv_iconst X.1 X.2.1 hd hv (k r hr p e R s m args below meth c H locs cells slots ls X hR hc hs hP hL hl)
theorem tr_bipush {α : Type} {G : MG} {M : MM} {d mc ms cu su : Nat} {κ : α → MsRes} {pc : Nat} {lv : List (Nat × Value)} {rest : List Value} {σ : MsSt} {o : Option α} {n : Int} {v : Int32} (hd : decode M.2.1 pc = .ok (.bipush n, 2)) (hv : (Int8.ofInt n).toInt32 = v) (k : TrO G M d mc ms cu su κ (pc + 2) lv (.int v :: rest) σ o) : TrO G M d mc ms cu su κ pc lv rest σ o := by
  intro r hr p e R s m args below meth c H locs cells slots ls X hR hc hs hP hL hl
  exact lv_bipush X.1 X.2.1 hd hv (k r hr p e R s m args below meth c H locs cells slots ls X hR hc hs hP hL hl)
theorem tr_sipush {α : Type} {G : MG} {M : MM} {d mc ms cu su : Nat} {κ : α → MsRes} {pc : Nat} {lv : List (Nat × Value)} {rest : List Value} {σ : MsSt} {o : Option α} {n : Int} {v : Int32} (hd : decode M.2.1 pc = .ok (.sipush n, 3)) (hv : (Int16.ofInt n).toInt32 = v) (k : TrO G M d mc ms cu su κ (pc + 3) lv (.int v :: rest) σ o) : TrO G M d mc ms cu su κ pc lv rest σ o := by
  intro r hr p e R s m args below meth c H locs cells slots ls X hR hc hs hP hL hl
  exact lv_sipush X.1 X.2.1 hd hv (k r hr p e R s m args below meth c H locs cells slots ls X hR hc hs hP hL hl)
theorem tr_lconst {α : Type} {G : MG} {M : MM} {d mc ms cu su : Nat} {κ : α → MsRes} {pc : Nat} {lv : List (Nat × Value)} {rest : List Value} {σ : MsSt} {o : Option α} {n : Fin 2} {v : Int64} (hd : decode M.2.1 pc = .ok (.lconst n, 1)) (hv : Int64.ofNat (n : Nat) = v) (k : TrO G M d mc ms cu su κ (pc + 1) lv (.long v :: rest) σ o) : TrO G M d mc ms cu su κ pc lv rest σ o := by
  intro r hr p e R s m args below meth c H locs cells slots ls X hR hc hs hP hL hl
  exact lv_lconst X.1 X.2.1 hd hv (k r hr p e R s m args below meth c H locs cells slots ls X hR hc hs hP hL hl)
theorem tr_fconst0 {α : Type} {G : MG} {M : MM} {d mc ms cu su : Nat} {κ : α → MsRes} {pc : Nat} {lv : List (Nat × Value)} {rest : List Value} {σ : MsSt} {o : Option α}  (hd : decode M.2.1 pc = .ok (.fconst 0, 1)) (k : TrO G M d mc ms cu su κ (pc + 1) lv (.float 0 :: rest) σ o) : TrO G M d mc ms cu su κ pc lv (rest) σ o := by
  intro r hr p e R s m args below meth c H locs cells slots ls X hR hc hs hP hL hl
  exact lv_fconst0 X.1 X.2.1 hd (k r hr p e R s m args below meth c H locs cells slots ls X hR hc hs hP hL hl)
theorem tr_dconst0 {α : Type} {G : MG} {M : MM} {d mc ms cu su : Nat} {κ : α → MsRes} {pc : Nat} {lv : List (Nat × Value)} {rest : List Value} {σ : MsSt} {o : Option α}  (hd : decode M.2.1 pc = .ok (.dconst 0, 1)) (k : TrO G M d mc ms cu su κ (pc + 1) lv (.double 0 :: rest) σ o) : TrO G M d mc ms cu su κ pc lv (rest) σ o := by
  intro r hr p e R s m args below meth c H locs cells slots ls X hR hc hs hP hL hl
  exact lv_dconst0 X.1 X.2.1 hd (k r hr p e R s m args below meth c H locs cells slots ls X hR hc hs hP hL hl)
theorem tr_iload_n {α : Type} {G : MG} {M : MM} {d mc ms cu su : Nat} {κ : α → MsRes} {pc : Nat} {lv : List (Nat × Value)} {rest : List Value} {σ : MsSt} {o : Option α} {k : Fin 4} {i : Nat} {x : Int32} (hd : decode M.2.1 pc = .ok (.iload_n k, 1)) (hv : lv[i]? = some ((k : Nat), .int x)) (kk : TrO G M d mc ms cu su κ (pc + 1) lv (.int x :: rest) σ o) : TrO G M d mc ms cu su κ pc lv rest σ o := by
  intro r hr p e R s m args below meth c H locs cells slots ls X hR hc hs hP hL hl
  exact lv_iload_n X.1 X.2.1 hd rfl (ms_lvat hl hv) (kk r hr p e R s m args below meth c H locs cells slots ls X hR hc hs hP hL hl)
theorem tr_iload {α : Type} {G : MG} {M : MM} {d mc ms cu su : Nat} {κ : α → MsRes} {pc : Nat} {lv : List (Nat × Value)} {rest : List Value} {σ : MsSt} {o : Option α} {k i : Nat} {x : Int32} (hd : decode M.2.1 pc = .ok (.iload k, 2)) (hv : lv[i]? = some (k, .int x)) (kk : TrO G M d mc ms cu su κ (pc + 2) lv (.int x :: rest) σ o) : TrO G M d mc ms cu su κ pc lv rest σ o := by
  intro r hr p e R s m args below meth c H locs cells slots ls X hR hc hs hP hL hl
  exact lv_iload X.1 X.2.1 hd (ms_lvat hl hv) (kk r hr p e R s m args below meth c H locs cells slots ls X hR hc hs hP hL hl)
theorem tr_lload_n {α : Type} {G : MG} {M : MM} {d mc ms cu su : Nat} {κ : α → MsRes} {pc : Nat} {lv : List (Nat × Value)} {rest : List Value} {σ : MsSt} {o : Option α} {k : Fin 4} {i : Nat} {x : Int64} (hd : decode M.2.1 pc = .ok (.lload_n k, 1)) (hv : lv[i]? = some ((k : Nat), .long x)) (kk : TrO G M d mc ms cu su κ (pc + 1) lv (.long x :: rest) σ o) : TrO G M d mc ms cu su κ pc lv rest σ o := by
  intro r hr p e R s m args below meth c H locs cells slots ls X hR hc hs hP hL hl
  exact lv_lload_n X.1 X.2.1 hd rfl (ms_lvat hl hv) (kk r hr p e R s m args below meth c H locs cells slots ls X hR hc hs hP hL hl)
theorem tr_lload {α : Type} {G : MG} {M : MM} {d mc ms cu su : Nat} {κ : α → MsRes} {pc : Nat} {lv : List (Nat × Value)} {rest : List Value} {σ : MsSt} {o : Option α} {k i : Nat} {x : Int64} (hd : decode M.2.1 pc = .ok (.lload k, 2)) (hv : lv[i]? = some (k, .long x)) (kk : TrO G M d mc ms cu su κ (pc + 2) lv (.long x :: rest) σ o) : TrO G M d mc ms cu su κ pc lv rest σ o := by
  intro r hr p e R s m args below meth c H locs cells slots ls X hR hc hs hP hL hl
  exact lv_lload X.1 X.2.1 hd (ms_lvat hl hv) (kk r hr p e R s m args below meth c H locs cells slots ls X hR hc hs hP hL hl)
theorem tr_fload_n {α : Type} {G : MG} {M : MM} {d mc ms cu su : Nat} {κ : α → MsRes} {pc : Nat} {lv : List (Nat × Value)} {rest : List Value} {σ : MsSt} {o : Option α} {k : Fin 4} {i : Nat} {x : UInt32} (hd : decode M.2.1 pc = .ok (.fload_n k, 1)) (hv : lv[i]? = some ((k : Nat), .float x)) (kk : TrO G M d mc ms cu su κ (pc + 1) lv (.float x :: rest) σ o) : TrO G M d mc ms cu su κ pc lv rest σ o := by
  intro r hr p e R s m args below meth c H locs cells slots ls X hR hc hs hP hL hl
  exact lv_fload_n X.1 X.2.1 hd rfl (ms_lvat hl hv) (kk r hr p e R s m args below meth c H locs cells slots ls X hR hc hs hP hL hl)
theorem tr_fload {α : Type} {G : MG} {M : MM} {d mc ms cu su : Nat} {κ : α → MsRes} {pc : Nat} {lv : List (Nat × Value)} {rest : List Value} {σ : MsSt} {o : Option α} {k i : Nat} {x : UInt32} (hd : decode M.2.1 pc = .ok (.fload k, 2)) (hv : lv[i]? = some (k, .float x)) (kk : TrO G M d mc ms cu su κ (pc + 2) lv (.float x :: rest) σ o) : TrO G M d mc ms cu su κ pc lv rest σ o := by
  intro r hr p e R s m args below meth c H locs cells slots ls X hR hc hs hP hL hl
  exact lv_fload X.1 X.2.1 hd (ms_lvat hl hv) (kk r hr p e R s m args below meth c H locs cells slots ls X hR hc hs hP hL hl)
theorem tr_dload_n {α : Type} {G : MG} {M : MM} {d mc ms cu su : Nat} {κ : α → MsRes} {pc : Nat} {lv : List (Nat × Value)} {rest : List Value} {σ : MsSt} {o : Option α} {k : Fin 4} {i : Nat} {x : UInt64} (hd : decode M.2.1 pc = .ok (.dload_n k, 1)) (hv : lv[i]? = some ((k : Nat), .double x)) (kk : TrO G M d mc ms cu su κ (pc + 1) lv (.double x :: rest) σ o) : TrO G M d mc ms cu su κ pc lv rest σ o := by
  intro r hr p e R s m args below meth c H locs cells slots ls X hR hc hs hP hL hl
  exact lv_dload_n X.1 X.2.1 hd rfl (ms_lvat hl hv) (kk r hr p e R s m args below meth c H locs cells slots ls X hR hc hs hP hL hl)
theorem tr_dload {α : Type} {G : MG} {M : MM} {d mc ms cu su : Nat} {κ : α → MsRes} {pc : Nat} {lv : List (Nat × Value)} {rest : List Value} {σ : MsSt} {o : Option α} {k i : Nat} {x : UInt64} (hd : decode M.2.1 pc = .ok (.dload k, 2)) (hv : lv[i]? = some (k, .double x)) (kk : TrO G M d mc ms cu su κ (pc + 2) lv (.double x :: rest) σ o) : TrO G M d mc ms cu su κ pc lv rest σ o := by
  intro r hr p e R s m args below meth c H locs cells slots ls X hR hc hs hP hL hl
  exact lv_dload X.1 X.2.1 hd (ms_lvat hl hv) (kk r hr p e R s m args below meth c H locs cells slots ls X hR hc hs hP hL hl)
theorem tr_aload_n {α : Type} {G : MG} {M : MM} {d mc ms cu su : Nat} {κ : α → MsRes} {pc : Nat} {lv : List (Nat × Value)} {rest : List Value} {σ : MsSt} {o : Option α} {k : Fin 4} {i : Nat} {x : Nat} (hd : decode M.2.1 pc = .ok (.aload_n k, 1)) (hv : lv[i]? = some ((k : Nat), .ref x)) (kk : TrO G M d mc ms cu su κ (pc + 1) lv (.ref x :: rest) σ o) : TrO G M d mc ms cu su κ pc lv rest σ o := by
  intro r hr p e R s m args below meth c H locs cells slots ls X hR hc hs hP hL hl
  exact lv_aload_n X.1 X.2.1 hd rfl (ms_lvat hl hv) (kk r hr p e R s m args below meth c H locs cells slots ls X hR hc hs hP hL hl)
theorem tr_aload {α : Type} {G : MG} {M : MM} {d mc ms cu su : Nat} {κ : α → MsRes} {pc : Nat} {lv : List (Nat × Value)} {rest : List Value} {σ : MsSt} {o : Option α} {k i : Nat} {x : Nat} (hd : decode M.2.1 pc = .ok (.aload k, 2)) (hv : lv[i]? = some (k, .ref x)) (kk : TrO G M d mc ms cu su κ (pc + 2) lv (.ref x :: rest) σ o) : TrO G M d mc ms cu su κ pc lv rest σ o := by
  intro r hr p e R s m args below meth c H locs cells slots ls X hR hc hs hP hL hl
  exact lv_aload X.1 X.2.1 hd (ms_lvat hl hv) (kk r hr p e R s m args below meth c H locs cells slots ls X hR hc hs hP hL hl)
theorem tr_aload_nN {α : Type} {G : MG} {M : MM} {d mc ms cu su : Nat} {κ : α → MsRes} {pc : Nat} {lv : List (Nat × Value)} {rest : List Value} {σ : MsSt} {o : Option α} {k : Fin 4} {i : Nat} (hd : decode M.2.1 pc = .ok (.aload_n k, 1)) (hv : lv[i]? = some ((k : Nat), .null)) (kk : TrO G M d mc ms cu su κ (pc + 1) lv (.null :: rest) σ o) : TrO G M d mc ms cu su κ pc lv rest σ o := by
  intro r hr p e R s m args below meth c H locs cells slots ls X hR hc hs hP hL hl
  exact lv_aload_nN X.1 X.2.1 hd rfl (ms_lvat hl hv) (kk r hr p e R s m args below meth c H locs cells slots ls X hR hc hs hP hL hl)
theorem tr_istore_n {α : Type} {G : MG} {M : MM} {d mc ms cu su : Nat} {κ : α → MsRes} {pc : Nat} {lv : List (Nat × Value)} {rest : List Value} {σ : MsSt} {o : Option α} {k : Fin 4} {x : Int32} {lv' : List (Nat × Value)} (ps : List Nat) (hd : decode M.2.1 pc = .ok (.istore_n k, 1)) (hn : (k : Nat) < M.2.2.1) (hl' : ms_pk (ms_st1 lv (k : Nat) (.int x)) ps = lv') (kk : TrO G M d mc ms cu su κ (pc + 1) lv' rest σ o) : TrO G M d mc ms cu su κ pc lv (.int x :: rest) σ o := by
  intro r hr p e R s m args below meth c H locs cells slots ls X hR hc hs hP hL hl
  refine lv_istore_n X.1 X.2.1 hd rfl hl hn (lv' := ms_mp G (ms_st1 lv (k : Nat) (.int x))) (by rw [ms_mp_st1]; rfl) (fun ls' hl2 => ?_)
  exact kk r hr p e R s m args below meth c H locs cells slots ls' X hR hc hs hP hL (ms_lvpk hl2 hl')
theorem tr_istore {α : Type} {G : MG} {M : MM} {d mc ms cu su : Nat} {κ : α → MsRes} {pc : Nat} {lv : List (Nat × Value)} {rest : List Value} {σ : MsSt} {o : Option α} {k : Nat} {x : Int32} {lv' : List (Nat × Value)} (ps : List Nat) (hd : decode M.2.1 pc = .ok (.istore k, 2)) (hn : (k : Nat) < M.2.2.1) (hl' : ms_pk (ms_st1 lv (k : Nat) (.int x)) ps = lv') (kk : TrO G M d mc ms cu su κ (pc + 2) lv' rest σ o) : TrO G M d mc ms cu su κ pc lv (.int x :: rest) σ o := by
  intro r hr p e R s m args below meth c H locs cells slots ls X hR hc hs hP hL hl
  refine lv_istore X.1 X.2.1 hd hl hn (lv' := ms_mp G (ms_st1 lv (k : Nat) (.int x))) (by rw [ms_mp_st1]; rfl) (fun ls' hl2 => ?_)
  exact kk r hr p e R s m args below meth c H locs cells slots ls' X hR hc hs hP hL (ms_lvpk hl2 hl')
theorem tr_lstore_n {α : Type} {G : MG} {M : MM} {d mc ms cu su : Nat} {κ : α → MsRes} {pc : Nat} {lv : List (Nat × Value)} {rest : List Value} {σ : MsSt} {o : Option α} {k : Fin 4} {x : Int64} {lv' : List (Nat × Value)} (ps : List Nat) (hd : decode M.2.1 pc = .ok (.lstore_n k, 1)) (hn : (k : Nat) + 1 < M.2.2.1) (hl' : ms_pk (ms_st2 lv (k : Nat) (.long x)) ps = lv') (kk : TrO G M d mc ms cu su κ (pc + 1) lv' rest σ o) : TrO G M d mc ms cu su κ pc lv (.long x :: rest) σ o := by
  intro r hr p e R s m args below meth c H locs cells slots ls X hR hc hs hP hL hl
  refine lv_lstore_n X.1 X.2.1 hd rfl hl hn (lv' := ms_mp G (ms_st2 lv (k : Nat) (.long x))) (by rw [ms_mp_st2]; rfl) (fun ls' hl2 => ?_)
  exact kk r hr p e R s m args below meth c H locs cells slots ls' X hR hc hs hP hL (ms_lvpk hl2 hl')
theorem tr_lstore {α : Type} {G : MG} {M : MM} {d mc ms cu su : Nat} {κ : α → MsRes} {pc : Nat} {lv : List (Nat × Value)} {rest : List Value} {σ : MsSt} {o : Option α} {k : Nat} {x : Int64} {lv' : List (Nat × Value)} (ps : List Nat) (hd : decode M.2.1 pc = .ok (.lstore k, 2)) (hn : (k : Nat) + 1 < M.2.2.1) (hl' : ms_pk (ms_st2 lv (k : Nat) (.long x)) ps = lv') (kk : TrO G M d mc ms cu su κ (pc + 2) lv' rest σ o) : TrO G M d mc ms cu su κ pc lv (.long x :: rest) σ o := by
  intro r hr p e R s m args below meth c H locs cells slots ls X hR hc hs hP hL hl
  refine lv_lstore X.1 X.2.1 hd hl hn (lv' := ms_mp G (ms_st2 lv (k : Nat) (.long x))) (by rw [ms_mp_st2]; rfl) (fun ls' hl2 => ?_)
  exact kk r hr p e R s m args below meth c H locs cells slots ls' X hR hc hs hP hL (ms_lvpk hl2 hl')
theorem tr_fstore_n {α : Type} {G : MG} {M : MM} {d mc ms cu su : Nat} {κ : α → MsRes} {pc : Nat} {lv : List (Nat × Value)} {rest : List Value} {σ : MsSt} {o : Option α} {k : Fin 4} {x : UInt32} {lv' : List (Nat × Value)} (ps : List Nat) (hd : decode M.2.1 pc = .ok (.fstore_n k, 1)) (hn : (k : Nat) < M.2.2.1) (hl' : ms_pk (ms_st1 lv (k : Nat) (.float x)) ps = lv') (kk : TrO G M d mc ms cu su κ (pc + 1) lv' rest σ o) : TrO G M d mc ms cu su κ pc lv (.float x :: rest) σ o := by
  intro r hr p e R s m args below meth c H locs cells slots ls X hR hc hs hP hL hl
  refine lv_fstore_n X.1 X.2.1 hd rfl hl hn (lv' := ms_mp G (ms_st1 lv (k : Nat) (.float x))) (by rw [ms_mp_st1]; rfl) (fun ls' hl2 => ?_)
  exact kk r hr p e R s m args below meth c H locs cells slots ls' X hR hc hs hP hL (ms_lvpk hl2 hl')
theorem tr_fstore {α : Type} {G : MG} {M : MM} {d mc ms cu su : Nat} {κ : α → MsRes} {pc : Nat} {lv : List (Nat × Value)} {rest : List Value} {σ : MsSt} {o : Option α} {k : Nat} {x : UInt32} {lv' : List (Nat × Value)} (ps : List Nat) (hd : decode M.2.1 pc = .ok (.fstore k, 2)) (hn : (k : Nat) < M.2.2.1) (hl' : ms_pk (ms_st1 lv (k : Nat) (.float x)) ps = lv') (kk : TrO G M d mc ms cu su κ (pc + 2) lv' rest σ o) : TrO G M d mc ms cu su κ pc lv (.float x :: rest) σ o := by
  intro r hr p e R s m args below meth c H locs cells slots ls X hR hc hs hP hL hl
  refine lv_fstore X.1 X.2.1 hd hl hn (lv' := ms_mp G (ms_st1 lv (k : Nat) (.float x))) (by rw [ms_mp_st1]; rfl) (fun ls' hl2 => ?_)
  exact kk r hr p e R s m args below meth c H locs cells slots ls' X hR hc hs hP hL (ms_lvpk hl2 hl')
theorem tr_dstore_n {α : Type} {G : MG} {M : MM} {d mc ms cu su : Nat} {κ : α → MsRes} {pc : Nat} {lv : List (Nat × Value)} {rest : List Value} {σ : MsSt} {o : Option α} {k : Fin 4} {x : UInt64} {lv' : List (Nat × Value)} (ps : List Nat) (hd : decode M.2.1 pc = .ok (.dstore_n k, 1)) (hn : (k : Nat) + 1 < M.2.2.1) (hl' : ms_pk (ms_st2 lv (k : Nat) (.double x)) ps = lv') (kk : TrO G M d mc ms cu su κ (pc + 1) lv' rest σ o) : TrO G M d mc ms cu su κ pc lv (.double x :: rest) σ o := by
  intro r hr p e R s m args below meth c H locs cells slots ls X hR hc hs hP hL hl
  refine lv_dstore_n X.1 X.2.1 hd rfl hl hn (lv' := ms_mp G (ms_st2 lv (k : Nat) (.double x))) (by rw [ms_mp_st2]; rfl) (fun ls' hl2 => ?_)
  exact kk r hr p e R s m args below meth c H locs cells slots ls' X hR hc hs hP hL (ms_lvpk hl2 hl')
theorem tr_dstore {α : Type} {G : MG} {M : MM} {d mc ms cu su : Nat} {κ : α → MsRes} {pc : Nat} {lv : List (Nat × Value)} {rest : List Value} {σ : MsSt} {o : Option α} {k : Nat} {x : UInt64} {lv' : List (Nat × Value)} (ps : List Nat) (hd : decode M.2.1 pc = .ok (.dstore k, 2)) (hn : (k : Nat) + 1 < M.2.2.1) (hl' : ms_pk (ms_st2 lv (k : Nat) (.double x)) ps = lv') (kk : TrO G M d mc ms cu su κ (pc + 2) lv' rest σ o) : TrO G M d mc ms cu su κ pc lv (.double x :: rest) σ o := by
  intro r hr p e R s m args below meth c H locs cells slots ls X hR hc hs hP hL hl
  refine lv_dstore X.1 X.2.1 hd hl hn (lv' := ms_mp G (ms_st2 lv (k : Nat) (.double x))) (by rw [ms_mp_st2]; rfl) (fun ls' hl2 => ?_)
  exact kk r hr p e R s m args below meth c H locs cells slots ls' X hR hc hs hP hL (ms_lvpk hl2 hl')
theorem tr_astore_n {α : Type} {G : MG} {M : MM} {d mc ms cu su : Nat} {κ : α → MsRes} {pc : Nat} {lv : List (Nat × Value)} {rest : List Value} {σ : MsSt} {o : Option α} {k : Fin 4} {x : Nat} {lv' : List (Nat × Value)} (ps : List Nat) (hd : decode M.2.1 pc = .ok (.astore_n k, 1)) (hn : (k : Nat) < M.2.2.1) (hl' : ms_pk (ms_st1 lv (k : Nat) (.ref x)) ps = lv') (kk : TrO G M d mc ms cu su κ (pc + 1) lv' rest σ o) : TrO G M d mc ms cu su κ pc lv (.ref x :: rest) σ o := by
  intro r hr p e R s m args below meth c H locs cells slots ls X hR hc hs hP hL hl
  refine lv_astore_n X.1 X.2.1 hd rfl hl hn (lv' := ms_mp G (ms_st1 lv (k : Nat) (.ref x))) (by rw [ms_mp_st1]; rfl) (fun ls' hl2 => ?_)
  exact kk r hr p e R s m args below meth c H locs cells slots ls' X hR hc hs hP hL (ms_lvpk hl2 hl')
theorem tr_astore {α : Type} {G : MG} {M : MM} {d mc ms cu su : Nat} {κ : α → MsRes} {pc : Nat} {lv : List (Nat × Value)} {rest : List Value} {σ : MsSt} {o : Option α} {k : Nat} {x : Nat} {lv' : List (Nat × Value)} (ps : List Nat) (hd : decode M.2.1 pc = .ok (.astore k, 2)) (hn : (k : Nat) < M.2.2.1) (hl' : ms_pk (ms_st1 lv (k : Nat) (.ref x)) ps = lv') (kk : TrO G M d mc ms cu su κ (pc + 2) lv' rest σ o) : TrO G M d mc ms cu su κ pc lv (.ref x :: rest) σ o := by
  intro r hr p e R s m args below meth c H locs cells slots ls X hR hc hs hP hL hl
  refine lv_astore X.1 X.2.1 hd hl hn (lv' := ms_mp G (ms_st1 lv (k : Nat) (.ref x))) (by rw [ms_mp_st1]; rfl) (fun ls' hl2 => ?_)
  exact kk r hr p e R s m args below meth c H locs cells slots ls' X hR hc hs hP hL (ms_lvpk hl2 hl')
theorem tr_astore_nN {α : Type} {G : MG} {M : MM} {d mc ms cu su : Nat} {κ : α → MsRes} {pc : Nat} {lv : List (Nat × Value)} {rest : List Value} {σ : MsSt} {o : Option α} {k : Fin 4} {lv' : List (Nat × Value)} (ps : List Nat) (hd : decode M.2.1 pc = .ok (.astore_n k, 1)) (hn : (k : Nat) < M.2.2.1) (hl' : ms_pk (ms_st1 lv (k : Nat) .null) ps = lv') (kk : TrO G M d mc ms cu su κ (pc + 1) lv' rest σ o) : TrO G M d mc ms cu su κ pc lv (.null :: rest) σ o := by
  intro r hr p e R s m args below meth c H locs cells slots ls X hR hc hs hP hL hl
  refine lv_astore_nN X.1 X.2.1 hd rfl hl hn (lv' := ms_mp G (ms_st1 lv (k : Nat) .null)) (by rw [ms_mp_st1]; rfl) (fun ls' hl2 => ?_)
  exact kk r hr p e R s m args below meth c H locs cells slots ls' X hR hc hs hP hL (ms_lvpk hl2 hl')
theorem tr_iinc {α : Type} {G : MG} {M : MM} {d mc ms cu su : Nat} {κ : α → MsRes} {pc : Nat} {lv : List (Nat × Value)} {rest : List Value} {σ : MsSt} {o : Option α} {i k : Nat} {n : Int} {x v : Int32} {lv' : List (Nat × Value)} (ps : List Nat) (hd : decode M.2.1 pc = .ok (.iinc i n, 3)) (hk : lv[k]? = some (i, .int x)) (hv : x + Int32.ofInt n = v) (hn : i < M.2.2.1) (hl' : ms_pk (ms_st1 lv i (.int v)) ps = lv') (kk : TrO G M d mc ms cu su κ (pc + 3) lv' rest σ o) : TrO G M d mc ms cu su κ pc lv rest σ o := by
  intro r hr p e R s m args below meth c H locs cells slots ls X hR hc hs hP hL hl
  refine lv_iinc X.1 X.2.1 hd hl (k := k) (ms_mpat hk) hv hn (lv' := ms_mp G (ms_st1 lv i (.int v))) (by rw [ms_mp_st1]; rfl) (fun ls' hl2 => ?_)
  exact kk r hr p e R s m args below meth c H locs cells slots ls' X hR hc hs hP hL (ms_lvpk hl2 hl')
theorem tr_iadd {α : Type} {G : MG} {M : MM} {d mc ms cu su : Nat} {κ : α → MsRes} {pc : Nat} {lv : List (Nat × Value)} {rest : List Value} {σ : MsSt} {o : Option α} {x y : Int32} (hd : decode M.2.1 pc = .ok (.iadd, 1)) (k : TrO G M d mc ms cu su κ (pc + 1) lv (.int (x + y) :: rest) σ o) : TrO G M d mc ms cu su κ pc lv (.int y :: .int x :: rest) σ o := by
  intro r hr p e R s m args below meth c H locs cells slots ls X hR hc hs hP hL hl
  exact lv_iadd X.1 X.2.1 hd (k r hr p e R s m args below meth c H locs cells slots ls X hR hc hs hP hL hl)
theorem tr_isub {α : Type} {G : MG} {M : MM} {d mc ms cu su : Nat} {κ : α → MsRes} {pc : Nat} {lv : List (Nat × Value)} {rest : List Value} {σ : MsSt} {o : Option α} {x y : Int32} (hd : decode M.2.1 pc = .ok (.isub, 1)) (k : TrO G M d mc ms cu su κ (pc + 1) lv (.int (x - y) :: rest) σ o) : TrO G M d mc ms cu su κ pc lv (.int y :: .int x :: rest) σ o := by
  intro r hr p e R s m args below meth c H locs cells slots ls X hR hc hs hP hL hl
  exact lv_isub X.1 X.2.1 hd (k r hr p e R s m args below meth c H locs cells slots ls X hR hc hs hP hL hl)
theorem tr_imul {α : Type} {G : MG} {M : MM} {d mc ms cu su : Nat} {κ : α → MsRes} {pc : Nat} {lv : List (Nat × Value)} {rest : List Value} {σ : MsSt} {o : Option α} {x y : Int32} (hd : decode M.2.1 pc = .ok (.imul, 1)) (k : TrO G M d mc ms cu su κ (pc + 1) lv (.int (x * y) :: rest) σ o) : TrO G M d mc ms cu su κ pc lv (.int y :: .int x :: rest) σ o := by
  intro r hr p e R s m args below meth c H locs cells slots ls X hR hc hs hP hL hl
  exact lv_imul X.1 X.2.1 hd (k r hr p e R s m args below meth c H locs cells slots ls X hR hc hs hP hL hl)
theorem tr_iand {α : Type} {G : MG} {M : MM} {d mc ms cu su : Nat} {κ : α → MsRes} {pc : Nat} {lv : List (Nat × Value)} {rest : List Value} {σ : MsSt} {o : Option α} {x y : Int32} (hd : decode M.2.1 pc = .ok (.iand, 1)) (k : TrO G M d mc ms cu su κ (pc + 1) lv (.int (x &&& y) :: rest) σ o) : TrO G M d mc ms cu su κ pc lv (.int y :: .int x :: rest) σ o := by
  intro r hr p e R s m args below meth c H locs cells slots ls X hR hc hs hP hL hl
  exact lv_iand X.1 X.2.1 hd (k r hr p e R s m args below meth c H locs cells slots ls X hR hc hs hP hL hl)
theorem tr_ior {α : Type} {G : MG} {M : MM} {d mc ms cu su : Nat} {κ : α → MsRes} {pc : Nat} {lv : List (Nat × Value)} {rest : List Value} {σ : MsSt} {o : Option α} {x y : Int32} (hd : decode M.2.1 pc = .ok (.ior, 1)) (k : TrO G M d mc ms cu su κ (pc + 1) lv (.int (x ||| y) :: rest) σ o) : TrO G M d mc ms cu su κ pc lv (.int y :: .int x :: rest) σ o := by
  intro r hr p e R s m args below meth c H locs cells slots ls X hR hc hs hP hL hl
  exact lv_ior X.1 X.2.1 hd (k r hr p e R s m args below meth c H locs cells slots ls X hR hc hs hP hL hl)
theorem tr_ixor {α : Type} {G : MG} {M : MM} {d mc ms cu su : Nat} {κ : α → MsRes} {pc : Nat} {lv : List (Nat × Value)} {rest : List Value} {σ : MsSt} {o : Option α} {x y : Int32} (hd : decode M.2.1 pc = .ok (.ixor, 1)) (k : TrO G M d mc ms cu su κ (pc + 1) lv (.int (x ^^^ y) :: rest) σ o) : TrO G M d mc ms cu su κ pc lv (.int y :: .int x :: rest) σ o := by
  intro r hr p e R s m args below meth c H locs cells slots ls X hR hc hs hP hL hl
  exact lv_ixor X.1 X.2.1 hd (k r hr p e R s m args below meth c H locs cells slots ls X hR hc hs hP hL hl)
theorem tr_ishl {α : Type} {G : MG} {M : MM} {d mc ms cu su : Nat} {κ : α → MsRes} {pc : Nat} {lv : List (Nat × Value)} {rest : List Value} {σ : MsSt} {o : Option α} {x y : Int32} (hd : decode M.2.1 pc = .ok (.ishl, 1)) (k : TrO G M d mc ms cu su κ (pc + 1) lv (.int (x <<< (y &&& 31)) :: rest) σ o) : TrO G M d mc ms cu su κ pc lv (.int y :: .int x :: rest) σ o := by
  intro r hr p e R s m args below meth c H locs cells slots ls X hR hc hs hP hL hl
  exact lv_ishl X.1 X.2.1 hd (k r hr p e R s m args below meth c H locs cells slots ls X hR hc hs hP hL hl)
theorem tr_ishr {α : Type} {G : MG} {M : MM} {d mc ms cu su : Nat} {κ : α → MsRes} {pc : Nat} {lv : List (Nat × Value)} {rest : List Value} {σ : MsSt} {o : Option α} {x y : Int32} (hd : decode M.2.1 pc = .ok (.ishr, 1)) (k : TrO G M d mc ms cu su κ (pc + 1) lv (.int (x >>> (y &&& 31)) :: rest) σ o) : TrO G M d mc ms cu su κ pc lv (.int y :: .int x :: rest) σ o := by
  intro r hr p e R s m args below meth c H locs cells slots ls X hR hc hs hP hL hl
  exact lv_ishr X.1 X.2.1 hd (k r hr p e R s m args below meth c H locs cells slots ls X hR hc hs hP hL hl)
theorem tr_ladd {α : Type} {G : MG} {M : MM} {d mc ms cu su : Nat} {κ : α → MsRes} {pc : Nat} {lv : List (Nat × Value)} {rest : List Value} {σ : MsSt} {o : Option α} {x y : Int64} (hd : decode M.2.1 pc = .ok (.ladd, 1)) (k : TrO G M d mc ms cu su κ (pc + 1) lv (.long (x + y) :: rest) σ o) : TrO G M d mc ms cu su κ pc lv (.long y :: .long x :: rest) σ o := by
  intro r hr p e R s m args below meth c H locs cells slots ls X hR hc hs hP hL hl
  exact lv_ladd X.1 X.2.1 hd (k r hr p e R s m args below meth c H locs cells slots ls X hR hc hs hP hL hl)
theorem tr_lsub {α : Type} {G : MG} {M : MM} {d mc ms cu su : Nat} {κ : α → MsRes} {pc : Nat} {lv : List (Nat × Value)} {rest : List Value} {σ : MsSt} {o : Option α} {x y : Int64} (hd : decode M.2.1 pc = .ok (.lsub, 1)) (k : TrO G M d mc ms cu su κ (pc + 1) lv (.long (x - y) :: rest) σ o) : TrO G M d mc ms cu su κ pc lv (.long y :: .long x :: rest) σ o := by
  intro r hr p e R s m args below meth c H locs cells slots ls X hR hc hs hP hL hl
  exact lv_lsub X.1 X.2.1 hd (k r hr p e R s m args below meth c H locs cells slots ls X hR hc hs hP hL hl)
theorem tr_lmul {α : Type} {G : MG} {M : MM} {d mc ms cu su : Nat} {κ : α → MsRes} {pc : Nat} {lv : List (Nat × Value)} {rest : List Value} {σ : MsSt} {o : Option α} {x y : Int64} (hd : decode M.2.1 pc = .ok (.lmul, 1)) (k : TrO G M d mc ms cu su κ (pc + 1) lv (.long (x * y) :: rest) σ o) : TrO G M d mc ms cu su κ pc lv (.long y :: .long x :: rest) σ o := by
  intro r hr p e R s m args below meth c H locs cells slots ls X hR hc hs hP hL hl
  exact lv_lmul X.1 X.2.1 hd (k r hr p e R s m args below meth c H locs cells slots ls X hR hc hs hP hL hl)
theorem tr_land {α : Type} {G : MG} {M : MM} {d mc ms cu su : Nat} {κ : α → MsRes} {pc : Nat} {lv : List (Nat × Value)} {rest : List Value} {σ : MsSt} {o : Option α} {x y : Int64} (hd : decode M.2.1 pc = .ok (.land, 1)) (k : TrO G M d mc ms cu su κ (pc + 1) lv (.long (x &&& y) :: rest) σ o) : TrO G M d mc ms cu su κ pc lv (.long y :: .long x :: rest) σ o := by
  intro r hr p e R s m args below meth c H locs cells slots ls X hR hc hs hP hL hl
  exact lv_land X.1 X.2.1 hd (k r hr p e R s m args below meth c H locs cells slots ls X hR hc hs hP hL hl)
theorem tr_lor {α : Type} {G : MG} {M : MM} {d mc ms cu su : Nat} {κ : α → MsRes} {pc : Nat} {lv : List (Nat × Value)} {rest : List Value} {σ : MsSt} {o : Option α} {x y : Int64} (hd : decode M.2.1 pc = .ok (.lor, 1)) (k : TrO G M d mc ms cu su κ (pc + 1) lv (.long (x ||| y) :: rest) σ o) : TrO G M d mc ms cu su κ pc lv (.long y :: .long x :: rest) σ o := by
  intro r hr p e R s m args below meth c H locs cells slots ls X hR hc hs hP hL hl
  exact lv_lor X.1 X.2.1 hd (k r hr p e R s m args below meth c H locs cells slots ls X hR hc hs hP hL hl)
theorem tr_lxor {α : Type} {G : MG} {M : MM} {d mc ms cu su : Nat} {κ : α → MsRes} {pc : Nat} {lv : List (Nat × Value)} {rest : List Value} {σ : MsSt} {o : Option α} {x y : Int64} (hd : decode M.2.1 pc = .ok (.lxor, 1)) (k : TrO G M d mc ms cu su κ (pc + 1) lv (.long (x ^^^ y) :: rest) σ o) : TrO G M d mc ms cu su κ pc lv (.long y :: .long x :: rest) σ o := by
  intro r hr p e R s m args below meth c H locs cells slots ls X hR hc hs hP hL hl
  exact lv_lxor X.1 X.2.1 hd (k r hr p e R s m args below meth c H locs cells slots ls X hR hc hs hP hL hl)
theorem tr_idiv {α : Type} {G : MG} {M : MM} {d mc ms cu su : Nat} {κ : α → MsRes} {pc : Nat} {lv : List (Nat × Value)} {rest : List Value} {σ : MsSt} {o : Option α} {x y : Int32} {f : Int32 → Option α} (hd : decode M.2.1 pc = .ok (.idiv, 1)) (k : ∀ v, TrO G M d mc ms cu su κ (pc + 1) lv (.int v :: rest) σ (f v)) : TrO G M d mc ms cu su κ pc lv (.int y :: .int x :: rest) σ ((ms_idiv x y).bind f) := by
  intro r hr p e R s m args below meth c H locs cells slots ls X hR hc hs hP hL hl
  obtain ⟨h1, h2⟩ := ms_idiv_s hr
  exact lv_idiv X.1 X.2.1 hd h1 (k _ r h2 p e R s m args below meth c H locs cells slots ls X hR hc hs hP hL hl)
theorem tr_irem {α : Type} {G : MG} {M : MM} {d mc ms cu su : Nat} {κ : α → MsRes} {pc : Nat} {lv : List (Nat × Value)} {rest : List Value} {σ : MsSt} {o : Option α} {x y : Int32} {f : Int32 → Option α} (hd : decode M.2.1 pc = .ok (.irem, 1)) (k : ∀ v, TrO G M d mc ms cu su κ (pc + 1) lv (.int v :: rest) σ (f v)) : TrO G M d mc ms cu su κ pc lv (.int y :: .int x :: rest) σ ((ms_irem x y).bind f) := by
  intro r hr p e R s m args below meth c H locs cells slots ls X hR hc hs hP hL hl
  obtain ⟨h1, h2⟩ := ms_irem_s hr
  exact lv_irem X.1 X.2.1 hd h1 (k _ r h2 p e R s m args below meth c H locs cells slots ls X hR hc hs hP hL hl)
theorem tr_ldiv {α : Type} {G : MG} {M : MM} {d mc ms cu su : Nat} {κ : α → MsRes} {pc : Nat} {lv : List (Nat × Value)} {rest : List Value} {σ : MsSt} {o : Option α} {x y : Int64} {f : Int64 → Option α} (hd : decode M.2.1 pc = .ok (.ldiv, 1)) (k : ∀ v, TrO G M d mc ms cu su κ (pc + 1) lv (.long v :: rest) σ (f v)) : TrO G M d mc ms cu su κ pc lv (.long y :: .long x :: rest) σ ((ms_ldiv x y).bind f) := by
  intro r hr p e R s m args below meth c H locs cells slots ls X hR hc hs hP hL hl
  obtain ⟨h1, h2⟩ := ms_ldiv_s hr
  exact lv_ldiv X.1 X.2.1 hd h1 (k _ r h2 p e R s m args below meth c H locs cells slots ls X hR hc hs hP hL hl)
theorem tr_fdiv {α : Type} {G : MG} {M : MM} {d mc ms cu su : Nat} {κ : α → MsRes} {pc : Nat} {lv : List (Nat × Value)} {rest : List Value} {σ : MsSt} {o : Option α} {x y : UInt32} {f : UInt32 → Option α} (hd : decode M.2.1 pc = .ok (.fdiv, 1)) (k : ∀ v, TrO G M d mc ms cu su κ (pc + 1) lv (.float v :: rest) σ (f v)) : TrO G M d mc ms cu su κ pc lv (.float y :: .float x :: rest) σ ((ms_fdiv x y).bind f) := by
  intro r hr p e R s m args below meth c H locs cells slots ls X hR hc hs hP hL hl
  obtain ⟨h1, h2⟩ := ms_fdiv_s hr
  exact lv_fdiv X.1 X.2.1 hd h1 (k _ r h2 p e R s m args below meth c H locs cells slots ls X hR hc hs hP hL hl)
theorem tr_ddiv {α : Type} {G : MG} {M : MM} {d mc ms cu su : Nat} {κ : α → MsRes} {pc : Nat} {lv : List (Nat × Value)} {rest : List Value} {σ : MsSt} {o : Option α} {x y : UInt64} {f : UInt64 → Option α} (hd : decode M.2.1 pc = .ok (.ddiv, 1)) (k : ∀ v, TrO G M d mc ms cu su κ (pc + 1) lv (.double v :: rest) σ (f v)) : TrO G M d mc ms cu su κ pc lv (.double y :: .double x :: rest) σ ((ms_ddiv x y).bind f) := by
  intro r hr p e R s m args below meth c H locs cells slots ls X hR hc hs hP hL hl
  obtain ⟨h1, h2⟩ := ms_ddiv_s hr
  exact lv_ddiv X.1 X.2.1 hd h1 (k _ r h2 p e R s m args below meth c H locs cells slots ls X hR hc hs hP hL hl)
theorem tr_f2d {α : Type} {G : MG} {M : MM} {d mc ms cu su : Nat} {κ : α → MsRes} {pc : Nat} {lv : List (Nat × Value)} {rest : List Value} {σ : MsSt} {o : Option α} {x : UInt32} {f : UInt64 → Option α} (hd : decode M.2.1 pc = .ok (.f2d, 1)) (k : ∀ v, TrO G M d mc ms cu su κ (pc + 1) lv (.double v :: rest) σ (f v)) : TrO G M d mc ms cu su κ pc lv (.float x :: rest) σ ((ms_f2d x).bind f) := by
  intro r hr p e R s m args below meth c H locs cells slots ls X hR hc hs hP hL hl
  obtain ⟨h1, h2⟩ := ms_f2d_s hr
  exact lv_f2d X.1 X.2.1 hd h1 (k _ r h2 p e R s m args below meth c H locs cells slots ls X hR hc hs hP hL hl)
theorem tr_i2l {α : Type} {G : MG} {M : MM} {d mc ms cu su : Nat} {κ : α → MsRes} {pc : Nat} {lv : List (Nat × Value)} {rest : List Value} {σ : MsSt} {o : Option α} {x : Int32} (hd : decode M.2.1 pc = .ok (.i2l, 1)) (k : TrO G M d mc ms cu su κ (pc + 1) lv (.long (x.toInt64) :: rest) σ o) : TrO G M d mc ms cu su κ pc lv (.int x :: rest) σ o := by
  intro r hr p e R s m args below meth c H locs cells slots ls X hR hc hs hP hL hl
  exact lv_i2l X.1 X.2.1 hd rfl (k r hr p e R s m args below meth c H locs cells slots ls X hR hc hs hP hL hl)
theorem tr_l2i {α : Type} {G : MG} {M : MM} {d mc ms cu su : Nat} {κ : α → MsRes} {pc : Nat} {lv : List (Nat × Value)} {rest : List Value} {σ : MsSt} {o : Option α} {x : Int64} (hd : decode M.2.1 pc = .ok (.l2i, 1)) (k : TrO G M d mc ms cu su κ (pc + 1) lv (.int (x.toInt32) :: rest) σ o) : TrO G M d mc ms cu su κ pc lv (.long x :: rest) σ o := by
  intro r hr p e R s m args below meth c H locs cells slots ls X hR hc hs hP hL hl
  exact lv_l2i X.1 X.2.1 hd rfl (k r hr p e R s m args below meth c H locs cells slots ls X hR hc hs hP hL hl)
theorem tr_i2b {α : Type} {G : MG} {M : MM} {d mc ms cu su : Nat} {κ : α → MsRes} {pc : Nat} {lv : List (Nat × Value)} {rest : List Value} {σ : MsSt} {o : Option α} {x : Int32} (hd : decode M.2.1 pc = .ok (.i2b, 1)) (k : TrO G M d mc ms cu su κ (pc + 1) lv (.int (x.toInt8.toInt32) :: rest) σ o) : TrO G M d mc ms cu su κ pc lv (.int x :: rest) σ o := by
  intro r hr p e R s m args below meth c H locs cells slots ls X hR hc hs hP hL hl
  exact lv_i2b X.1 X.2.1 hd rfl (k r hr p e R s m args below meth c H locs cells slots ls X hR hc hs hP hL hl)
theorem tr_i2c {α : Type} {G : MG} {M : MM} {d mc ms cu su : Nat} {κ : α → MsRes} {pc : Nat} {lv : List (Nat × Value)} {rest : List Value} {σ : MsSt} {o : Option α} {x : Int32} (hd : decode M.2.1 pc = .ok (.i2c, 1)) (k : TrO G M d mc ms cu su κ (pc + 1) lv (.int ((x.toUInt32 % 65536).toInt32) :: rest) σ o) : TrO G M d mc ms cu su κ pc lv (.int x :: rest) σ o := by
  intro r hr p e R s m args below meth c H locs cells slots ls X hR hc hs hP hL hl
  exact lv_i2c X.1 X.2.1 hd rfl (k r hr p e R s m args below meth c H locs cells slots ls X hR hc hs hP hL hl)
theorem tr_i2f {α : Type} {G : MG} {M : MM} {d mc ms cu su : Nat} {κ : α → MsRes} {pc : Nat} {lv : List (Nat × Value)} {rest : List Value} {σ : MsSt} {o : Option α} {x : Int32} (hd : decode M.2.1 pc = .ok (.i2f, 1)) (k : TrO G M d mc ms cu su κ (pc + 1) lv (.float (FP.i2f x) :: rest) σ o) : TrO G M d mc ms cu su κ pc lv (.int x :: rest) σ o := by
  intro r hr p e R s m args below meth c H locs cells slots ls X hR hc hs hP hL hl
  exact lv_i2f X.1 X.2.1 hd (k r hr p e R s m args below meth c H locs cells slots ls X hR hc hs hP hL hl)
theorem tr_i2d {α : Type} {G : MG} {M : MM} {d mc ms cu su : Nat} {κ : α → MsRes} {pc : Nat} {lv : List (Nat × Value)} {rest : List Value} {σ : MsSt} {o : Option α} {x : Int32} (hd : decode M.2.1 pc = .ok (.i2d, 1)) (k : TrO G M d mc ms cu su κ (pc + 1) lv (.double (FP.i2d x) :: rest) σ o) : TrO G M d mc ms cu su κ pc lv (.int x :: rest) σ o := by
  intro r hr p e R s m args below meth c H locs cells slots ls X hR hc hs hP hL hl
  exact lv_i2d X.1 X.2.1 hd (k r hr p e R s m args below meth c H locs cells slots ls X hR hc hs hP hL hl)
theorem tr_iushr {α : Type} {G : MG} {M : MM} {d mc ms cu su : Nat} {κ : α → MsRes} {pc : Nat} {lv : List (Nat × Value)} {rest : List Value} {σ : MsSt} {o : Option α} {x : Int32} {y : Int32} (hd : decode M.2.1 pc = .ok (.iushr, 1)) (k : TrO G M d mc ms cu su κ (pc + 1) lv (.int ((x.toUInt32 >>> (y.toUInt32 &&& Int32.toUInt32 31)).toInt32) :: rest) σ o) : TrO G M d mc ms cu su κ pc lv (.int y :: .int x :: rest) σ o := by
  intro r hr p e R s m args below meth c H locs cells slots ls X hR hc hs hP hL hl
  exact lv_iushr X.1 X.2.1 hd rfl (k r hr p e R s m args below meth c H locs cells slots ls X hR hc hs hP hL hl)
theorem tr_lushr {α : Type} {G : MG} {M : MM} {d mc ms cu su : Nat} {κ : α → MsRes} {pc : Nat} {lv : List (Nat × Value)} {rest : List Value} {σ : MsSt} {o : Option α} {x : Int64} {y : Int32} (hd : decode M.2.1 pc = .ok (.lushr, 1)) (k : TrO G M d mc ms cu su κ (pc + 1) lv (.long ((x.toUInt64 >>> (y.toInt64.toUInt64 &&& Int64.toUInt64 63)).toInt64) :: rest) σ o) : TrO G M d mc ms cu su κ pc lv (.int y :: .long x :: rest) σ o := by
  intro r hr p e R s m args below meth c H locs cells slots ls X hR hc hs hP hL hl
  exact lv_lushr X.1 X.2.1 hd rfl (k r hr p e R s m args below meth c H locs cells slots ls X hR hc hs hP hL hl)
theorem tr_lshl {α : Type} {G : MG} {M : MM} {d mc ms cu su : Nat} {κ : α → MsRes} {pc : Nat} {lv : List (Nat × Value)} {rest : List Value} {σ : MsSt} {o : Option α} {x : Int64} {y : Int32} (hd : decode M.2.1 pc = .ok (.lshl, 1)) (k : TrO G M d mc ms cu su κ (pc + 1) lv (.long (x <<< (y.toInt64 &&& 63)) :: rest) σ o) : TrO G M d mc ms cu su κ pc lv (.int y :: .long x :: rest) σ o := by
  intro r hr p e R s m args below meth c H locs cells slots ls X hR hc hs hP hL hl
  exact lv_lshl X.1 X.2.1 hd rfl (k r hr p e R s m args below meth c H locs cells slots ls X hR hc hs hP hL hl)
theorem tr_lshr {α : Type} {G : MG} {M : MM} {d mc ms cu su : Nat} {κ : α → MsRes} {pc : Nat} {lv : List (Nat × Value)} {rest : List Value} {σ : MsSt} {o : Option α} {x : Int64} {y : Int32} (hd : decode M.2.1 pc = .ok (.lshr, 1)) (k : TrO G M d mc ms cu su κ (pc + 1) lv (.long (x >>> (y.toInt64 &&& 63)) :: rest) σ o) : TrO G M d mc ms cu su κ pc lv (.int y :: .long x :: rest) σ o := by
  intro r hr p e R s m args below meth c H locs cells slots ls X hR hc hs hP hL hl
  exact lv_lshr X.1 X.2.1 hd rfl (k r hr p e R s m args below meth c H locs cells slots ls X hR hc hs hP hL hl)
theorem tr_dup {α : Type} {G : MG} {M : MM} {d mc ms cu su : Nat} {κ : α → MsRes} {pc : Nat} {lv : List (Nat × Value)} {rest : List Value} {σ : MsSt} {o : Option α} {v : Value} (hd : decode M.2.1 pc = .ok (.dup, 1)) (hc1 : v.category = 1) (k : TrO G M d mc ms cu su κ (pc + 1) lv (v :: v :: rest) σ o) : TrO G M d mc ms cu su κ pc lv (v :: rest) σ o := by
  intro r hr p e R s m args below meth c H locs cells slots ls X hR hc hs hP hL hl
  exact lv_dup X.1 X.2.1 hd (by rw [ms_cv_cat]; exact hc1) (k r hr p e R s m args below meth c H locs cells slots ls X hR hc hs hP hL hl)
theorem tr_dup2 {α : Type} {G : MG} {M : MM} {d mc ms cu su : Nat} {κ : α → MsRes} {pc : Nat} {lv : List (Nat × Value)} {rest : List Value} {σ : MsSt} {o : Option α} {v w : Value} (hd : decode M.2.1 pc = .ok (.dup2, 1)) (hc1 : v.category = 1) (hc2 : w.category = 1) (k : TrO G M d mc ms cu su κ (pc + 1) lv (v :: w :: v :: w :: rest) σ o) : TrO G M d mc ms cu su κ pc lv (v :: w :: rest) σ o := by
  intro r hr p e R s m args below meth c H locs cells slots ls X hR hc hs hP hL hl
  exact lv_dup2_11 X.1 X.2.1 hd (by rw [ms_cv_cat]; exact hc1) (by rw [ms_cv_cat]; exact hc2) (k r hr p e R s m args below meth c H locs cells slots ls X hR hc hs hP hL hl)
theorem tr_ifeq {α : Type} {G : MG} {M : MM} {d mc ms cu su : Nat} {κ : α → MsRes} {pc : Nat} {lv : List (Nat × Value)} {rest : List Value} {σ : MsSt} {o : Option α} {x : Int32} {off : Int} {tgt : Nat} {o1 o2 : Option α} (hd : decode M.2.1 pc = .ok (.ifCond .eq off, 3)) (ht : (pc : Int) + off = (tgt : Int)) (kt : TrO G M d mc ms cu su κ tgt lv rest σ o1) (kf : TrO G M d mc ms cu su κ (pc + 3) lv rest σ o2) : TrO G M d mc ms cu su κ pc lv (.int x :: rest) σ (if x = 0 then o1 else o2) := by
  intro r hr p e R s m args below meth c H locs cells slots ls X hR hc hs hP hL hl
  refine lv_if_eq X.1 X.2.1 hd ht (fun hh => ?_) (fun hh => ?_)
  · rw [if_pos (hh)] at hr
    exact kt r hr p e R s m args below meth c H locs cells slots ls X hR hc hs hP hL hl
  · rw [if_neg (hh)] at hr
    exact kf r hr p e R s m args below meth c H locs cells slots ls X hR hc hs hP hL hl
theorem tr_ifne {α : Type} {G : MG} {M : MM} {d mc ms cu su : Nat} {κ : α → MsRes} {pc : Nat} {lv : List (Nat × Value)} {rest : List Value} {σ : MsSt} {o : Option α} {x : Int32} {off : Int} {tgt : Nat} {o1 o2 : Option α} (hd : decode M.2.1 pc = .ok (.ifCond .ne off, 3)) (ht : (pc : Int) + off = (tgt : Int)) (kt : TrO G M d mc ms cu su κ tgt lv rest σ o2) (kf : TrO G M d mc ms cu su κ (pc + 3) lv rest σ o1) : TrO G M d mc ms cu su κ pc lv (.int x :: rest) σ (if x = 0 then o1 else o2) := by
  intro r hr p e R s m args below meth c H locs cells slots ls X hR hc hs hP hL hl
  refine lv_if_ne X.1 X.2.1 hd ht (fun hh => ?_) (fun hh => ?_)
  · rw [if_neg (hh)] at hr
    exact kt r hr p e R s m args below meth c H locs cells slots ls X hR hc hs hP hL hl
  · rw [if_pos (hh)] at hr
    exact kf r hr p e R s m args below meth c H locs cells slots ls X hR hc hs hP hL hl
theorem tr_iflt {α : Type} {G : MG} {M : MM} {d mc ms cu su : Nat} {κ : α → MsRes} {pc : Nat} {lv : List (Nat × Value)} {rest : List Value} {σ : MsSt} {o : Option α} {x : Int32} {off : Int} {tgt : Nat} {o1 o2 : Option α} (hd : decode M.2.1 pc = .ok (.ifCond .lt off, 3)) (ht : (pc : Int) + off = (tgt : Int)) (kt : TrO G M d mc ms cu su κ tgt lv rest σ o1) (kf : TrO G M d mc ms cu su κ (pc + 3) lv rest σ o2) : TrO G M d mc ms cu su κ pc lv (.int x :: rest) σ (if x < 0 then o1 else o2) := by
  intro r hr p e R s m args below meth c H locs cells slots ls X hR hc hs hP hL hl
  refine lv_if_lt X.1 X.2.1 hd ht (fun hh => ?_) (fun hh => ?_)
  · rw [if_pos (hh)] at hr
    exact kt r hr p e R s m args below meth c H locs cells slots ls X hR hc hs hP hL hl
  · rw [if_neg (hh)] at hr
    exact kf r hr p e R s m args below meth c H locs cells slots ls X hR hc hs hP hL hl
theorem tr_ifge {α : Type} {G : MG} {M : MM} {d mc ms cu su : Nat} {κ : α → MsRes} {pc : Nat} {lv : List (Nat × Value)} {rest : List Value} {σ : MsSt} {o : Option α} {x : Int32} {off : Int} {tgt : Nat} {o1 o2 : Option α} (hd : decode M.2.1 pc = .ok (.ifCond .ge off, 3)) (ht : (pc : Int) + off = (tgt : Int)) (kt : TrO G M d mc ms cu su κ tgt lv rest σ o2) (kf : TrO G M d mc ms cu su κ (pc + 3) lv rest σ o1) : TrO G M d mc ms cu su κ pc lv (.int x :: rest) σ (if x < 0 then o1 else o2) := by
  intro r hr p e R s m args below meth c H locs cells slots ls X hR hc hs hP hL hl
  refine lv_if_ge X.1 X.2.1 hd ht (fun hh => ?_) (fun hh => ?_)
  · rw [if_neg (ms_nlt hh)] at hr
    exact kt r hr p e R s m args below meth c H locs cells slots ls X hR hc hs hP hL hl
  · rw [if_pos (ms_lt hh)] at hr
    exact kf r hr p e R s m args below meth c H locs cells slots ls X hR hc hs hP hL hl
theorem tr_ifgt {α : Type} {G : MG} {M : MM} {d mc ms cu su : Nat} {κ : α → MsRes} {pc : Nat} {lv : List (Nat × Value)} {rest : List Value} {σ : MsSt} {o : Option α} {x : Int32} {off : Int} {tgt : Nat} {o1 o2 : Option α} (hd : decode M.2.1 pc = .ok (.ifCond .gt off, 3)) (ht : (pc : Int) + off = (tgt : Int)) (kt : TrO G M d mc ms cu su κ tgt lv rest σ o1) (kf : TrO G M d mc ms cu su κ (pc + 3) lv rest σ o2) : TrO G M d mc ms cu su κ pc lv (.int x :: rest) σ (if 0 < x then o1 else o2) := by
  intro r hr p e R s m args below meth c H locs cells slots ls X hR hc hs hP hL hl
  refine lv_if_gt X.1 X.2.1 hd ht (fun hh => ?_) (fun hh => ?_)
  · rw [if_pos (hh)] at hr
    exact kt r hr p e R s m args below meth c H locs cells slots ls X hR hc hs hP hL hl
  · rw [if_neg (hh)] at hr
    exact kf r hr p e R s m args below meth c H locs cells slots ls X hR hc hs hP hL hl
theorem tr_ifle {α : Type} {G : MG} {M : MM} {d mc ms cu su : Nat} {κ : α → MsRes} {pc : Nat} {lv : List (Nat × Value)} {rest : List Value} {σ : MsSt} {o : Option α} {x : Int32} {off : Int} {tgt : Nat} {o1 o2 : Option α} (hd : decode M.2.1 pc = .ok (.ifCond .le off, 3)) (ht : (pc : Int) + off = (tgt : Int)) (kt : TrO G M d mc ms cu su κ tgt lv rest σ o2) (kf : TrO G M d mc ms cu su κ (pc + 3) lv rest σ o1) : TrO G M d mc ms cu su κ pc lv (.int x :: rest) σ (if 0 < x then o1 else o2) := by
  intro r hr p e R s m args below meth c H locs cells slots ls X hR hc hs hP hL hl
  refine lv_if_le X.1 X.2.1 hd ht (fun hh => ?_) (fun hh => ?_)
  · rw [if_neg (ms_nlt hh)] at hr
    exact kt r hr p e R s m args below meth c H locs cells slots ls X hR hc hs hP hL hl
  · rw [if_pos (ms_lt hh)] at hr
    exact kf r hr p e R s m args below meth c H locs cells slots ls X hR hc hs hP hL hl
theorem tr_iceq {α : Type} {G : MG} {M : MM} {d mc ms cu su : Nat} {κ : α → MsRes} {pc : Nat} {lv : List (Nat × Value)} {rest : List Value} {σ : MsSt} {o : Option α} {x y : Int32} {off : Int} {tgt : Nat} {o1 o2 : Option α} (hd : decode M.2.1 pc = .ok (.if_icmp .eq off, 3)) (ht : (pc : Int) + off = (tgt : Int)) (kt : TrO G M d mc ms cu su κ tgt lv rest σ o1) (kf : TrO G M d mc ms cu su κ (pc + 3) lv rest σ o2) : TrO G M d mc ms cu su κ pc lv (.int y :: .int x :: rest) σ (if x = y then o1 else o2) := by
  intro r hr p e R s m args below meth c H locs cells slots ls X hR hc hs hP hL hl
  refine lv_icmp_eq X.1 X.2.1 hd ht (fun hh => ?_) (fun hh => ?_)
  · rw [if_pos (hh)] at hr
    exact kt r hr p e R s m args below meth c H locs cells slots ls X hR hc hs hP hL hl
  · rw [if_neg (hh)] at hr
    exact kf r hr p e R s m args below meth c H locs cells slots ls X hR hc hs hP hL hl
theorem tr_icne {α : Type} {G : MG} {M : MM} {d mc ms cu su : Nat} {κ : α → MsRes} {pc : Nat} {lv : List (Nat × Value)} {rest : List Value} {σ : MsSt} {o : Option α} {x y : Int32} {off : Int} {tgt : Nat} {o1 o2 : Option α} (hd : decode M.2.1 pc = .ok (.if_icmp .ne off, 3)) (ht : (pc : Int) + off = (tgt : Int)) (kt : TrO G M d mc ms cu su κ tgt lv rest σ o2) (kf : TrO G M d mc ms cu su κ (pc + 3) lv rest σ o1) : TrO G M d mc ms cu su κ pc lv (.int y :: .int x :: rest) σ (if x = y then o1 else o2) := by
  intro r hr p e R s m args below meth c H locs cells slots ls X hR hc hs hP hL hl
  refine lv_icmp_ne X.1 X.2.1 hd ht (fun hh => ?_) (fun hh => ?_)
  · rw [if_neg (hh)] at hr
    exact kt r hr p e R s m args below meth c H locs cells slots ls X hR hc hs hP hL hl
  · rw [if_pos (hh)] at hr
    exact kf r hr p e R s m args below meth c H locs cells slots ls X hR hc hs hP hL hl
theorem tr_iclt {α : Type} {G : MG} {M : MM} {d mc ms cu su : Nat} {κ : α → MsRes} {pc : Nat} {lv : List (Nat × Value)} {rest : List Value} {σ : MsSt} {o : Option α} {x y : Int32} {off : Int} {tgt : Nat} {o1 o2 : Option α} (hd : decode M.2.1 pc = .ok (.if_icmp .lt off, 3)) (ht : (pc : Int) + off = (tgt : Int)) (kt : TrO G M d mc ms cu su κ tgt lv rest σ o1) (kf : TrO G M d mc ms cu su κ (pc + 3) lv rest σ o2) : TrO G M d mc ms cu su κ pc lv (.int y :: .int x :: rest) σ (if x < y then o1 else o2) := by
  intro r hr p e R s m args below meth c H locs cells slots ls X hR hc hs hP hL hl
  refine lv_icmp_lt X.1 X.2.1 hd ht (fun hh => ?_) (fun hh => ?_)
  · rw [if_pos (hh)] at hr
    exact kt r hr p e R s m args below meth c H locs cells slots ls X hR hc hs hP hL hl
  · rw [if_neg (hh)] at hr
    exact kf r hr p e R s m args below meth c H locs cells slots ls X hR hc hs hP hL hl
theorem tr_icge {α : Type} {G : MG} {M : MM} {d mc ms cu su : Nat} {κ : α → MsRes} {pc : Nat} {lv : List (Nat × Value)} {rest : List Value} {σ : MsSt} {o : Option α} {x y : Int32} {off : Int} {tgt : Nat} {o1 o2 : Option α} (hd : decode M.2.1 pc = .ok (.if_icmp .ge off, 3)) (ht : (pc : Int) + off = (tgt : Int)) (kt : TrO G M d mc ms cu su κ tgt lv rest σ o2) (kf : TrO G M d mc ms cu su κ (pc + 3) lv rest σ o1) : TrO G M d mc ms cu su κ pc lv (.int y :: .int x :: rest) σ (if x < y then o1 else o2) := by
  intro r hr p e R s m args below meth c H locs cells slots ls X hR hc hs hP hL hl
  refine lv_icmp_ge X.1 X.2.1 hd ht (fun hh => ?_) (fun hh => ?_)
  · rw [if_neg (ms_nlt hh)] at hr
    exact kt r hr p e R s m args below meth c H locs cells slots ls X hR hc hs hP hL hl
  · rw [if_pos (ms_lt hh)] at hr
    exact kf r hr p e R s m args below meth c H locs cells slots ls X hR hc hs hP hL hl
theorem tr_icgt {α : Type} {G : MG} {M : MM} {d mc ms cu su : Nat} {κ : α → MsRes} {pc : Nat} {lv : List (Nat × Value)} {rest : List Value} {σ : MsSt} {o : Option α} {x y : Int32} {off : Int} {tgt : Nat} {o1 o2 : Option α} (hd : decode M.2.1 pc = .ok (.if_icmp .gt off, 3)) (ht : (pc : Int) + off = (tgt : Int)) (kt : TrO G M d mc ms cu su κ tgt lv rest σ o1) (kf : TrO G M d mc ms cu su κ (pc + 3) lv rest σ o2) : TrO G M d mc ms cu su κ pc lv (.int y :: .int x :: rest) σ (if y < x then o1 else o2) := by
  intro r hr p e R s m args below meth c H locs cells slots ls X hR hc hs hP hL hl
  refine lv_icmp_gt X.1 X.2.1 hd ht (fun hh => ?_) (fun hh => ?_)
  · rw [if_pos (hh)] at hr
    exact kt r hr p e R s m args below meth c H locs cells slots ls X hR hc hs hP hL hl
  · rw [if_neg (hh)] at hr
    exact kf r hr p e R s m args below meth c H locs cells slots ls X hR hc hs hP hL hl
theorem tr_icle {α : Type} {G : MG} {M : MM} {d mc ms cu su : Nat} {κ : α → MsRes} {pc : Nat} {lv : List (Nat × Value)} {rest : List Value} {σ : MsSt} {o : Option α} {x y : Int32} {off : Int} {tgt : Nat} {o1 o2 : Option α} (hd : decode M.2.1 pc = .ok (.if_icmp .le off, 3)) (ht : (pc : Int) + off = (tgt : Int)) (kt : TrO G M d mc ms cu su κ tgt lv rest σ o2) (kf : TrO G M d mc ms cu su κ (pc + 3) lv rest σ o1) : TrO G M d mc ms cu su κ pc lv (.int y :: .int x :: rest) σ (if y < x then o1 else o2) := by
  intro r hr p e R s m args below meth c H locs cells slots ls X hR hc hs hP hL hl
  refine lv_icmp_le X.1 X.2.1 hd ht (fun hh => ?_) (fun hh => ?_)
  · rw [if_neg (ms_nlt hh)] at hr
    exact kt r hr p e R s m args below meth c H locs cells slots ls X hR hc hs hP hL hl
  · rw [if_pos (ms_lt hh)] at hr
    exact kf r hr p e R s m args below meth c H locs cells slots ls X hR hc hs hP hL hl
/-! the layouts' words lie in the tables -/
theorem ms_lay0 : ∀ w ∈ u_ws RX0 TX0 12, w ∈ lw_tbl := by
  intro w hw
  rw [show u_ws RX0 TX0 12 = ([516, 518, 520, 522, 524, 526, 528, 530, 532, 534, 536, 538] : List Nat).filterMap (fun i => lw_tbl[i]?) from by decide +kernel] at hw
  obtain ⟨i, -, hi⟩ := List.mem_filterMap.mp hw
  exact List.mem_of_getElem? hi
theorem ms_lay1 : ∀ w ∈ u_ws RX1 TX1 7, w ∈ lw_tbl := by
  intro w hw
  rw [show u_ws RX1 TX1 7 = ([472, 474, 476, 478, 480, 482, 484] : List Nat).filterMap (fun i => lw_tbl[i]?) from by decide +kernel] at hw
  obtain ⟨i, -, hi⟩ := List.mem_filterMap.mp hw
  exact List.mem_of_getElem? hi
theorem ms_lay2 : ∀ w ∈ u_ws RX2 TX2 3, w ∈ lw_tbl := by
  intro w hw
  rw [show u_ws RX2 TX2 3 = ([441, 443, 445] : List Nat).filterMap (fun i => lw_tbl[i]?) from by decide +kernel] at hw
  obtain ⟨i, -, hi⟩ := List.mem_filterMap.mp hw
  exact List.mem_of_getElem? hi
theorem ms_lay3 : ∀ w ∈ u_ws RX3 TX3 4, w ∈ lw_tbl := by
  intro w hw
  rw [show u_ws RX3 TX3 4 = ([428, 430, 432, 434] : List Nat).filterMap (fun i => lw_tbl[i]?) from by decide +kernel] at hw
  obtain ⟨i, -, hi⟩ := List.mem_filterMap.mp hw
  exact List.mem_of_getElem? hi
theorem ms_lay4 : ∀ w ∈ u_ws RX4 TX4 6, w ∈ lw_tbl := by
  intro w hw
  rw [show u_ws RX4 TX4 6 = ([396, 398, 400, 402, 404, 406] : List Nat).filterMap (fun i => lw_tbl[i]?) from by decide +kernel] at hw
  obtain ⟨i, -, hi⟩ := List.mem_filterMap.mp hw
  exact List.mem_of_getElem? hi
theorem ms_lay5 : ∀ w ∈ u_ws RX5 TX5 2, w ∈ lw_tbl := by
  intro w hw
  rw [show u_ws RX5 TX5 2 = ([245, 247] : List Nat).filterMap (fun i => lw_tbl[i]?) from by decide +kernel] at hw
  obtain ⟨i, -, hi⟩ := List.mem_filterMap.mp hw
  exact List.mem_of_getElem? hi
theorem ms_lay6 : ∀ w ∈ u_ws RX6 TX6 7, w ∈ lw_tbl := by
  intro w hw
  rw [show u_ws RX6 TX6 7 = ([351, 353, 355, 357, 359, 361, 363] : List Nat).filterMap (fun i => lw_tbl[i]?) from by decide +kernel] at hw
  obtain ⟨i, -, hi⟩ := List.mem_filterMap.mp hw
  exact List.mem_of_getElem? hi
theorem ms_lay7 : ∀ w ∈ u_ws RX7 TX7 14, w ∈ lw_tbl := by
  intro w hw
  rw [show u_ws RX7 TX7 14 = ([303, 305, 307, 309, 311, 313, 315, 317, 319, 321, 323, 325, 327, 329] : List Nat).filterMap (fun i => lw_tbl[i]?) from by decide +kernel] at hw
  obtain ⟨i, -, hi⟩ := List.mem_filterMap.mp hw
  exact List.mem_of_getElem? hi
theorem ms_lay8 : ∀ w ∈ u_ws RX8 TX8 2, w ∈ lw_tbl := by
  intro w hw
  rw [show u_ws RX8 TX8 2 = ([377, 379] : List Nat).filterMap (fun i => lw_tbl[i]?) from by decide +kernel] at hw
  obtain ⟨i, -, hi⟩ := List.mem_filterMap.mp hw
  exact List.mem_of_getElem? hi
theorem ms_lay9 : ∀ w ∈ u_ws RX9 TX9 9, w ∈ lw_tbl := by
  intro w hw
  rw [show u_ws RX9 TX9 9 = ([194, 196, 198, 200, 202, 204, 206, 208, 210] : List Nat).filterMap (fun i => lw_tbl[i]?) from by decide +kernel] at hw
  obtain ⟨i, -, hi⟩ := List.mem_filterMap.mp hw
  exact List.mem_of_getElem? hi
theorem ms_lay10 : ∀ w ∈ u_ws RX10 TX10 14, w ∈ lw_tbl := by
  intro w hw
  rw [show u_ws RX10 TX10 14 = ([557, 559, 561, 563, 565, 567, 569, 571, 573, 575, 577, 579, 581, 583] : List Nat).filterMap (fun i => lw_tbl[i]?) from by decide +kernel] at hw
  obtain ⟨i, -, hi⟩ := List.mem_filterMap.mp hw
  exact List.mem_of_getElem? hi
theorem ms_lay11 : ∀ w ∈ u_ws RX11 TX11 6, w ∈ lw_tbl := by
  intro w hw
  rw [show u_ws RX11 TX11 6 = ([1618, 1620, 1622, 1624, 1626, 1628] : List Nat).filterMap (fun i => lw_tbl[i]?) from by decide +kernel] at hw
  obtain ⟨i, -, hi⟩ := List.mem_filterMap.mp hw
  exact List.mem_of_getElem? hi
theorem ms_lay12 : ∀ w ∈ u_ws RX12 TX12 41, w ∈ lw_tbl := by
  intro w hw
  rw [show u_ws RX12 TX12 41 = ([1685, 1687, 1689, 1691, 1693, 1695, 1697, 1699, 1701, 1703, 1705, 1707, 1709, 1711, 1713, 1715, 1717, 1719, 1721, 1723, 1725, 1727, 1729, 1731, 1733, 1735, 1737, 1739, 1741, 1743, 1745, 1747, 1749, 1751, 1753, 1755, 1757, 1759, 1761, 1763, 1765] : List Nat).filterMap (fun i => lw_tbl[i]?) from by decide +kernel] at hw
  obtain ⟨i, -, hi⟩ := List.mem_filterMap.mp hw
  exact List.mem_of_getElem? hi
section MsTail
variable {α β : Type} {G : MG} {M M' : MM} {d mc ms cu su d' mc' ms' : Nat} {κ : α → MsRes} {κ' : β → MsRes} {pc : Nat} {lv : List (Nat × Value)} {rest : List Value} {σ : MsSt} {o : Option α}
theorem tr_goto {off : Int} {tgt : Nat} (hd : decode M.2.1 pc = .ok (.goto off, 3)) (ht : (pc : Int) + off = (tgt : Int)) (k : TrO G M d mc ms cu su κ tgt lv rest σ o) : TrO G M d mc ms cu su κ pc lv rest σ o := by
  intro r hr p e R s m args below meth c H locs cells slots ls X hR hc hs hP hL hl
  exact lv_goto X.1 X.2.1 hd ht (k r hr p e R s m args below meth c H locs cells slots ls X hR hc hs hP hL hl)
theorem tr_null (hd : decode M.2.1 pc = .ok (.aconst_null, 1)) (k : TrO G M d mc ms cu su κ (pc + 1) lv (.null :: rest) σ o) : TrO G M d mc ms cu su κ pc lv rest σ o := by
  intro r hr p e R s m args below meth c H locs cells slots ls X hR hc hs hP hL hl
  exact lv_null X.1 X.2.1 hd (k r hr p e R s m args below meth c H locs cells slots ls X hR hc hs hP hL hl)
theorem tr_ifnonnull {x : Nat} {off : Int} {tgt : Nat} (hd : decode M.2.1 pc = .ok (.ifnonnull off, 3)) (ht : (pc : Int) + off = (tgt : Int)) (k : TrO G M d mc ms cu su κ tgt lv rest σ o) : TrO G M d mc ms cu su κ pc lv (.ref x :: rest) σ o := by
  intro r hr p e R s m args below meth c H locs cells slots ls X hR hc hs hP hL hl
  exact lv_ifnonnull X.1 X.2.1 hd ht (k r hr p e R s m args below meth c H locs cells slots ls X hR hc hs hP hL hl)
theorem tr_ifnull {x : Nat} {off : Int} (hd : decode M.2.1 pc = .ok (.ifnull off, 3)) (k : TrO G M d mc ms cu su κ (pc + 3) lv rest σ o) : TrO G M d mc ms cu su κ pc lv (.ref x :: rest) σ o := by
  intro r hr p e R s m args below meth c H locs cells slots ls X hR hc hs hP hL hl
  exact lv_ifnull X.1 X.2.1 hd (k r hr p e R s m args below meth c H locs cells slots ls X hR hc hs hP hL hl)
theorem tr_ifnonnullN {off : Int} (hd : decode M.2.1 pc = .ok (.ifnonnull off, 3)) (k : TrO G M d mc ms cu su κ (pc + 3) lv rest σ o) : TrO G M d mc ms cu su κ pc lv (.null :: rest) σ o := by
  intro r hr p e R s m args below meth c H locs cells slots ls X hR hc hs hP hL hl
  exact lv_ifnonnullN X.1 X.2.1 hd (k r hr p e R s m args below meth c H locs cells slots ls X hR hc hs hP hL hl)
theorem tr_ifnullN {off : Int} {tgt : Nat} (hd : decode M.2.1 pc = .ok (.ifnull off, 3)) (ht : (pc : Int) + off = (tgt : Int)) (k : TrO G M d mc ms cu su κ tgt lv rest σ o) : TrO G M d mc ms cu su κ pc lv (.null :: rest) σ o := by
  intro r hr p e R s m args below meth c H locs cells slots ls X hR hc hs hP hL hl
  exact lv_ifnullN X.1 X.2.1 hd ht (k r hr p e R s m args below meth c H locs cells slots ls X hR hc hs hP hL hl)
theorem tr_lcmp {x y : Int64} (hd : decode M.2.1 pc = .ok (.lcmp, 1)) (k : TrO G M d mc ms cu su κ (pc + 1) lv (.int (lg_cmp x y) :: rest) σ o) : TrO G M d mc ms cu su κ pc lv (.long y :: .long x :: rest) σ o := by
  intro r hr p e R s m args below meth c H locs cells slots ls X hR hc hs hP hL hl
  exact W.lcmp X.1 X.2.1 hd (k r hr p e R s m args below meth c H locs cells slots ls X hR hc hs hP hL hl)
theorem tr_dcmp {x y : UInt64} {op : CmpOp} (hd : decode M.2.1 pc = .ok (.dcmp op, 1)) (k : TrO G M d mc ms cu su κ (pc + 1) lv (.int (Op.cmpValue (FP.dcmp x y) op) :: rest) σ o) : TrO G M d mc ms cu su κ pc lv (.double y :: .double x :: rest) σ o := by
  intro r hr p e R s m args below meth c H locs cells slots ls X hR hc hs hP hL hl
  exact lv_dcmp X.1 X.2.1 hd (k r hr p e R s m args below meth c H locs cells slots ls X hR hc hs hP hL hl)
theorem tr_fcmp {x y : UInt32} {op : CmpOp} (hd : decode M.2.1 pc = .ok (.fcmp op, 1)) (k : TrO G M d mc ms cu su κ (pc + 1) lv (.int (Op.cmpValue (FP.fcmp x y) op) :: rest) σ o) : TrO G M d mc ms cu su κ pc lv (.float y :: .float x :: rest) σ o := by
  intro r hr p e R s m args below meth c H locs cells slots ls X hR hc hs hP hL hl
  exact lv_fcmp X.1 X.2.1 hd (k r hr p e R s m args below meth c H locs cells slots ls X hR hc hs hP hL hl)
theorem tr_ldci {idx : Nat} {v : Int32} (hw : Cond.constant M.1 idx v ∈ lw_tbl) (hd : decode M.2.1 pc = .ok (.ldc idx, 2)) (k : TrO G M d mc ms cu su κ (pc + 2) lv (.int v :: rest) σ o) : TrO G M d mc ms cu su κ pc lv rest σ o := by
  intro r hr p e R s m args below meth c H locs cells slots ls X hR hc hs hP hL hl
  exact lv_ldc X.1 X.2.1 X.2.2.2.2.2.1 (X.2.2.2.2.2.2.1.w hw rfl) hd (k r hr p e R s m args below meth c H locs cells slots ls X hR hc hs hP hL hl)
theorem tr_ldcl {idx : Nat} {v : Int64} (hw : Cond.constantLong M.1 idx v ∈ lw_tbl) (hd : decode M.2.1 pc = .ok (.ldc2_w idx, 3)) (k : TrO G M d mc ms cu su κ (pc + 3) lv (.long v :: rest) σ o) : TrO G M d mc ms cu su κ pc lv rest σ o := by
  intro r hr p e R s m args below meth c H locs cells slots ls X hR hc hs hP hL hl
  exact lv_ldc2 X.1 X.2.1 X.2.2.2.2.2.1 (X.2.2.2.2.2.2.1.w hw rfl) hd (k r hr p e R s m args below meth c H locs cells slots ls X hR hc hs hP hL hl)
theorem tr_ldcs {idx : Nat} (j : Nat) {tx : String} (hj : j < 50) (ht : ms_tx.getD j ("", 0, "") = (M.1, idx, tx)) (hd : decode M.2.1 pc = .ok (.ldc idx, 2)) (k : TrO G M d mc ms cu su κ (pc + 2) lv (.ref (600 + j) :: rest) σ o) : TrO G M d mc ms cu su κ pc lv rest σ o := by
  intro r hr p e R s m args below meth c H locs cells slots ls X hR hc hs hP hL hl
  have h1 := X.2.2.2.2.2.2.1.2.2.2.2.1 j hj
  rw [ht] at h1
  have h2 := k r hr p e R s m args below meth c H locs cells slots ls X hR hc hs hP hL hl
  refine va_ldcS X.1 X.2.1 X.2.2.2.2.2.1 h1 hd ?_
  have e1 : ms_cv G (.ref (600 + j)) = .ref (g_s G (600 + j)) := by
    show Value.ref (ms_ad G (600 + j)) = _
    unfold ms_ad
    rw [if_neg (by omega)]
  rw [← e1]
  exact h2
theorem tr_ldcsw {idx : Nat} (j : Nat) {tx : String} (hj : j < 50) (ht : ms_tx.getD j ("", 0, "") = (M.1, idx, tx)) (hd : decode M.2.1 pc = .ok (.ldc_w idx, 3)) (k : TrO G M d mc ms cu su κ (pc + 3) lv (.ref (600 + j) :: rest) σ o) : TrO G M d mc ms cu su κ pc lv rest σ o := by
  intro r hr p e R s m args below meth c H locs cells slots ls X hR hc hs hP hL hl
  have h1 := X.2.2.2.2.2.2.1.2.2.2.2.1 j hj
  rw [ht] at h1
  have h2 := k r hr p e R s m args below meth c H locs cells slots ls X hR hc hs hP hL hl
  have e1 : ms_cv G (.ref (600 + j)) = .ref (g_s G (600 + j)) := by
    show Value.ref (ms_ad G (600 + j)) = _
    unfold ms_ad
    rw [if_neg (by omega)]
  intro T hT XS
  obtain ⟨t, a1, b1⟩ := h2 T hT XS
  rw [show (Value.ref (600 + j) :: rest).map (ms_cv G) = Value.ref (g_s G (600 + j)) :: rest.map (ms_cv G) from by rw [List.map_cons, e1]] at a1
  exact ⟨t, XS.ldcStringW X.1 X.2.2.2.2.2.1 (text := tx) (a := g_s G (600 + j)) h1.1 h1.2 (g := F0 m pc ls (rest.map (ms_cv G))) rfl (by rw [X.2.1]; exact hd) t a1, b1⟩
theorem tr_ldciw {idx : Nat} {v : Int32} (hw : Cond.constant M.1 idx v ∈ lw_tbl) (hd : decode M.2.1 pc = .ok (.ldc_w idx, 3)) (k : TrO G M d mc ms cu su κ (pc + 3) lv (.int v :: rest) σ o) : TrO G M d mc ms cu su κ pc lv rest σ o := by
  intro r hr p e R s m args below meth c H locs cells slots ls X hR hc hs hP hL hl
  exact lv_ldcw X.1 X.2.1 X.2.2.2.2.2.1 (X.2.2.2.2.2.2.1.w hw rfl) hd (k r hr p e R s m args below meth c H locs cells slots ls X hR hc hs hP hL hl)
theorem tr_tsIn {dflt lo hi : Int} {offs : Array Int} {len : Nat} {x : Int32} {tgt : Nat} {o1 o2 : Option α} {off : Int} (v : Int32) (hd : decode M.2.1 pc = .ok (.tableswitch dflt lo hi offs, len)) (h1 : ¬ v.toInt < lo) (h2 : ¬ hi < v.toInt) (ho : offs[(v.toInt - lo).toNat]? = some off) (ht : (pc : Int) + off = (tgt : Int)) (kt : TrO G M d mc ms cu su κ tgt lv rest σ o1) (kf : ¬ x = v → TrO G M d mc ms cu su κ pc lv (.int x :: rest) σ o2) : TrO G M d mc ms cu su κ pc lv (.int x :: rest) σ (if x = v then o1 else o2) := by
  intro r hr p e R s m args below meth c H locs cells slots ls X hR hc hs hP hL hl
  by_cases hx : x = v
  · rw [if_pos hx] at hr
    subst hx
    exact lv_tableIn X.1 X.2.1 hd h1 h2 ho ht (kt r hr p e R s m args below meth c H locs cells slots ls X hR hc hs hP hL hl)
  · rw [if_neg hx] at hr
    exact kf hx r hr p e R s m args below meth c H locs cells slots ls X hR hc hs hP hL hl
theorem tr_tsOut {dflt lo hi : Int} {offs : Array Int} {len : Nat} {x : Int32} {tgt : Nat} (hd : decode M.2.1 pc = .ok (.tableswitch dflt lo hi offs, len)) (h : x.toInt < lo ∨ hi < x.toInt) (ht : (pc : Int) + dflt = (tgt : Int)) (k : TrO G M d mc ms cu su κ tgt lv rest σ o) : TrO G M d mc ms cu su κ pc lv (.int x :: rest) σ o := by
  intro r hr p e R s m args below meth c H locs cells slots ls X hR hc hs hP hL hl
  exact lv_tableOut X.1 X.2.1 hd h ht (k r hr p e R s m args below meth c H locs cells slots ls X hR hc hs hP hL hl)
/-- fewer locals -/
theorem tr_weak (ps : List Nat) {lv' : List (Nat × Value)} (hp : ms_pk lv ps = lv') (k : TrO G M d mc ms cu su κ pc lv' rest σ o) : TrO G M d mc ms cu su κ pc lv rest σ o := by
  intro r hr p e R s m args below meth c H locs cells slots ls X hR hc hs hP hL hl
  exact k r hr p e R s m args below meth c H locs cells slots ls X hR hc hs hP hL (ms_lvpk hl hp)
theorem tr_none {st : List Value} : TrO G M d mc ms cu su κ pc lv st σ (none : Option α) := fun r hr => by cases hr
/-- a name for what a function is handed -/
theorem tr_mono {cu1 su1 : Nat} {st : List Value} (h1 : cu ≤ cu1) (h2 : su ≤ su1) (k : TrO G M d mc ms cu1 su1 κ pc lv st σ o) : TrO G M d mc ms cu su κ pc lv st σ o := by
  intro r hr p e R s m args below meth c H locs cells slots ls X hR hc hs hP hL hl
  exact k r hr p e R s m args below meth c H locs cells slots ls X hR (Nat.le_trans hc h1) (Nat.le_trans hs h2) hP hL hl
/-! fields -/
def MsFl (own : String) (idx c k : Nat) : Prop := ∃ r : vw_C, ms_cl[c]? = some r ∧ c < 13 ∧ k < r.2.2 ∧ (Cond.fieldLink own idx (r.2.1 k).1 (r.2.1 k).2.1 (r.2.1 k).2.2.1 ∈ lw_tbl ∨ ∃ host, Cond.fieldLinkNest own idx (r.2.1 k).1 (r.2.1 k).2.1 (r.2.1 k).2.2.1 host ∈ lw_tbl)
theorem ms_lays {c : Nat} {r : vw_C} (h : ms_cl[c]? = some r) : ∀ w ∈ u_ws r.1 r.2.1 r.2.2, w ∈ ms_gw := by
  have hc : c < 13 := (List.getElem?_eq_some_iff.mp h).1
  intro w hw
  have h1 : w ∈ lw_tbl := by
    match c, hc with
    | 0, _ => cases h; exact ms_lay0 w hw
    | 1, _ => cases h; exact ms_lay1 w hw
    | 2, _ => cases h; exact ms_lay2 w hw
    | 3, _ => cases h; exact ms_lay3 w hw
    | 4, _ => cases h; exact ms_lay4 w hw
    | 5, _ => cases h; exact ms_lay5 w hw
    | 6, _ => cases h; exact ms_lay6 w hw
    | 7, _ => cases h; exact ms_lay7 w hw
    | 8, _ => cases h; exact ms_lay8 w hw
    | 9, _ => cases h; exact ms_lay9 w hw
    | 10, _ => cases h; exact ms_lay10 w hw
    | 11, _ => cases h; exact ms_lay11 w hw
    | 12, _ => cases h; exact ms_lay12 w hw
  refine List.mem_filter.mpr ⟨h1, ?_⟩
  obtain ⟨k, -, rfl⟩ := List.mem_map.mp hw
  unfold u_lay
  split <;> rfl
theorem ms_names {c : Nat} {r : vw_C} (h : ms_cl[c]? = some r) : (∀ k, k < r.2.2 → parseFieldDescriptor (r.2.1 k).2.2.1 = some (ms_ty c k)) ∧ ∀ a, a < r.2.2 → ∀ b, b < r.2.2 → a ≠ b → (r.2.1 a).2.1 ≠ (r.2.1 b).2.1 := by
  have hc : c < 13 := (List.getElem?_eq_some_iff.mp h).1
  match c, hc with
  | 0, _ => cases h; exact ⟨tyX0_ok, nmX0⟩
  | 1, _ => cases h; exact ⟨tyX1_ok, nmX1⟩
  | 2, _ => cases h; exact ⟨tyX2_ok, nmX2⟩
  | 3, _ => cases h; exact ⟨tyX3_ok, nmX3⟩
  | 4, _ => cases h; exact ⟨tyX4_ok, nmX4⟩
  | 5, _ => cases h; exact ⟨tyX5_ok, nmX5⟩
  | 6, _ => cases h; exact ⟨tyX6_ok, nmX6⟩
  | 7, _ => cases h; exact ⟨tyX7_ok, nmX7⟩
  | 8, _ => cases h; exact ⟨tyX8_ok, nmX8⟩
  | 9, _ => cases h; exact ⟨tyX9_ok, nmX9⟩
  | 10, _ => cases h; exact ⟨tyX10_ok, nmX10⟩
  | 11, _ => cases h; exact ⟨tyX11_ok, nmX11⟩
  | 12, _ => cases h; exact ⟨tyX12_ok, nmX12⟩
theorem tr_get {idx c k a : Nat} (hk : ms_kd a = c + 1) (hf : MsFl M.1 idx c k) (hd : decode M.2.1 pc = .ok (.getfield idx, 3)) {v : Value} (hv : (if ms_isr c k = true then .ref (ms_rf a k) else .int (ms_i σ a k)) = v) (kk : TrO G M d mc ms cu su κ (pc + 3) lv (v :: rest) σ o) : TrO G M d mc ms cu su κ pc lv (.ref a :: rest) σ o := by
  intro r hr p e R s m args below meth cc H locs cells slots ls X hR hc hs hP hL hl
  obtain ⟨q, h1, hc13, hkN, hlink⟩ := hf
  obtain ⟨q', h1', cell, q1, q2, q3, q4⟩ := hP.obj hk hc13
  cases h1.symm.trans h1'
  obtain ⟨hS, hfc, kC, hkC, hkind⟩ := X.2.2.2.2.2.2.1.2.1.1 c _ h1
  obtain ⟨cf, kf, fi, f, hi, hsl⟩ := hS k hkN
  have hst := (u_facts (args := args) hfc hkC (u_lays X.2.2.2.2.2.2.1.g (ms_lays h1) hkN) hi).1
  have hsv : cell.slots[f.slot]? = some (ms_cv G v) := by
    rw [hsl, q4 k hkN, ← hv]
    unfold ms_fv
    split <;> rfl
  have kk2 := kk r hr p e R s m args below meth cc H locs cells slots ls X hR hc hs hP hL hl
  rcases hlink with hlink | ⟨host, hlink⟩
  · exact W.getf X.1 X.2.1 X.2.2.2.2.2.1 (X.2.2.2.2.2.2.1.w hlink rfl) hi hst q1 (by rw [q3]; exact fun h => by cases h) hsv rfl rfl hd kk2
  · exact va_Wgetf X.1 X.2.1 X.2.2.2.2.2.1 (X.2.2.2.2.2.2.1.w hlink rfl) hi hst q1 (by rw [q3]; exact fun h => by cases h) hsv rfl rfl hd kk2
theorem tr_getI {idx k a : Nat} (c : Nat) (hk : ms_kd a = c + 1) (hf : MsFl M.1 idx c k) (hI : ms_isr c k = false) (hd : decode M.2.1 pc = .ok (.getfield idx, 3)) (kk : TrO G M d mc ms cu su κ (pc + 3) lv (.int (ms_i σ a k) :: rest) σ o) : TrO G M d mc ms cu su κ pc lv (.ref a :: rest) σ o := tr_get hk hf hd (by rw [hI]; rfl) kk
theorem tr_getR {idx k a : Nat} (c : Nat) (hk : ms_kd a = c + 1) (hf : MsFl M.1 idx c k) (hI : ms_isr c k = true) (hd : decode M.2.1 pc = .ok (.getfield idx, 3)) (kk : TrO G M d mc ms cu su κ (pc + 3) lv (.ref (ms_rf a k) :: rest) σ o) : TrO G M d mc ms cu su κ pc lv (.ref a :: rest) σ o := tr_get hk hf hd (by rw [hI]; rfl) kk
theorem ms_rep.lt {H : Heap} (hP : ms_rep G σ H) {a : Nat} (ha : a < 519) : ms_ad G a < H.size := by
  have hk := hP.1 a ha
  by_cases h1 : ms_kd a < 14
  · obtain ⟨q', h1', cell, q1, -⟩ := hk.1 (ms_kd a - 1) (by have := ms_kd_pos ha; omega) (by have := ms_kd_pos ha; omega)
    exact (Array.getElem?_eq_some_iff.mp q1).1
  · have h2 : 20 ≤ ms_kd a := by
      have : ∀ k, k < 519 → ¬ ms_kd k < 14 → 20 ≤ ms_kd k := by decide +kernel
      exact this a ha h1
    have h3 := hk.2 (ms_kd a - 20) (by omega)
    exact (Array.getElem?_eq_some_iff.mp h3).1
/-- one cell has changed, as the store has -/
theorem ms_rep.upd {σ' : MsSt} {H H' : Heap} {a : Nat} (hP : ms_rep G σ H) (ha : a < 519) (hat : ms_at G σ' a H') (hz : H'.size = H.size) (hq : ∀ q, q ≠ ms_ad G a → H'[q]? = H[q]?) (h1 : ∀ b k, b ≠ a → ms_i σ' b k = ms_i σ b k) (h2 : ∀ b k, b ≠ a → ms_j σ' b k = ms_j σ b k) (h3 : ∀ b k, b ≠ a → ms_d σ' b k = ms_d σ b k) : ms_rep G σ' H' := by
  refine ⟨fun b hb => ?_, fun q hq2 => ?_, by rw [hz]; exact hP.2.2⟩
  · by_cases hba : b = a
    · rw [hba]; exact hat
    · exact (hP.1 b hb).kept (hq _ (fun e => hba (ms_ad_inj (by omega) (by omega) e))) (fun k => h1 b k hba) (fun k => h2 b k hba) (fun k => h3 b k hba)
  · rw [hq q (by rw [ms_ad_lo (by omega : a < 600)]; omega)]
    exact hP.2.1 q hq2
theorem ms_base {locs : List Loc} {a i : Nat} (hL : ∀ q ∈ locs, (g_H G).size ≤ q.base) (ha : a < 519) : ∀ q ∈ locs ++ [⟨ms_ad G a, i⟩], (g_H G).size ≤ q.base := by
  intro q hq
  rcases List.mem_append.mp hq with h | h
  · exact hL q h
  · rw [List.mem_singleton.mp h]
    show (g_H G).size ≤ ms_ad G a
    rw [ms_ad_lo (by omega : a < 600)]
    omega
theorem tr_put {idx c k a : Nat} {x : Int32} (hk : ms_kd a = c + 1) (hf : MsFl M.1 idx c k) (hI : ms_isr c k = false) (hfin : ∀ r, ms_cl[c]? = some r → (r.2.1 k).2.2.2 = false) (hn : narrow (ms_ty c k) (.int x) = .int x) (hfit : fits (ms_ty c k) (.int x) = true) (hd : decode M.2.1 pc = .ok (.putfield idx, 3)) (kk : TrO G M d mc ms cu su κ (pc + 3) lv rest (ms_si σ a k x) o) : TrO G M d mc ms cu su κ pc lv (.int x :: .ref a :: rest) σ o := by
  intro r hr p e R s m args below meth cc H locs cells slots ls X hR hc hs hP hL hl
  obtain ⟨q, h1, hc13, hkN, hlink⟩ := hf
  have ha : a < 519 := ms_kd_lt (by omega)
  obtain ⟨q', h1', cell, q1, q2, q3, q4⟩ := hP.obj hk hc13
  cases h1.symm.trans h1'
  obtain ⟨hS, hfc, kC, hkC, hkind⟩ := X.2.2.2.2.2.2.1.2.1.1 c _ h1
  obtain ⟨cf, kf, fi, f, hi, hsl⟩ := hS k hkN
  have hts := X.2.2.2.2.2.2.1.g (args := args)
  have hin := ms_lays h1
  obtain ⟨hty, hnm⟩ := ms_names h1
  have hst := (u_facts hfc hkC (u_lays hts hin hkN) hi).1
  have hlay := hts _ (hin _ (u_in_lay hkN))
  unfold u_lay at hlay
  rw [if_neg (by rw [hfin q h1]; decide)] at hlay
  have h6 := u_store hfc hkC hkind hlay hi (hty k hkN) hn hfit
  have hap := va_apart (own := M.1) hts hin (ms_ty c) hty hnm X.2.2.2.2.2.2.1.2.1 h1
  have fin : ∀ H' : Heap, H'[ms_ad G a]? = some (cell.setSlot f.slot (.int x)) → H'.size = H.size → (∀ q, q ≠ ms_ad G a → H'[q]? = H[q]?) → ms_rep G (ms_si σ a k x) H' := by
    intro H' e1 e2 e3
    rw [hsl] at e1
    refine hP.upd ha ⟨fun c2 hc2 hc3 => ?_, fun ak hak => by omega⟩ e2 e3 (fun b k2 hb => ms_up_ne _ _ (Or.inl hb)) (fun b k2 hb => rfl) (fun b k2 hb => rfl)
    have hcc : c2 = c := by omega
    subst hcc
    refine ⟨q, h1, t_OB.to (V := updV (ms_fv G σ a c2) k (.int x)) ⟨_, e1, q2, q3, t_set q4 hap hkN (.int x)⟩ (fun j _ => ?_)⟩
    unfold updV ms_fv
    by_cases hj : j = k
    · subst hj
      rw [if_pos rfl, hI]
      show _ = Value.int (ms_up _ _ _ _ _ _)
      rw [ms_up_same]
    · rw [if_neg hj]
      show _ = if ms_isr c2 j = true then _ else Value.int (ms_up _ _ _ _ _ _)
      rw [ms_up_ne _ _ (Or.inr hj)]
      rfl
  rcases hlink with hlink | ⟨host, hlink⟩
  · refine W.putK X.1 X.2.1 (f := f) ⟨X.2.2.2.2.2.1, X.2.2.2.2.2.2.1.w hlink rfl, ⟨_, _, _, hi⟩, hst⟩ (by rw [q2]; exact h6) q1 q3 (by rw [hsl]; exact k2_hasslot (q4 k hkN)) rfl rfl hd fun H' e1 e2 e3 => ?_
    exact kk r hr p e R s m args below meth cc H' _ cells slots ls X hR hc hs (fin H' e1 e2 e3) (ms_base hL ha) hl
  · refine va_WputK X.1 X.2.1 (f := f) X.2.2.2.2.2.1 (X.2.2.2.2.2.2.1.w hlink rfl) hi hst (by rw [q2]; exact h6) q1 q3 (by rw [hsl]; exact k2_hasslot (q4 k hkN)) rfl rfl hd fun H' e1 e2 e3 => ?_
    exact kk r hr p e R s m args below meth cc H' _ cells slots ls X hR hc hs (fin H' e1 e2 e3) (ms_base hL ha) hl
theorem ms_fitI (x : Int32) : narrow .int (.int x) = .int x ∧ fits .int (.int x) = true := ⟨rfl, rfl⟩
/-- a field of an int that is not final -/
def ms_fi (c k : Nat) : Bool := decide (ms_ty c k = .int) && ((ms_cl[c]?).all fun r => !(r.2.1 k).2.2.2)
def ms_fz (c k : Nat) : Bool := decide (ms_ty c k = .boolean) && ((ms_cl[c]?).all fun r => !(r.2.1 k).2.2.2)
theorem tr_putI {idx k a : Nat} {x : Int32} (c : Nat) (hk : ms_kd a = c + 1) (hf : MsFl M.1 idx c k) (hI : ms_fi c k = true) (hd : decode M.2.1 pc = .ok (.putfield idx, 3)) (kk : TrO G M d mc ms cu su κ (pc + 3) lv rest (ms_si σ a k x) o) : TrO G M d mc ms cu su κ pc lv (.int x :: .ref a :: rest) σ o := by
  simp only [ms_fi, Bool.and_eq_true, decide_eq_true_eq] at hI
  refine tr_put hk hf (by unfold ms_isr; rw [hI.1]) (fun r hr => by have := hI.2; rw [hr] at this; simpa using this) (by rw [hI.1]; rfl) (by rw [hI.1]; rfl) hd kk
/-- a truth value's number, or nothing -/
def ms_bz (x : Int32) : Option Int32 := if x = 0 ∨ x = 1 then some x else none
theorem ms_bz_s {x : Int32} {f : Int32 → Option α} {r : α} (h : (ms_bz x).bind f = some r) : (x = 0 ∨ x = 1) ∧ f x = some r := by
  unfold ms_bz at h
  by_cases hy : x = 0 ∨ x = 1
  · rw [if_pos hy] at h; exact ⟨hy, h⟩
  · rw [if_neg hy] at h; cases h
theorem ms_nz {x : Int32} (h : x = 0 ∨ x = 1) : narrow .boolean (.int x) = .int x ∧ fits .boolean (.int x) = true := by
  rcases h with rfl | rfl <;> exact ⟨by decide +kernel, by decide +kernel⟩
theorem tr_putZ {idx k a : Nat} {x : Int32} {f : Int32 → Option α} (c : Nat) (hk : ms_kd a = c + 1) (hf : MsFl M.1 idx c k) (hI : ms_fz c k = true) (hd : decode M.2.1 pc = .ok (.putfield idx, 3)) (kk : TrO G M d mc ms cu su κ (pc + 3) lv rest (ms_si σ a k x) (f x)) : TrO G M d mc ms cu su κ pc lv (.int x :: .ref a :: rest) σ ((ms_bz x).bind f) := by
  intro r hr
  obtain ⟨hx, hr⟩ := ms_bz_s hr
  simp only [ms_fz, Bool.and_eq_true, decide_eq_true_eq] at hI
  exact tr_put hk hf (by unfold ms_isr; rw [hI.1]) (fun r hr => by have := hI.2; rw [hr] at this; simpa using this) (by rw [hI.1]; exact (ms_nz hx).1) (by rw [hI.1]; exact (ms_nz hx).2) hd kk r hr
/-- a constant into a field of a truth value -/
theorem tr_putB {idx k a : Nat} {x : Int32} (c : Nat) (hk : ms_kd a = c + 1) (hf : MsFl M.1 idx c k) (hI : ms_fz c k = true) (hx : x = 0 ∨ x = 1) (hd : decode M.2.1 pc = .ok (.putfield idx, 3)) (kk : TrO G M d mc ms cu su κ (pc + 3) lv rest (ms_si σ a k x) o) : TrO G M d mc ms cu su κ pc lv (.int x :: .ref a :: rest) σ o := by
  simp only [ms_fz, Bool.and_eq_true, decide_eq_true_eq] at hI
  exact tr_put hk hf (by unfold ms_isr; rw [hI.1]) (fun r hr => by have := hI.2; rw [hr] at this; simpa using this) (by rw [hI.1]; exact (ms_nz hx).1) (by rw [hI.1]; exact (ms_nz hx).2) hd kk
/-! arrays -/
def ms_ald (σ : MsSt) (a : Nat) (i : Int32) : Option Int32 := if i < 0 ∨ ms_ln a ≤ i.toNatClampNeg then none else some (ms_i σ a i.toNatClampNeg)
def ms_alj (σ : MsSt) (a : Nat) (i : Int32) : Option Int64 := if i < 0 ∨ ms_ln a ≤ i.toNatClampNeg then none else some (ms_j σ a i.toNatClampNeg)
def ms_aldd (σ : MsSt) (a : Nat) (i : Int32) : Option UInt64 := if i < 0 ∨ ms_ln a ≤ i.toNatClampNeg then none else some (ms_d σ a i.toNatClampNeg)
def ms_ala (a : Nat) (i : Int32) : Option Nat := if i < 0 ∨ ms_ln a ≤ i.toNatClampNeg then none else some (ms_rf a i.toNatClampNeg)
def ms_ast (σ : MsSt) (a : Nat) (i x : Int32) : Option MsSt := if i < 0 ∨ ms_ln a ≤ i.toNatClampNeg then none else some (ms_si σ a i.toNatClampNeg x)
def ms_asj (σ : MsSt) (a : Nat) (i : Int32) (x : Int64) : Option MsSt := if i < 0 ∨ ms_ln a ≤ i.toNatClampNeg then none else some (ms_sj σ a i.toNatClampNeg x)
def ms_asd (σ : MsSt) (a : Nat) (i : Int32) (x : UInt64) : Option MsSt := if i < 0 ∨ ms_ln a ≤ i.toNatClampNeg then none else some (ms_sd σ a i.toNatClampNeg x)
theorem ms_if_s {γ : Type} {P : Prop} [Decidable P] {v : γ} {f : γ → Option α} {r : α} (h : (if P then none else some v).bind f = some r) : ¬ P ∧ f v = some r := by
  by_cases hy : P
  · rw [if_pos hy] at h; cases h
  · rw [if_neg hy] at h; exact ⟨hy, h⟩
theorem tr_ald {a : Nat} {i : Int32} {f : Int32 → Option α} (hk : ms_kd a = 20) (hd : decode M.2.1 pc = .ok (.iaload, 1)) (kk : ∀ v, TrO G M d mc ms cu su κ (pc + 1) lv (.int v :: rest) σ (f v)) : TrO G M d mc ms cu su κ pc lv (.int i :: .ref a :: rest) σ ((ms_ald σ a i).bind f) := by
  intro r hr p e R s m args below meth c H locs cells slots ls X hR hc hs hP hL hl
  obtain ⟨hin, hr⟩ := ms_if_s hr
  have ha := hP.arr (ak := 0) hk
  refine W.iald (v := .int (ms_i σ a i.toNatClampNeg)) X.1 X.2.1 ha (X.2.2.2.2.2.2.1.2.2.1 0 (by omega) _ _) (fun q => by cases q) (by rw [arrV_size]; exact hin) (by rw [arrV_read _ _ (Nat.not_le.mp fun q => hin (Or.inr q))]; rfl) rfl rfl hd (kk _ r hr p e R s m args below meth c H locs cells slots ls X hR hc hs hP hL hl)
theorem tr_bld {a : Nat} {i : Int32} {f : Int32 → Option α} (hk : ms_kd a = 21) (hd : decode M.2.1 pc = .ok (.baload, 1)) (kk : ∀ v, TrO G M d mc ms cu su κ (pc + 1) lv (.int v :: rest) σ (f v)) : TrO G M d mc ms cu su κ pc lv (.int i :: .ref a :: rest) σ ((ms_ald σ a i).bind f) := by
  intro r hr p e R s m args below meth c H locs cells slots ls X hR hc hs hP hL hl
  obtain ⟨hin, hr⟩ := ms_if_s hr
  have ha := hP.arr (ak := 1) hk
  refine W.bald (v := .int (ms_i σ a i.toNatClampNeg)) X.1 X.2.1 ha (X.2.2.2.2.2.2.1.2.2.1 1 (by omega) _ _) (fun q => by cases q) (by rw [arrV_size]; exact hin) (by rw [arrV_read _ _ (Nat.not_le.mp fun q => hin (Or.inr q))]; rfl) rfl rfl hd (kk _ r hr p e R s m args below meth c H locs cells slots ls X hR hc hs hP hL hl)
theorem tr_alj {a : Nat} {i : Int32} {f : Int64 → Option α} (hk : ms_kd a = 22) (hd : decode M.2.1 pc = .ok (.laload, 1)) (kk : ∀ v, TrO G M d mc ms cu su κ (pc + 1) lv (.long v :: rest) σ (f v)) : TrO G M d mc ms cu su κ pc lv (.int i :: .ref a :: rest) σ ((ms_alj σ a i).bind f) := by
  intro r hr p e R s m args below meth c H locs cells slots ls X hR hc hs hP hL hl
  obtain ⟨hin, hr⟩ := ms_if_s hr
  have ha := hP.arr (ak := 2) hk
  refine W.lald (v := .long (ms_j σ a i.toNatClampNeg)) X.1 X.2.1 ha (X.2.2.2.2.2.2.1.2.2.1 2 (by omega) _ _) (fun q => by cases q) (by rw [arrV_size]; exact hin) (by rw [arrV_read _ _ (Nat.not_le.mp fun q => hin (Or.inr q))]; rfl) rfl rfl hd (kk _ r hr p e R s m args below meth c H locs cells slots ls X hR hc hs hP hL hl)
theorem tr_aldd {a : Nat} {i : Int32} {f : UInt64 → Option α} (hk : ms_kd a = 23) (hd : decode M.2.1 pc = .ok (.daload, 1)) (kk : ∀ v, TrO G M d mc ms cu su κ (pc + 1) lv (.double v :: rest) σ (f v)) : TrO G M d mc ms cu su κ pc lv (.int i :: .ref a :: rest) σ ((ms_aldd σ a i).bind f) := by
  intro r hr p e R s m args below meth c H locs cells slots ls X hR hc hs hP hL hl
  obtain ⟨hin, hr⟩ := ms_if_s hr
  have ha := hP.arr (ak := 3) hk
  refine W.dald (v := .double (ms_d σ a i.toNatClampNeg)) X.1 X.2.1 ha (X.2.2.2.2.2.2.1.2.2.1 3 (by omega) _ _) (fun q => by cases q) (by rw [arrV_size]; exact hin) (by rw [arrV_read _ _ (Nat.not_le.mp fun q => hin (Or.inr q))]; rfl) rfl rfl hd (kk _ r hr p e R s m args below meth c H locs cells slots ls X hR hc hs hP hL hl)
theorem tr_ala {a : Nat} {i : Int32} {f : Nat → Option α} (ak : Nat) (hk : ms_kd a = ak + 20) (h4 : 4 ≤ ak) (h8 : ak < 8) (hd : decode M.2.1 pc = .ok (.aaload, 1)) (kk : ∀ v, ms_ala a i = some v → TrO G M d mc ms cu su κ (pc + 1) lv (.ref v :: rest) σ (f v)) : TrO G M d mc ms cu su κ pc lv (.int i :: .ref a :: rest) σ ((ms_ala a i).bind f) := by
  intro r hr p e R s m args below meth c H locs cells slots ls X hR hc hs hP hL hl
  obtain ⟨hin, hr⟩ := ms_if_s hr
  have ha := hP.arr hk
  have ht : (ms_akty ak).isReference = true := by
    have : ∀ k, k < 8 → 4 ≤ k → (ms_akty k).isReference = true := by decide +kernel
    exact this ak h8 h4
  refine W.aald (v := .ref (ms_ad G (ms_rf a i.toNatClampNeg))) X.1 X.2.1 ha (X.2.2.2.2.2.2.1.2.2.1 ak h8 _ _) ht (fun q => by cases q) (by rw [arrV_size]; exact hin) (by rw [arrV_read _ _ (Nat.not_le.mp fun q => hin (Or.inr q))]; unfold ms_av; rw [if_neg (by omega), if_neg (by omega), if_neg (by omega)]) rfl rfl hd (kk _ (by unfold ms_ala; rw [if_neg hin]) r hr p e R s m args below meth c H locs cells slots ls X hR hc hs hP hL hl)
theorem tr_len {a : Nat} (ak : Nat) (hk : ms_kd a = ak + 20) (h8 : ak < 8) (hd : decode M.2.1 pc = .ok (.arraylength, 1)) (kk : TrO G M d mc ms cu su κ (pc + 1) lv (.int (Int32.ofNat (ms_ln a)) :: rest) σ o) : TrO G M d mc ms cu su κ pc lv (.ref a :: rest) σ o := by
  intro r hr p e R s m args below meth c H locs cells slots ls X hR hc hs hP hL hl
  have ha := hP.arr hk
  exact W.alen (n := Int32.ofNat (ms_ln a)) X.1 X.2.1 ha (X.2.2.2.2.2.2.1.2.2.1 ak h8 _ _) (by rw [arrV_size] <;> rfl) rfl rfl hd (kk r hr p e R s m args below meth c H locs cells slots ls X hR hc hs hP hL hl)
theorem ms_arr_upd {σ' : MsSt} {H H' : Heap} {a ak j : Nat} {v : Value} (hP : ms_rep G σ H) (hk : ms_kd a = ak + 20) (e1 : H'[ms_ad G a]? = some ((arrV (g_A G ak) (ms_ln a) (ms_av G σ a ak)).setSlot j v)) (e2 : H'.size = H.size) (e3 : ∀ q, q ≠ ms_ad G a → H'[q]? = H[q]?) (hv : ∀ k, (if k = j then v else ms_av G σ a ak k) = ms_av G σ' a ak k)
    (h1 : ∀ b k, b ≠ a → ms_i σ' b k = ms_i σ b k) (h2 : ∀ b k, b ≠ a → ms_j σ' b k = ms_j σ b k) (h3 : ∀ b k, b ≠ a → ms_d σ' b k = ms_d σ b k) : ms_rep G σ' H' := by
  have ha : a < 519 := ms_kd_lt (by omega)
  refine hP.upd ha ⟨fun c2 hc2 hc3 => by omega, fun ak2 hak => ?_⟩ e2 e3 h1 h2 h3
  have hh : ak2 = ak := by omega
  subst hh
  unfold ms_ar
  rw [e1, arrV_store]
  congr 2
  funext k
  exact hv k
theorem tr_ast {a : Nat} {i x : Int32} {f : MsSt → Option α} (hk : ms_kd a = 20) (hd : decode M.2.1 pc = .ok (.iastore, 1)) (kk : ∀ σ', TrO G M d mc ms cu su κ (pc + 1) lv rest σ' (f σ')) : TrO G M d mc ms cu su κ pc lv (.int x :: .int i :: .ref a :: rest) σ ((ms_ast σ a i x).bind f) := by
  intro r hr p e R s m args below meth c H locs cells slots ls X hR hc hs hP hL hl
  obtain ⟨hin, hr⟩ := ms_if_s hr
  have ha := hP.arr (ak := 0) hk
  refine W.iast X.1 X.2.1 ha (X.2.2.2.2.2.2.1.2.2.1 0 (by omega) _ _) (fun q => by cases q) (by rw [arrV_size]; exact hin) rfl rfl hd fun H' e1 e2 e3 => ?_
  refine kk _ r hr p e R s m args below meth c H' _ cells slots ls X hR hc hs (ms_arr_upd hP (ak := 0) hk e1 e2 e3 (fun k => ?_) (fun b k hb => ms_up_ne _ _ (Or.inl hb)) (fun b k hb => rfl) (fun b k hb => rfl)) (ms_base hL (ms_kd_lt (by omega))) hl
  show (if k = _ then Value.int x else Value.int (σ.1 a k)) = Value.int (ms_up σ.1 a i.toNatClampNeg x a k)
  by_cases hj : k = i.toNatClampNeg
  · rw [if_pos hj, hj, ms_up_same]
  · rw [if_neg hj, ms_up_ne _ _ (Or.inr hj)]
theorem tr_bst {a : Nat} {i x : Int32} {f : MsSt → Option α} (hk : ms_kd a = 21) (hd : decode M.2.1 pc = .ok (.bastore, 1)) (kk : ∀ σ', TrO G M d mc ms cu su κ (pc + 1) lv rest σ' (f σ')) : TrO G M d mc ms cu su κ pc lv (.int x :: .int i :: .ref a :: rest) σ ((ms_ast σ a i x.toInt8.toInt32).bind f) := by
  intro r hr p e R s m args below meth c H locs cells slots ls X hR hc hs hP hL hl
  obtain ⟨hin, hr⟩ := ms_if_s hr
  have ha := hP.arr (ak := 1) hk
  refine W.bast X.1 X.2.1 ha (X.2.2.2.2.2.2.1.2.2.1 1 (by omega) _ _) (fun q => by cases q) (by rw [arrV_size]; exact hin) rfl rfl hd fun H' e1 e2 e3 => ?_
  refine kk _ r hr p e R s m args below meth c H' _ cells slots ls X hR hc hs (ms_arr_upd hP (ak := 1) hk e1 e2 e3 (fun k => ?_) (fun b k hb => ms_up_ne _ _ (Or.inl hb)) (fun b k hb => rfl) (fun b k hb => rfl)) (ms_base hL (ms_kd_lt (by omega))) hl
  show (if k = _ then narrow .byte (Value.int x) else Value.int (σ.1 a k)) = Value.int (ms_up σ.1 a i.toNatClampNeg x.toInt8.toInt32 a k)
  by_cases hj : k = i.toNatClampNeg
  · rw [if_pos hj, hj, ms_up_same]
    rfl
  · rw [if_neg hj, ms_up_ne _ _ (Or.inr hj)]
theorem tr_asj {a : Nat} {i : Int32} {x : Int64} {f : MsSt → Option α} (hk : ms_kd a = 22) (hd : decode M.2.1 pc = .ok (.lastore, 1)) (kk : ∀ σ', TrO G M d mc ms cu su κ (pc + 1) lv rest σ' (f σ')) : TrO G M d mc ms cu su κ pc lv (.long x :: .int i :: .ref a :: rest) σ ((ms_asj σ a i x).bind f) := by
  intro r hr p e R s m args below meth c H locs cells slots ls X hR hc hs hP hL hl
  obtain ⟨hin, hr⟩ := ms_if_s hr
  have ha := hP.arr (ak := 2) hk
  refine W.last X.1 X.2.1 ha (X.2.2.2.2.2.2.1.2.2.1 2 (by omega) _ _) (fun q => by cases q) (by rw [arrV_size]; exact hin) rfl rfl hd fun H' e1 e2 e3 => ?_
  refine kk _ r hr p e R s m args below meth c H' _ cells slots ls X hR hc hs (ms_arr_upd hP (ak := 2) hk e1 e2 e3 (fun k => ?_) (fun b k hb => rfl) (fun b k hb => ms_up_ne _ _ (Or.inl hb)) (fun b k hb => rfl)) (ms_base hL (ms_kd_lt (by omega))) hl
  show (if k = _ then Value.long x else Value.long (σ.2.1 a k)) = Value.long (ms_up σ.2.1 a i.toNatClampNeg x a k)
  by_cases hj : k = i.toNatClampNeg
  · rw [if_pos hj, hj, ms_up_same]
  · rw [if_neg hj, ms_up_ne _ _ (Or.inr hj)]
theorem tr_asd {a : Nat} {i : Int32} {x : UInt64} {f : MsSt → Option α} (hk : ms_kd a = 23) (hd : decode M.2.1 pc = .ok (.dastore, 1)) (kk : ∀ σ', TrO G M d mc ms cu su κ (pc + 1) lv rest σ' (f σ')) : TrO G M d mc ms cu su κ pc lv (.double x :: .int i :: .ref a :: rest) σ ((ms_asd σ a i x).bind f) := by
  intro r hr p e R s m args below meth c H locs cells slots ls X hR hc hs hP hL hl
  obtain ⟨hin, hr⟩ := ms_if_s hr
  have ha := hP.arr (ak := 3) hk
  refine W.dast X.1 X.2.1 ha (X.2.2.2.2.2.2.1.2.2.1 3 (by omega) _ _) (fun q => by cases q) (by rw [arrV_size]; exact hin) rfl rfl hd fun H' e1 e2 e3 => ?_
  refine kk _ r hr p e R s m args below meth c H' _ cells slots ls X hR hc hs (ms_arr_upd hP (ak := 3) hk e1 e2 e3 (fun k => ?_) (fun b k hb => rfl) (fun b k hb => rfl) (fun b k hb => ms_up_ne _ _ (Or.inl hb))) (ms_base hL (ms_kd_lt (by omega))) hl
  show (if k = _ then Value.double x else Value.double (σ.2.2 a k)) = Value.double (ms_up σ.2.2 a i.toNatClampNeg x a k)
  by_cases hj : k = i.toNatClampNeg
  · rw [if_pos hj, hj, ms_up_same]
  · rw [if_neg hj, ms_up_ne _ _ (Or.inr hj)]
end MsTail

