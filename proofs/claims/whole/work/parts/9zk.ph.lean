/-! what the long numbers and doubles hold does not matter: printed by ph.py -/
section Ph
variable {σ : MsSt} {x : (Nat → Nat → Int64) × (Nat → Nat → UInt64)}
def ph (x : (Nat → Nat → Int64) × (Nat → Nat → UInt64)) (σ : MsSt) : MsSt := (σ.1, x)
theorem ph_i (a k : Nat) : ms_i (ph x σ) a k = ms_i σ a k := rfl
theorem ph_si (a k : Nat) (v : Int32) : ms_si (ph x σ) a k v = ph x (ms_si σ a k v) := rfl
theorem ph_ald (a : Nat) (i : Int32) : ms_ald (ph x σ) a i = ms_ald σ a i := rfl
theorem ph_ast (a : Nat) (i v : Int32) : ms_ast (ph x σ) a i v = (ms_ast σ a i v).map (ph x) := by
  unfold ms_ast
  split <;> rfl
theorem ph_b {α : Type} {o : Option MsSt} {f : MsSt → Option α} : (o.map (ph x)).bind f = o.bind fun s => f (ph x s) := by cases o <;> rfl
theorem ph_m {α β γ : Type} {o : Option α} {f : α → Option β} {g : β → γ} : (o.bind f).map g = o.bind fun s => (f s).map g := by cases o <;> rfl
theorem ph_if {α β : Type} {c : Prop} [Decidable c] {a b : Option α} {g : α → β} : (if c then a else b).map g = if c then a.map g else b.map g := by split <;> rfl
theorem ph_b2 {α β : Type} {o : Option (β × MsSt)} {f : β → MsSt → Option α} : ms_b2 (o.map fun p => (p.1, ph x p.2)) f = ms_b2 o fun v s => f v (ph x s) := by cases o <;> rfl
theorem ph_b2m {α β γ δ : Type} {o : Option (β × γ)} {f : β → γ → Option α} {g : α → δ} : (ms_b2 o f).map g = ms_b2 o fun v s => (f v s).map g := by cases o <;> rfl
theorem ph_nm {α : Type} {s : MsSt} {f : MsSt → Option α} : ms_nm (ph x s) f = ms_nm s fun s => f (ph x s) := rfl
theorem ph_nmm {α β δ : Type} {v : β} {f : β → Option α} {g : α → δ} : (ms_nm v f).map g = ms_nm v fun s => (f s).map g := rfl
theorem ph_i' (a k : Nat) : ms_i (ph x σ) a k = ms_i σ a k := Eq.trans rfl rfl
theorem ph_si' (a k : Nat) (v : Int32) : ms_si (ph x σ) a k v = ph x (ms_si σ a k v) := Eq.trans rfl rfl
theorem ph_ald' (a : Nat) (i : Int32) : ms_ald (ph x σ) a i = ms_ald σ a i := Eq.trans rfl rfl
theorem ph_nm' {α : Type} {s : MsSt} {f : MsSt → Option α} : ms_nm (ph x s) f = ms_nm s fun s => f (ph x s) := Eq.trans rfl rfl
theorem ph_nmm' {α β δ : Type} {v : β} {f : β → Option α} {g : α → δ} : (ms_nm v f).map g = ms_nm v fun s => (f s).map g := Eq.trans rfl rfl
theorem ph_thrown (l0 : Nat) : f_X12_thrown (ph x σ) l0 = f_X12_thrown σ l0 := by
  unfold f_X12_thrown
  simp -failIfUnchanged only [ph_i, ph_ald]
  all_goals rfl
theorem ph_raise (l0 : Nat) (l1 : Int32) : f_X12_raise (ph x σ) l0 l1 = (f_X12_raise σ l0 l1).map (fun p => (p.1, ph x p.2)) := by
  unfold f_X12_raise
  simp -failIfUnchanged only [ph_i, ph_si, ph_ald, ph_ast, ph_b, ph_m, ph_if, ph_b2, ph_b2m, ph_nm, ph_nmm, Option.map_some, Option.map_none]
  all_goals rfl
theorem ph_inRange (l0 : Int64) (l2 : Int64) (l4 : Int64) : f_X12_inRange (ph x σ) l0 l2 l4 = f_X12_inRange σ l0 l2 l4 := by
  unfold f_X12_inRange
  simp -failIfUnchanged only [ph_i, ph_ald]
  all_goals rfl
theorem ph_of (l0 : Int32) (l1 : Int32) : f_X12_of (ph x σ) l0 l1 = f_X12_of σ l0 l1 := by
  unfold f_X12_of
  simp -failIfUnchanged only [ph_i, ph_ald]
  all_goals rfl
theorem ph_spot (l0 : Int32) (l1 : Int32) : f_X12_spot (ph x σ) l0 l1 = f_X12_spot σ l0 l1 := by
  unfold f_X12_spot
  simp -failIfUnchanged only [ph_i, ph_ald]
  all_goals rfl
theorem ph_isSign (l0 : Nat) (l1 : Int32) : f_X12_isSign (ph x σ) l0 l1 = f_X12_isSign σ l0 l1 := by
  unfold f_X12_isSign
  simp -failIfUnchanged only [ph_i, ph_ald, ph_inRange]
  all_goals rfl
theorem ph_isOfKind (l0 : Nat) (l1 : Int32) (l2 : Int32) : f_X12_isOfKind (ph x σ) l0 l1 l2 = f_X12_isOfKind σ l0 l1 l2 := by
  unfold f_X12_isOfKind
  simp -failIfUnchanged only [ph_i, ph_ald, ph_of]
  all_goals rfl
theorem ph_isLine (l0 : Nat) (l1 : Int32) : f_X12_isLine (ph x σ) l0 l1 = f_X12_isLine σ l0 l1 := by
  unfold f_X12_isLine
  simp -failIfUnchanged only [ph_i, ph_ald, ph_inRange]
  all_goals rfl
theorem ph_isPlace (l0 : Nat) (l1 : Int32) (l2 : Int32) : f_X12_isPlace (ph x σ) l0 l1 l2 = f_X12_isPlace σ l0 l1 l2 := by
  unfold f_X12_isPlace
  simp -failIfUnchanged only [ph_i, ph_ald, ph_isLine, ph_inRange]
  all_goals rfl
theorem ph_noLine (l0 : Nat) (l1 : Int32) : f_X12_noLine (ph x σ) l0 l1 = (f_X12_noLine σ l0 l1).map (fun p => (p.1, ph x p.2)) := by
  unfold f_X12_noLine
  simp -failIfUnchanged only [ph_i, ph_si, ph_ald, ph_ast, ph_b, ph_m, ph_if, ph_b2, ph_b2m, ph_nm, ph_nmm, Option.map_some, Option.map_none, ph_isLine]
  all_goals rfl
theorem ph_noSign (l0 : Nat) (l1 : Int32) : f_X12_noSign (ph x σ) l0 l1 = (f_X12_noSign σ l0 l1).map (fun p => (p.1, ph x p.2)) := by
  unfold f_X12_noSign
  simp -failIfUnchanged only [ph_i, ph_si, ph_ald, ph_ast, ph_b, ph_m, ph_if, ph_b2, ph_b2m, ph_nm, ph_nmm, Option.map_some, Option.map_none, ph_isSign]
  all_goals rfl
theorem ph_noTwoLines_21 (l0 : Nat) (t0 : Nat) : f_X12_noTwoLines_21 (ph x σ) l0 t0 = (f_X12_noTwoLines_21 σ l0 t0).map (fun p => (p.1, ph x p.2)) := by
  unfold f_X12_noTwoLines_21
  simp -failIfUnchanged only [ph_i, ph_si, ph_ald, ph_ast, ph_b, ph_m, ph_if, ph_b2, ph_b2m, ph_nm, ph_nmm, Option.map_some, Option.map_none]
  all_goals rfl
theorem ph_noTwoLines (l0 : Nat) (l1 : Int32) (l2 : Int32) : f_X12_noTwoLines (ph x σ) l0 l1 l2 = (f_X12_noTwoLines σ l0 l1 l2).map (fun p => (p.1, ph x p.2)) := by
  unfold f_X12_noTwoLines
  simp -failIfUnchanged only [ph_i, ph_si, ph_ald, ph_ast, ph_b, ph_m, ph_if, ph_b2, ph_b2m, ph_nm, ph_nmm, Option.map_some, Option.map_none, ph_isLine, ph_noTwoLines_21]
  all_goals rfl
theorem ph_parts_4  : ∀ n : Nat, f_X12_parts_4 (ph x σ) n = f_X12_parts_4 σ n := by
  intro n
  induction n with
  | zero => funext y0 y1 y2; rfl
  | succ n ih =>
    funext y0 y1 y2
    simp -failIfUnchanged only [f_X12_parts_4, ph_i, ph_ald, ph_of, ih]
    all_goals rfl
theorem ph_parts (l0 : Nat) (l1 : Int32) : f_X12_parts (ph x σ) l0 l1 = f_X12_parts σ l0 l1 := by
  unfold f_X12_parts
  simp -failIfUnchanged only [ph_i, ph_ald, ph_parts_4]
  all_goals rfl
theorem ph_expand_16  : ∀ (n : Nat) (σ : MsSt) (y2 : Nat) (y3 : Int32) (y4 : Int32) (y5 : Int32), f_X12_expand_16  n (ph x σ) y2 y3 y4 y5 = (f_X12_expand_16  n σ y2 y3 y4 y5).map (fun p => (p.1, ph x p.2)) := by
  intro n
  induction n with
  | zero => intros; rfl
  | succ n ih =>
    intros
    simp -failIfUnchanged only [f_X12_expand_16, ph_i, ph_si, ph_ald, ph_ast, ph_b, ph_m, ph_if, ph_b2, ph_b2m, ph_nm, ph_nmm, Option.map_some, Option.map_none, ph_of, ih]
    all_goals rfl
theorem ph_expand (l0 : Nat) (l1 : Int32) : f_X12_expand (ph x σ) l0 l1 = (f_X12_expand σ l0 l1).map (fun p => (p.1, ph x p.2)) := by
  unfold f_X12_expand
  simp -failIfUnchanged only [ph_i, ph_si, ph_ald, ph_ast, ph_b, ph_m, ph_if, ph_b2, ph_b2m, ph_nm, ph_nmm, Option.map_some, Option.map_none, ph_parts, ph_expand_16]
  all_goals rfl
theorem ph_isMark (l0 : Nat) (l1 : Int32) : f_X12_isMark (ph x σ) l0 l1 = f_X12_isMark σ l0 l1 := by
  unfold f_X12_isMark
  simp -failIfUnchanged only [ph_i, ph_ald, ph_isOfKind]
  all_goals rfl
theorem ph_add_92 (l0 : Nat) (l1 : Int32) (l2 : Int32) : f_X12_add_92 (ph x σ) l0 l1 l2 = (f_X12_add_92 σ l0 l1 l2).map (ph x) := by
  unfold f_X12_add_92
  simp -failIfUnchanged only [ph_i, ph_si, ph_ald, ph_ast, ph_b, ph_m, ph_if, ph_b2, ph_b2m, ph_nm, ph_nmm, Option.map_some, Option.map_none]
  all_goals rfl
theorem ph_add_5  : ∀ (n : Nat) (σ : MsSt) (y2 : Nat) (y3 : Int32) (y4 : Int32), f_X12_add_5  n (ph x σ) y2 y3 y4 = (f_X12_add_5  n σ y2 y3 y4).map (ph x) := by
  intro n
  induction n with
  | zero => intros; rfl
  | succ n ih =>
    intros
    simp -failIfUnchanged only [f_X12_add_5, ph_i, ph_si, ph_ald, ph_ast, ph_b, ph_m, ph_if, ph_b2, ph_b2m, ph_nm, ph_nmm, Option.map_some, Option.map_none, ph_isMark, ph_add_92, ph_of, ih]
    all_goals rfl
theorem ph_add (l0 : Nat) (l1 : Int32) : f_X12_add (ph x σ) l0 l1 = (f_X12_add σ l0 l1).map (ph x) := by
  unfold f_X12_add
  simp -failIfUnchanged only [ph_i, ph_si, ph_ald, ph_ast, ph_b, ph_m, ph_if, ph_b2, ph_b2m, ph_nm, ph_nmm, Option.map_some, Option.map_none, ph_add_5]
  all_goals rfl
theorem ph_addExpanded_8  : ∀ (n : Nat) (σ : MsSt) (y2 : Nat) (y3 : Int32) (y4 : Int32), f_X12_addExpanded_8  n (ph x σ) y2 y3 y4 = (f_X12_addExpanded_8  n σ y2 y3 y4).map (ph x) := by
  intro n
  induction n with
  | zero => intros; rfl
  | succ n ih =>
    intros
    simp -failIfUnchanged only [f_X12_addExpanded_8, ph_i, ph_si, ph_ald, ph_ast, ph_b, ph_m, ph_if, ph_b2, ph_b2m, ph_nm, ph_nmm, Option.map_some, Option.map_none, ph_add, ih]
    all_goals rfl
theorem ph_addExpanded (l0 : Nat) (l1 : Int32) : f_X12_addExpanded (ph x σ) l0 l1 = (f_X12_addExpanded σ l0 l1).map (ph x) := by
  unfold f_X12_addExpanded
  simp -failIfUnchanged only [ph_i, ph_si, ph_ald, ph_ast, ph_b, ph_m, ph_if, ph_b2, ph_b2m, ph_nm, ph_nmm, Option.map_some, Option.map_none, ph_expand, ph_addExpanded_8]
  all_goals rfl
theorem ph_layDecomposed_12  : ∀ (n : Nat) (σ : MsSt) (y2 : Nat) (y3 : Int32) (y4 : Int32), f_X12_layDecomposed_12  n (ph x σ) y2 y3 y4 = (f_X12_layDecomposed_12  n σ y2 y3 y4).map (ph x) := by
  intro n
  induction n with
  | zero => intros; rfl
  | succ n ih =>
    intros
    simp -failIfUnchanged only [f_X12_layDecomposed_12, ph_i, ph_si, ph_ald, ph_ast, ph_b, ph_m, ph_if, ph_b2, ph_b2m, ph_nm, ph_nmm, Option.map_some, Option.map_none, ph_spot, ph_addExpanded, ih]
    all_goals rfl
theorem ph_layDecomposed (l0 : Nat) (l1 : Int32) : f_X12_layDecomposed (ph x σ) l0 l1 = (f_X12_layDecomposed σ l0 l1).map (ph x) := by
  unfold f_X12_layDecomposed
  simp -failIfUnchanged only [ph_i, ph_si, ph_ald, ph_ast, ph_b, ph_m, ph_if, ph_b2, ph_b2m, ph_nm, ph_nmm, Option.map_some, Option.map_none, ph_layDecomposed_12]
  all_goals rfl
theorem ph_findPair_2  : ∀ n : Nat, f_X12_findPair_2 (ph x σ) n = f_X12_findPair_2 σ n := by
  intro n
  induction n with
  | zero => funext y0 y1 y2 y3; rfl
  | succ n ih =>
    funext y0 y1 y2 y3
    simp -failIfUnchanged only [f_X12_findPair_2, ph_i, ph_ald, ph_of, ih]
    all_goals rfl
theorem ph_findPair (l0 : Nat) (l1 : Int32) (l2 : Int32) : f_X12_findPair (ph x σ) l0 l1 l2 = f_X12_findPair σ l0 l1 l2 := by
  unfold f_X12_findPair
  simp -failIfUnchanged only [ph_i, ph_ald, ph_findPair_2]
  all_goals rfl
theorem ph_layComposed_198 (k14 : MsSt → Nat → Int32 → Int32 → Int64 → Int32 → Option (MsSt)) (l0 : Nat) (l2 : Int32) (l3 : Int64) (l5 : Int32) (l6 : Int32) (t0 : Int32) (hk14 : ∀ (y0 : MsSt) (y1 : Nat) (y2 : Int32) (y3 : Int32) (y4 : Int64) (y5 : Int32), k14 (ph x y0) y1 y2 y3 y4 y5 = (k14 y0 y1 y2 y3 y4 y5).map (ph x)) : f_X12_layComposed_198 k14 (ph x σ) l0 l2 l3 l5 l6 t0 = (f_X12_layComposed_198 k14 σ l0 l2 l3 l5 l6 t0).map (ph x) := by
  unfold f_X12_layComposed_198
  simp -failIfUnchanged only [ph_i, ph_si, ph_ald, ph_ast, ph_b, ph_m, ph_if, ph_b2, ph_b2m, ph_nm, ph_nmm, Option.map_some, Option.map_none, hk14]
  all_goals rfl
theorem ph_layComposed_184 (k14 : MsSt → Nat → Int32 → Int32 → Int64 → Int32 → Option (MsSt)) (l0 : Nat) (l1 : Int32) (l2 : Int32) (l5 : Int32) (l6 : Int32) (l7 : Int32) (t0 : Int64) (hk14 : ∀ (y0 : MsSt) (y1 : Nat) (y2 : Int32) (y3 : Int32) (y4 : Int64) (y5 : Int32), k14 (ph x y0) y1 y2 y3 y4 y5 = (k14 y0 y1 y2 y3 y4 y5).map (ph x)) : f_X12_layComposed_184 k14 (ph x σ) l0 l1 l2 l5 l6 l7 t0 = (f_X12_layComposed_184 k14 σ l0 l1 l2 l5 l6 l7 t0).map (ph x) := by
  unfold f_X12_layComposed_184
  simp -failIfUnchanged only [ph_i, ph_si, ph_ald, ph_ast, ph_b, ph_m, ph_if, ph_b2, ph_b2m, ph_nm, ph_nmm, Option.map_some, Option.map_none, ph_layComposed_198 (hk14 := hk14), hk14]
  all_goals rfl
theorem ph_layComposed_159 (k14 : MsSt → Nat → Int32 → Int32 → Int64 → Int32 → Option (MsSt)) (l0 : Nat) (l1 : Int32) (l3 : Int64) (l5 : Int32) (l6 : Int32) (l7 : Int32) (t0 : Int32) (hk14 : ∀ (y0 : MsSt) (y1 : Nat) (y2 : Int32) (y3 : Int32) (y4 : Int64) (y5 : Int32), k14 (ph x y0) y1 y2 y3 y4 y5 = (k14 y0 y1 y2 y3 y4 y5).map (ph x)) : f_X12_layComposed_159 k14 (ph x σ) l0 l1 l3 l5 l6 l7 t0 = (f_X12_layComposed_159 k14 σ l0 l1 l3 l5 l6 l7 t0).map (ph x) := by
  unfold f_X12_layComposed_159
  simp -failIfUnchanged only [ph_i, ph_si, ph_ald, ph_ast, ph_b, ph_m, ph_if, ph_b2, ph_b2m, ph_nm, ph_nmm, Option.map_some, Option.map_none, ph_of, ph_layComposed_184 (hk14 := hk14), hk14]
  all_goals rfl
theorem ph_layComposed_152 (k14 : MsSt → Nat → Int32 → Int32 → Int64 → Int32 → Option (MsSt)) (l0 : Nat) (l1 : Int32) (l2 : Int32) (l3 : Int64) (l5 : Int32) (l6 : Int32) (l7 : Int32) (hk14 : ∀ (y0 : MsSt) (y1 : Nat) (y2 : Int32) (y3 : Int32) (y4 : Int64) (y5 : Int32), k14 (ph x y0) y1 y2 y3 y4 y5 = (k14 y0 y1 y2 y3 y4 y5).map (ph x)) : f_X12_layComposed_152 k14 (ph x σ) l0 l1 l2 l3 l5 l6 l7 = (f_X12_layComposed_152 k14 σ l0 l1 l2 l3 l5 l6 l7).map (ph x) := by
  unfold f_X12_layComposed_152
  simp -failIfUnchanged only [ph_i, ph_si, ph_ald, ph_ast, ph_b, ph_m, ph_if, ph_b2, ph_b2m, ph_nm, ph_nmm, Option.map_some, Option.map_none, ph_layComposed_159 (hk14 := hk14), hk14]
  all_goals rfl
theorem ph_layComposed_142 (k14 : MsSt → Nat → Int32 → Int32 → Int64 → Int32 → Option (MsSt)) (l0 : Nat) (l1 : Int32) (l2 : Int32) (l3 : Int64) (l5 : Int32) (l6 : Int32) (l7 : Int32) (hk14 : ∀ (y0 : MsSt) (y1 : Nat) (y2 : Int32) (y3 : Int32) (y4 : Int64) (y5 : Int32), k14 (ph x y0) y1 y2 y3 y4 y5 = (k14 y0 y1 y2 y3 y4 y5).map (ph x)) : f_X12_layComposed_142 k14 (ph x σ) l0 l1 l2 l3 l5 l6 l7 = (f_X12_layComposed_142 k14 σ l0 l1 l2 l3 l5 l6 l7).map (ph x) := by
  unfold f_X12_layComposed_142
  simp -failIfUnchanged only [ph_i, ph_si, ph_ald, ph_ast, ph_b, ph_m, ph_if, ph_b2, ph_b2m, ph_nm, ph_nmm, Option.map_some, Option.map_none, ph_layComposed_152 (hk14 := hk14), ph_layComposed_159 (hk14 := hk14), hk14]
  all_goals rfl
theorem ph_layComposed_109 (k14 : MsSt → Nat → Int32 → Int32 → Int64 → Int32 → Option (MsSt)) (l0 : Nat) (l1 : Int32) (l2 : Int32) (l3 : Int64) (l5 : Int32) (l6 : Int32) (l7 : Int32) (t0 : Int32) (hk14 : ∀ (y0 : MsSt) (y1 : Nat) (y2 : Int32) (y3 : Int32) (y4 : Int64) (y5 : Int32), k14 (ph x y0) y1 y2 y3 y4 y5 = (k14 y0 y1 y2 y3 y4 y5).map (ph x)) : f_X12_layComposed_109 k14 (ph x σ) l0 l1 l2 l3 l5 l6 l7 t0 = (f_X12_layComposed_109 k14 σ l0 l1 l2 l3 l5 l6 l7 t0).map (ph x) := by
  unfold f_X12_layComposed_109
  simp -failIfUnchanged only [ph_i, ph_si, ph_ald, ph_ast, ph_b, ph_m, ph_if, ph_b2, ph_b2m, ph_nm, ph_nmm, Option.map_some, Option.map_none, ph_layComposed_142 (hk14 := hk14), ph_of, hk14]
  all_goals rfl
theorem ph_layComposed_83 (k14 : MsSt → Nat → Int32 → Int32 → Int64 → Int32 → Option (MsSt)) (l0 : Nat) (l1 : Int32) (l2 : Int32) (l3 : Int64) (l5 : Int32) (l6 : Int32) (l7 : Int32) (t0 : Int32) (hk14 : ∀ (y0 : MsSt) (y1 : Nat) (y2 : Int32) (y3 : Int32) (y4 : Int64) (y5 : Int32), k14 (ph x y0) y1 y2 y3 y4 y5 = (k14 y0 y1 y2 y3 y4 y5).map (ph x)) : f_X12_layComposed_83 k14 (ph x σ) l0 l1 l2 l3 l5 l6 l7 t0 = (f_X12_layComposed_83 k14 σ l0 l1 l2 l3 l5 l6 l7 t0).map (ph x) := by
  unfold f_X12_layComposed_83
  simp -failIfUnchanged only [ph_i, ph_si, ph_ald, ph_ast, ph_b, ph_m, ph_if, ph_b2, ph_b2m, ph_nm, ph_nmm, Option.map_some, Option.map_none, ph_layComposed_109 (hk14 := hk14), ph_findPair, hk14]
  all_goals rfl
theorem ph_layComposed_82 (k14 : MsSt → Nat → Int32 → Int32 → Int64 → Int32 → Option (MsSt)) (l0 : Nat) (l1 : Int32) (l2 : Int32) (l3 : Int64) (l5 : Int32) (l6 : Int32) (l7 : Int32) (hk14 : ∀ (y0 : MsSt) (y1 : Nat) (y2 : Int32) (y3 : Int32) (y4 : Int64) (y5 : Int32), k14 (ph x y0) y1 y2 y3 y4 y5 = (k14 y0 y1 y2 y3 y4 y5).map (ph x)) : f_X12_layComposed_82 k14 (ph x σ) l0 l1 l2 l3 l5 l6 l7 = (f_X12_layComposed_82 k14 σ l0 l1 l2 l3 l5 l6 l7).map (ph x) := by
  unfold f_X12_layComposed_82
  simp -failIfUnchanged only [ph_i, ph_si, ph_ald, ph_ast, ph_b, ph_m, ph_if, ph_b2, ph_b2m, ph_nm, ph_nmm, Option.map_some, Option.map_none, ph_layComposed_83 (hk14 := hk14), hk14]
  all_goals rfl
theorem ph_layComposed_46 (k14 : MsSt → Nat → Int32 → Int32 → Int64 → Int32 → Option (MsSt)) (l0 : Nat) (l1 : Int32) (l2 : Int32) (l3 : Int64) (l5 : Int32) (l6 : Int32) (t0 : Int32) (hk14 : ∀ (y0 : MsSt) (y1 : Nat) (y2 : Int32) (y3 : Int32) (y4 : Int64) (y5 : Int32), k14 (ph x y0) y1 y2 y3 y4 y5 = (k14 y0 y1 y2 y3 y4 y5).map (ph x)) : f_X12_layComposed_46 k14 (ph x σ) l0 l1 l2 l3 l5 l6 t0 = (f_X12_layComposed_46 k14 σ l0 l1 l2 l3 l5 l6 t0).map (ph x) := by
  unfold f_X12_layComposed_46
  simp -failIfUnchanged only [ph_i, ph_si, ph_ald, ph_ast, ph_b, ph_m, ph_if, ph_b2, ph_b2m, ph_nm, ph_nmm, Option.map_some, Option.map_none, ph_layComposed_82 (hk14 := hk14), ph_of, ph_layComposed_83 (hk14 := hk14), hk14]
  all_goals rfl
theorem ph_layComposed_14  : ∀ (n : Nat) (σ : MsSt) (y2 : Nat) (y3 : Int32) (y4 : Int32) (y5 : Int64) (y6 : Int32), f_X12_layComposed_14  n (ph x σ) y2 y3 y4 y5 y6 = (f_X12_layComposed_14  n σ y2 y3 y4 y5 y6).map (ph x) := by
  intro n
  induction n with
  | zero => intros; rfl
  | succ n ih =>
    intros
    simp -failIfUnchanged only [f_X12_layComposed_14, ph_i, ph_si, ph_ald, ph_ast, ph_b, ph_m, ph_if, ph_b2, ph_b2m, ph_nm, ph_nmm, Option.map_some, Option.map_none, ph_isMark, ph_layComposed_46 (hk14 := ih), ih]
    all_goals rfl
theorem ph_layComposed (l0 : Nat) : f_X12_layComposed (ph x σ) l0 = (f_X12_layComposed σ l0).map (ph x) := by
  unfold f_X12_layComposed
  simp -failIfUnchanged only [ph_i, ph_si, ph_ald, ph_ast, ph_b, ph_m, ph_if, ph_b2, ph_b2m, ph_nm, ph_nmm, Option.map_some, Option.map_none, ph_layComposed_14]
  all_goals rfl
theorem ph_layForms (l0 : Nat) (l1 : Int32) : f_X12_layForms (ph x σ) l0 l1 = (f_X12_layForms σ l0 l1).map (ph x) := by
  unfold f_X12_layForms
  simp -failIfUnchanged only [ph_i, ph_si, ph_ald, ph_ast, ph_b, ph_m, ph_if, ph_b2, ph_b2m, ph_nm, ph_nmm, Option.map_some, Option.map_none, ph_layDecomposed, ph_layComposed]
  all_goals rfl
theorem ph_layClusters_37 (k12 : MsSt → Nat → Int32 → Option (MsSt)) (l0 : Nat) (l2 : Int32) (hk12 : ∀ (y0 : MsSt) (y1 : Nat) (y2 : Int32), k12 (ph x y0) y1 y2 = (k12 y0 y1 y2).map (ph x)) : f_X12_layClusters_37 k12 (ph x σ) l0 l2 = (f_X12_layClusters_37 k12 σ l0 l2).map (ph x) := by
  unfold f_X12_layClusters_37
  simp -failIfUnchanged only [ph_i, ph_si, ph_ald, ph_ast, ph_b, ph_m, ph_if, ph_b2, ph_b2m, ph_nm, ph_nmm, Option.map_some, Option.map_none, hk12]
  all_goals rfl
theorem ph_layClusters_12  : ∀ (n : Nat) (σ : MsSt) (y2 : Nat) (y3 : Int32), f_X12_layClusters_12  n (ph x σ) y2 y3 = (f_X12_layClusters_12  n σ y2 y3).map (ph x) := by
  intro n
  induction n with
  | zero => intros; rfl
  | succ n ih =>
    intros
    simp -failIfUnchanged only [f_X12_layClusters_12, ph_i, ph_si, ph_ald, ph_ast, ph_b, ph_m, ph_if, ph_b2, ph_b2m, ph_nm, ph_nmm, Option.map_some, Option.map_none, ph_layClusters_37 (hk12 := ih), ph_isMark, ih]
    all_goals rfl
theorem ph_layClusters (l0 : Nat) (l1 : Int32) : f_X12_layClusters (ph x σ) l0 l1 = (f_X12_layClusters σ l0 l1).map (ph x) := by
  unfold f_X12_layClusters
  simp -failIfUnchanged only [ph_i, ph_si, ph_ald, ph_ast, ph_b, ph_m, ph_if, ph_b2, ph_b2m, ph_nm, ph_nmm, Option.map_some, Option.map_none, ph_layDecomposed, ph_layClusters_12]
  all_goals rfl
theorem ph_baseOf (l0 : Nat) (l1 : Int32) : f_X12_baseOf (ph x σ) l0 l1 = f_X12_baseOf σ l0 l1 := by
  unfold f_X12_baseOf
  simp -failIfUnchanged only [ph_i, ph_ald, ph_isMark]
  all_goals rfl
theorem ph_firstMark (l0 : Nat) (l1 : Int32) : f_X12_firstMark (ph x σ) l0 l1 = f_X12_firstMark σ l0 l1 := by
  unfold f_X12_firstMark
  simp -failIfUnchanged only [ph_i, ph_ald, ph_baseOf]
  all_goals rfl
theorem ph_marksOf (l0 : Nat) (l1 : Int32) : f_X12_marksOf (ph x σ) l0 l1 = f_X12_marksOf σ l0 l1 := by
  unfold f_X12_marksOf
  simp -failIfUnchanged only [ph_i, ph_ald, ph_firstMark]
  all_goals rfl
theorem ph_ofBase (l0 : Nat) (l1 : Int32) (l2 : Int32) : f_X12_ofBase (ph x σ) l0 l1 l2 = f_X12_ofBase σ l0 l1 l2 := by
  unfold f_X12_ofBase
  simp -failIfUnchanged only [ph_i, ph_ald, ph_baseOf, ph_of]
  all_goals rfl
theorem ph_penOf_4  : ∀ n : Nat, f_X12_penOf_4 (ph x σ) n = f_X12_penOf_4 σ n := by
  intro n
  induction n with
  | zero => funext y0 y1 y2 y3; rfl
  | succ n ih =>
    funext y0 y1 y2 y3
    simp -failIfUnchanged only [f_X12_penOf_4, ph_i, ph_ald, ph_ofBase, ih]
    all_goals rfl
theorem ph_penOf (l0 : Nat) (l1 : Int32) : f_X12_penOf (ph x σ) l0 l1 = f_X12_penOf σ l0 l1 := by
  unfold f_X12_penOf
  simp -failIfUnchanged only [ph_i, ph_ald, ph_penOf_4]
  all_goals rfl
theorem ph_isCluster (l0 : Nat) (l1 : Int32) (l2 : Int32) : f_X12_isCluster (ph x σ) l0 l1 l2 = (f_X12_isCluster σ l0 l1 l2).map (fun p => (p.1, ph x p.2)) := by
  unfold f_X12_isCluster
  simp -failIfUnchanged only [ph_i, ph_si, ph_ald, ph_ast, ph_b, ph_m, ph_if, ph_b2, ph_b2m, ph_nm, ph_nmm, Option.map_some, Option.map_none, ph_isLine, ph_layClusters, ph_inRange]
  all_goals rfl
theorem ph_noCluster (l0 : Nat) (l1 : Int32) (l2 : Int32) : f_X12_noCluster (ph x σ) l0 l1 l2 = (f_X12_noCluster σ l0 l1 l2).map (fun p => (p.1, ph x p.2)) := by
  unfold f_X12_noCluster
  simp -failIfUnchanged only [ph_i, ph_si, ph_ald, ph_ast, ph_b, ph_m, ph_if, ph_b2, ph_b2m, ph_nm, ph_nmm, Option.map_some, Option.map_none, ph_isCluster]
  all_goals rfl
theorem ph_layBoxes_220 (k54 : MsSt → Nat → Int32 → Nat → Int32 → Int32 → Int32 → Int32 → Int32 → Option (MsSt)) (l0 : Nat) (l1 : Int32) (l2 : Nat) (l3 : Int32) (l4 : Int32) (l5 : Int32) (l7 : Int32) (l8 : Int32) (l10 : Int32) (l12 : Int32) (l13 : Int32) (t0 : Int32) (hk54 : ∀ (y0 : MsSt) (y1 : Nat) (y2 : Int32) (y3 : Nat) (y4 : Int32) (y5 : Int32) (y6 : Int32) (y7 : Int32) (y8 : Int32), k54 (ph x y0) y1 y2 y3 y4 y5 y6 y7 y8 = (k54 y0 y1 y2 y3 y4 y5 y6 y7 y8).map (ph x)) : f_X12_layBoxes_220 k54 (ph x σ) l0 l1 l2 l3 l4 l5 l7 l8 l10 l12 l13 t0 = (f_X12_layBoxes_220 k54 σ l0 l1 l2 l3 l4 l5 l7 l8 l10 l12 l13 t0).map (ph x) := by
  unfold f_X12_layBoxes_220
  simp -failIfUnchanged only [ph_i, ph_si, ph_ald, ph_ast, ph_b, ph_m, ph_if, ph_b2, ph_b2m, ph_nm, ph_nmm, Option.map_some, Option.map_none, ph_of, hk54]
  all_goals rfl
theorem ph_layBoxes_205 (k54 : MsSt → Nat → Int32 → Nat → Int32 → Int32 → Int32 → Int32 → Int32 → Option (MsSt)) (l0 : Nat) (l1 : Int32) (l2 : Nat) (l3 : Int32) (l4 : Int32) (l6 : Int32) (l7 : Int32) (l8 : Int32) (l9 : Int32) (l10 : Int32) (l12 : Int32) (l13 : Int32) (t0 : Int32) (hk54 : ∀ (y0 : MsSt) (y1 : Nat) (y2 : Int32) (y3 : Nat) (y4 : Int32) (y5 : Int32) (y6 : Int32) (y7 : Int32) (y8 : Int32), k54 (ph x y0) y1 y2 y3 y4 y5 y6 y7 y8 = (k54 y0 y1 y2 y3 y4 y5 y6 y7 y8).map (ph x)) : f_X12_layBoxes_205 k54 (ph x σ) l0 l1 l2 l3 l4 l6 l7 l8 l9 l10 l12 l13 t0 = (f_X12_layBoxes_205 k54 σ l0 l1 l2 l3 l4 l6 l7 l8 l9 l10 l12 l13 t0).map (ph x) := by
  unfold f_X12_layBoxes_205
  simp -failIfUnchanged only [ph_i, ph_si, ph_ald, ph_ast, ph_b, ph_m, ph_if, ph_b2, ph_b2m, ph_nm, ph_nmm, Option.map_some, Option.map_none, ph_layBoxes_220 (hk54 := hk54), hk54]
  all_goals rfl
theorem ph_layBoxes_188 (k54 : MsSt → Nat → Int32 → Nat → Int32 → Int32 → Int32 → Int32 → Int32 → Option (MsSt)) (l0 : Nat) (l1 : Int32) (l2 : Nat) (l3 : Int32) (l4 : Int32) (l5 : Int32) (l6 : Int32) (l7 : Int32) (l8 : Int32) (l9 : Int32) (l10 : Int32) (l12 : Int32) (t0 : Int32) (hk54 : ∀ (y0 : MsSt) (y1 : Nat) (y2 : Int32) (y3 : Nat) (y4 : Int32) (y5 : Int32) (y6 : Int32) (y7 : Int32) (y8 : Int32), k54 (ph x y0) y1 y2 y3 y4 y5 y6 y7 y8 = (k54 y0 y1 y2 y3 y4 y5 y6 y7 y8).map (ph x)) : f_X12_layBoxes_188 k54 (ph x σ) l0 l1 l2 l3 l4 l5 l6 l7 l8 l9 l10 l12 t0 = (f_X12_layBoxes_188 k54 σ l0 l1 l2 l3 l4 l5 l6 l7 l8 l9 l10 l12 t0).map (ph x) := by
  unfold f_X12_layBoxes_188
  simp -failIfUnchanged only [ph_i, ph_si, ph_ald, ph_ast, ph_b, ph_m, ph_if, ph_b2, ph_b2m, ph_nm, ph_nmm, Option.map_some, Option.map_none, ph_layBoxes_205 (hk54 := hk54), hk54]
  all_goals rfl
theorem ph_layBoxes_139 (k54 : MsSt → Nat → Int32 → Nat → Int32 → Int32 → Int32 → Int32 → Int32 → Option (MsSt)) (l0 : Nat) (l1 : Int32) (l2 : Nat) (l3 : Int32) (l4 : Int32) (l5 : Int32) (l6 : Int32) (l7 : Int32) (l8 : Int32) (l9 : Int32) (l10 : Int32) (t0 : Int32) (hk54 : ∀ (y0 : MsSt) (y1 : Nat) (y2 : Int32) (y3 : Nat) (y4 : Int32) (y5 : Int32) (y6 : Int32) (y7 : Int32) (y8 : Int32), k54 (ph x y0) y1 y2 y3 y4 y5 y6 y7 y8 = (k54 y0 y1 y2 y3 y4 y5 y6 y7 y8).map (ph x)) : f_X12_layBoxes_139 k54 (ph x σ) l0 l1 l2 l3 l4 l5 l6 l7 l8 l9 l10 t0 = (f_X12_layBoxes_139 k54 σ l0 l1 l2 l3 l4 l5 l6 l7 l8 l9 l10 t0).map (ph x) := by
  unfold f_X12_layBoxes_139
  simp -failIfUnchanged only [ph_i, ph_si, ph_ald, ph_ast, ph_b, ph_m, ph_if, ph_b2, ph_b2m, ph_nm, ph_nmm, Option.map_some, Option.map_none, ph_of, ph_layBoxes_188 (hk54 := hk54), hk54]
  all_goals rfl
theorem ph_layBoxes_54  : ∀ (n : Nat) (σ : MsSt) (y2 : Nat) (y3 : Int32) (y4 : Nat) (y5 : Int32) (y6 : Int32) (y7 : Int32) (y8 : Int32) (y9 : Int32), f_X12_layBoxes_54  n (ph x σ) y2 y3 y4 y5 y6 y7 y8 y9 = (f_X12_layBoxes_54  n σ y2 y3 y4 y5 y6 y7 y8 y9).map (ph x) := by
  intro n
  induction n with
  | zero => intros; rfl
  | succ n ih =>
    intros
    simp -failIfUnchanged only [f_X12_layBoxes_54, ph_i, ph_si, ph_ald, ph_ast, ph_b, ph_m, ph_if, ph_b2, ph_b2m, ph_nm, ph_nmm, Option.map_some, Option.map_none, ph_firstMark, ph_of, ph_ofBase, ph_layBoxes_139 (hk54 := ih), ih]
    all_goals rfl
theorem ph_layBoxes (l0 : Nat) (l1 : Int32) (l2 : Nat) : f_X12_layBoxes (ph x σ) l0 l1 l2 = (f_X12_layBoxes σ l0 l1 l2).map (ph x) := by
  unfold f_X12_layBoxes
  simp -failIfUnchanged only [ph_i, ph_si, ph_ald, ph_ast, ph_b, ph_m, ph_if, ph_b2, ph_b2m, ph_nm, ph_nmm, Option.map_some, Option.map_none, ph_ofBase, ph_marksOf, ph_layBoxes_54]
  all_goals rfl
theorem ph_doOverlap_61 (l1 : Int32) (l2 : Int32) (l4 : Nat) (l5 : Nat) (t0 : Int32) : f_X12_doOverlap_61 (ph x σ) l1 l2 l4 l5 t0 = f_X12_doOverlap_61 σ l1 l2 l4 l5 t0 := by
  unfold f_X12_doOverlap_61
  simp -failIfUnchanged only [ph_i, ph_ald]
  all_goals rfl
theorem ph_doOverlap_60 (l1 : Int32) (l2 : Int32) (l4 : Nat) (l5 : Nat) : f_X12_doOverlap_60 (ph x σ) l1 l2 l4 l5 = f_X12_doOverlap_60 σ l1 l2 l4 l5 := by
  unfold f_X12_doOverlap_60
  simp -failIfUnchanged only [ph_i, ph_ald, ph_doOverlap_61]
  all_goals rfl
theorem ph_doOverlap (l0 : Nat) (l1 : Int32) (l2 : Int32) (l3 : Int32) : f_X12_doOverlap (ph x σ) l0 l1 l2 l3 = f_X12_doOverlap σ l0 l1 l2 l3 := by
  unfold f_X12_doOverlap
  simp -failIfUnchanged only [ph_i, ph_ald, ph_doOverlap_61, ph_doOverlap_60]
  all_goals rfl
theorem ph_isClash_43 (k29 : MsSt → Nat → Int32 → Int32 → Option (Int32 × MsSt)) (hk29 : ∀ (y0 : MsSt) (y1 : Nat) (y2 : Int32) (y3 : Int32), k29 (ph x y0) y1 y2 y3 = (k29 y0 y1 y2 y3).map (fun p => (p.1, ph x p.2))) : ∀ (n : Nat) (σ : MsSt) (y2 : Nat) (y3 : Int32) (y4 : Int32) (y5 : Int32), f_X12_isClash_43 k29 n (ph x σ) y2 y3 y4 y5 = (f_X12_isClash_43 k29 n σ y2 y3 y4 y5).map (fun p => (p.1, ph x p.2)) := by
  intro n
  induction n with
  | zero => intros; rfl
  | succ n ih =>
    intros
    simp -failIfUnchanged only [f_X12_isClash_43, ph_i, ph_si, ph_ald, ph_ast, ph_b, ph_m, ph_if, ph_b2, ph_b2m, ph_nm, ph_nmm, Option.map_some, Option.map_none, ph_doOverlap, hk29, ih]
    all_goals rfl
theorem ph_isClash_29  : ∀ (n : Nat) (σ : MsSt) (y2 : Nat) (y3 : Int32) (y4 : Int32), f_X12_isClash_29  n (ph x σ) y2 y3 y4 = (f_X12_isClash_29  n σ y2 y3 y4).map (fun p => (p.1, ph x p.2)) := by
  intro n
  induction n with
  | zero => intros; rfl
  | succ n ih =>
    intros
    simp -failIfUnchanged only [f_X12_isClash_29, ph_i, ph_si, ph_ald, ph_ast, ph_b, ph_m, ph_if, ph_b2, ph_b2m, ph_nm, ph_nmm, Option.map_some, Option.map_none, ph_isClash_43 (hk29 := ih), ih]
    all_goals rfl
theorem ph_isClash (l0 : Nat) (l1 : Int32) : f_X12_isClash (ph x σ) l0 l1 = (f_X12_isClash σ l0 l1).map (fun p => (p.1, ph x p.2)) := by
  unfold f_X12_isClash
  simp -failIfUnchanged only [ph_i, ph_si, ph_ald, ph_ast, ph_b, ph_m, ph_if, ph_b2, ph_b2m, ph_nm, ph_nmm, Option.map_some, Option.map_none, ph_layBoxes, ph_ofBase, ph_isClash_29]
  all_goals rfl
theorem ph_manyOf_4  : ∀ n : Nat, f_X12_manyOf_4 (ph x σ) n = f_X12_manyOf_4 σ n := by
  intro n
  induction n with
  | zero => funext y0 y1 y2 y3; rfl
  | succ n ih =>
    funext y0 y1 y2 y3
    simp -failIfUnchanged only [f_X12_manyOf_4, ph_i, ph_ald, ph_isOfKind, ih]
    all_goals rfl
theorem ph_manyOf (l0 : Nat) (l1 : Int32) : f_X12_manyOf (ph x σ) l0 l1 = f_X12_manyOf σ l0 l1 := by
  unfold f_X12_manyOf
  simp -failIfUnchanged only [ph_i, ph_ald, ph_manyOf_4]
  all_goals rfl
theorem ph_spares_4  : ∀ n : Nat, f_X12_spares_4 (ph x σ) n = f_X12_spares_4 σ n := by
  intro n
  induction n with
  | zero => funext y0 y1 y2; rfl
  | succ n ih =>
    funext y0 y1 y2
    simp -failIfUnchanged only [f_X12_spares_4, ph_i, ph_ald, ph_isOfKind, ph_of, ih]
    all_goals rfl
theorem ph_spares (l0 : Nat) : f_X12_spares (ph x σ) l0 = f_X12_spares σ l0 := by
  unfold f_X12_spares
  simp -failIfUnchanged only [ph_i, ph_ald, ph_spares_4]
  all_goals rfl
theorem ph_size (l0 : Nat) (l1 : Int32) : f_X12_size (ph x σ) l0 l1 = (f_X12_size σ l0 l1).map (fun p => (p.1, ph x p.2)) := by
  unfold f_X12_size
  simp -failIfUnchanged only [ph_i, ph_si, ph_ald, ph_ast, ph_b, ph_m, ph_if, ph_b2, ph_b2m, ph_nm, ph_nmm, Option.map_some, Option.map_none, ph_manyOf, ph_spares, ph_raise]
  all_goals rfl
theorem ph_linesWith_20 (k4 : Nat → Int32 → Int32 → Int32 → Option (Int32)) : ∀ n : Nat, f_X12_linesWith_20 (ph x σ) k4 n = f_X12_linesWith_20 σ k4 n := by
  intro n
  induction n with
  | zero => funext y0 y1 y2 y3 y4 y5; rfl
  | succ n ih =>
    funext y0 y1 y2 y3 y4 y5
    simp -failIfUnchanged only [f_X12_linesWith_20, ph_i, ph_ald, ph_spot, ih]
    all_goals rfl
theorem ph_linesWith_4  : ∀ n : Nat, f_X12_linesWith_4 (ph x σ) n = f_X12_linesWith_4 σ n := by
  intro n
  induction n with
  | zero => funext y0 y1 y2 y3; rfl
  | succ n ih =>
    funext y0 y1 y2 y3
    simp -failIfUnchanged only [f_X12_linesWith_4, ph_i, ph_ald, ph_linesWith_20, ih]
    all_goals rfl
theorem ph_linesWith (l0 : Nat) (l1 : Int32) : f_X12_linesWith (ph x σ) l0 l1 = f_X12_linesWith σ l0 l1 := by
  unfold f_X12_linesWith
  simp -failIfUnchanged only [ph_i, ph_ald, ph_linesWith_4]
  all_goals rfl
theorem ph_sign (l0 : Nat) (l1 : Int32) (l2 : Int32) : f_X12_sign (ph x σ) l0 l1 l2 = (f_X12_sign σ l0 l1 l2).map (fun p => (p.1, ph x p.2)) := by
  unfold f_X12_sign
  simp -failIfUnchanged only [ph_i, ph_si, ph_ald, ph_ast, ph_b, ph_m, ph_if, ph_b2, ph_b2m, ph_nm, ph_nmm, Option.map_some, Option.map_none, ph_noSign, ph_inRange, ph_raise, ph_parts, ph_isOfKind, ph_of, ph_linesWith]
  all_goals rfl
theorem ph_letter_18 (l0 : Nat) (l1 : Int32) (l2 : Int32) (t0 : Int32) (t1 : Nat) : f_X12_letter_18 (ph x σ) l0 l1 l2 t0 t1 = (f_X12_letter_18 σ l0 l1 l2 t0 t1).map (fun p => (p.1, ph x p.2)) := by
  unfold f_X12_letter_18
  simp -failIfUnchanged only [ph_i, ph_si, ph_ald, ph_ast, ph_b, ph_m, ph_if, ph_b2, ph_b2m, ph_nm, ph_nmm, Option.map_some, Option.map_none]
  all_goals rfl
theorem ph_letter_17 (l0 : Nat) (l1 : Int32) (l2 : Int32) (t0 : Nat) : f_X12_letter_17 (ph x σ) l0 l1 l2 t0 = (f_X12_letter_17 σ l0 l1 l2 t0).map (fun p => (p.1, ph x p.2)) := by
  unfold f_X12_letter_17
  simp -failIfUnchanged only [ph_i, ph_si, ph_ald, ph_ast, ph_b, ph_m, ph_if, ph_b2, ph_b2m, ph_nm, ph_nmm, Option.map_some, Option.map_none, ph_letter_18]
  all_goals rfl
theorem ph_letter (l0 : Nat) (l1 : Int32) (l2 : Int32) : f_X12_letter (ph x σ) l0 l1 l2 = (f_X12_letter σ l0 l1 l2).map (fun p => (p.1, ph x p.2)) := by
  unfold f_X12_letter
  simp -failIfUnchanged only [ph_i, ph_si, ph_ald, ph_ast, ph_b, ph_m, ph_if, ph_b2, ph_b2m, ph_nm, ph_nmm, Option.map_some, Option.map_none, ph_isSign, ph_letter_17, ph_letter_18]
  all_goals rfl
theorem ph_expanded (l0 : Nat) (l1 : Int32) (l2 : Int32) : f_X12_expanded (ph x σ) l0 l1 l2 = (f_X12_expanded σ l0 l1 l2).map (fun p => (p.1, ph x p.2)) := by
  unfold f_X12_expanded
  simp -failIfUnchanged only [ph_i, ph_si, ph_ald, ph_ast, ph_b, ph_m, ph_if, ph_b2, ph_b2m, ph_nm, ph_nmm, Option.map_some, Option.map_none, ph_noSign, ph_expand, ph_inRange, ph_raise]
  all_goals rfl
theorem ph_pairOf_22 (l0 : Nat) (l1 : Int32) (l2 : Int32) (t0 : Int32) (t1 : Nat) : f_X12_pairOf_22 (ph x σ) l0 l1 l2 t0 t1 = (f_X12_pairOf_22 σ l0 l1 l2 t0 t1).map (fun p => (p.1, ph x p.2)) := by
  unfold f_X12_pairOf_22
  simp -failIfUnchanged only [ph_i, ph_si, ph_ald, ph_ast, ph_b, ph_m, ph_if, ph_b2, ph_b2m, ph_nm, ph_nmm, Option.map_some, Option.map_none, ph_findPair]
  all_goals rfl
theorem ph_pairOf_21 (l0 : Nat) (l1 : Int32) (l2 : Int32) (t0 : Nat) : f_X12_pairOf_21 (ph x σ) l0 l1 l2 t0 = (f_X12_pairOf_21 σ l0 l1 l2 t0).map (fun p => (p.1, ph x p.2)) := by
  unfold f_X12_pairOf_21
  simp -failIfUnchanged only [ph_i, ph_si, ph_ald, ph_ast, ph_b, ph_m, ph_if, ph_b2, ph_b2m, ph_nm, ph_nmm, Option.map_some, Option.map_none, ph_pairOf_22]
  all_goals rfl
theorem ph_pairOf (l0 : Nat) (l1 : Int32) (l2 : Int32) : f_X12_pairOf (ph x σ) l0 l1 l2 = (f_X12_pairOf σ l0 l1 l2).map (fun p => (p.1, ph x p.2)) := by
  unfold f_X12_pairOf
  simp -failIfUnchanged only [ph_i, ph_si, ph_ald, ph_ast, ph_b, ph_m, ph_if, ph_b2, ph_b2m, ph_nm, ph_nmm, Option.map_some, Option.map_none, ph_isSign, ph_pairOf_21, ph_pairOf_22]
  all_goals rfl
theorem ph_used_50 (k14 : MsSt → Nat → Int32 → Int32 → Int32 → Option (Int32 × MsSt)) (hk14 : ∀ (y0 : MsSt) (y1 : Nat) (y2 : Int32) (y3 : Int32) (y4 : Int32), k14 (ph x y0) y1 y2 y3 y4 = (k14 y0 y1 y2 y3 y4).map (fun p => (p.1, ph x p.2))) : ∀ (n : Nat) (σ : MsSt) (y2 : Nat) (y3 : Int32) (y4 : Int32) (y5 : Int32) (y6 : Int32) (y7 : Int32) (y8 : Int32), f_X12_used_50 k14 n (ph x σ) y2 y3 y4 y5 y6 y7 y8 = (f_X12_used_50 k14 n σ y2 y3 y4 y5 y6 y7 y8).map (fun p => (p.1, ph x p.2)) := by
  intro n
  induction n with
  | zero => intros; rfl
  | succ n ih =>
    intros
    simp -failIfUnchanged only [f_X12_used_50, ph_i, ph_si, ph_ald, ph_ast, ph_b, ph_m, ph_if, ph_b2, ph_b2m, ph_nm, ph_nmm, Option.map_some, Option.map_none, hk14, ih]
    all_goals rfl
theorem ph_used_14  : ∀ (n : Nat) (σ : MsSt) (y2 : Nat) (y3 : Int32) (y4 : Int32) (y5 : Int32), f_X12_used_14  n (ph x σ) y2 y3 y4 y5 = (f_X12_used_14  n σ y2 y3 y4 y5).map (fun p => (p.1, ph x p.2)) := by
  intro n
  induction n with
  | zero => intros; rfl
  | succ n ih =>
    intros
    simp -failIfUnchanged only [f_X12_used_14, ph_i, ph_si, ph_ald, ph_ast, ph_b, ph_m, ph_if, ph_b2, ph_b2m, ph_nm, ph_nmm, Option.map_some, Option.map_none, ph_isOfKind, ph_used_50 (hk14 := ih), ph_expand, ih]
    all_goals rfl
theorem ph_used (l0 : Nat) (l1 : Int32) : f_X12_used (ph x σ) l0 l1 = (f_X12_used σ l0 l1).map (fun p => (p.1, ph x p.2)) := by
  unfold f_X12_used
  simp -failIfUnchanged only [ph_i, ph_si, ph_ald, ph_ast, ph_b, ph_m, ph_if, ph_b2, ph_b2m, ph_nm, ph_nmm, Option.map_some, Option.map_none, ph_noSign, ph_used_14]
  all_goals rfl
theorem ph_recomposed (l0 : Nat) (l1 : Int32) : f_X12_recomposed (ph x σ) l0 l1 = (f_X12_recomposed σ l0 l1).map (fun p => (p.1, ph x p.2)) := by
  unfold f_X12_recomposed
  simp -failIfUnchanged only [ph_i, ph_si, ph_ald, ph_ast, ph_b, ph_m, ph_if, ph_b2, ph_b2m, ph_nm, ph_nmm, Option.map_some, Option.map_none, ph_noSign, ph_addExpanded, ph_layComposed]
  all_goals rfl
theorem ph_widths (l0 : Nat) : f_X12_widths (ph x σ) l0 = f_X12_widths σ l0 := by
  unfold f_X12_widths
  simp -failIfUnchanged only [ph_i, ph_ald, ph_penOf]
  all_goals rfl
theorem ph_crowns_4  : ∀ (n : Nat) (σ : MsSt) (y2 : Nat) (y3 : Int32) (y4 : Int32), f_X12_crowns_4  n (ph x σ) y2 y3 y4 = (f_X12_crowns_4  n σ y2 y3 y4).map (fun p => (p.1, ph x p.2)) := by
  intro n
  induction n with
  | zero => intros; rfl
  | succ n ih =>
    intros
    simp -failIfUnchanged only [f_X12_crowns_4, ph_i, ph_si, ph_ald, ph_ast, ph_b, ph_m, ph_if, ph_b2, ph_b2m, ph_nm, ph_nmm, Option.map_some, Option.map_none, ph_layBoxes, ih]
    all_goals rfl
theorem ph_crowns (l0 : Nat) : f_X12_crowns (ph x σ) l0 = (f_X12_crowns σ l0).map (fun p => (p.1, ph x p.2)) := by
  unfold f_X12_crowns
  simp -failIfUnchanged only [ph_i, ph_si, ph_ald, ph_ast, ph_b, ph_m, ph_if, ph_b2, ph_b2m, ph_nm, ph_nmm, Option.map_some, Option.map_none, ph_crowns_4]
  all_goals rfl
theorem ph_feet_4  : ∀ (n : Nat) (σ : MsSt) (y2 : Nat) (y3 : Int32) (y4 : Int32), f_X12_feet_4  n (ph x σ) y2 y3 y4 = (f_X12_feet_4  n σ y2 y3 y4).map (fun p => (p.1, ph x p.2)) := by
  intro n
  induction n with
  | zero => intros; rfl
  | succ n ih =>
    intros
    simp -failIfUnchanged only [f_X12_feet_4, ph_i, ph_si, ph_ald, ph_ast, ph_b, ph_m, ph_if, ph_b2, ph_b2m, ph_nm, ph_nmm, Option.map_some, Option.map_none, ph_layBoxes, ih]
    all_goals rfl
theorem ph_feet (l0 : Nat) : f_X12_feet (ph x σ) l0 = (f_X12_feet σ l0).map (fun p => (p.1, ph x p.2)) := by
  unfold f_X12_feet
  simp -failIfUnchanged only [ph_i, ph_si, ph_ald, ph_ast, ph_b, ph_m, ph_if, ph_b2, ph_b2m, ph_nm, ph_nmm, Option.map_some, Option.map_none, ph_feet_4]
  all_goals rfl
theorem ph_clashesOf_4  : ∀ (n : Nat) (σ : MsSt) (y2 : Nat) (y3 : Int32) (y4 : Int32), f_X12_clashesOf_4  n (ph x σ) y2 y3 y4 = (f_X12_clashesOf_4  n σ y2 y3 y4).map (fun p => (p.1, ph x p.2)) := by
  intro n
  induction n with
  | zero => intros; rfl
  | succ n ih =>
    intros
    simp -failIfUnchanged only [f_X12_clashesOf_4, ph_i, ph_si, ph_ald, ph_ast, ph_b, ph_m, ph_if, ph_b2, ph_b2m, ph_nm, ph_nmm, Option.map_some, Option.map_none, ph_isClash, ih]
    all_goals rfl
theorem ph_clashesOf (l0 : Nat) : f_X12_clashesOf (ph x σ) l0 = (f_X12_clashesOf σ l0).map (fun p => (p.1, ph x p.2)) := by
  unfold f_X12_clashesOf
  simp -failIfUnchanged only [ph_i, ph_si, ph_ald, ph_ast, ph_b, ph_m, ph_if, ph_b2, ph_b2m, ph_nm, ph_nmm, Option.map_some, Option.map_none, ph_clashesOf_4]
  all_goals rfl
theorem ph_line (l0 : Nat) (l1 : Int32) (l2 : Int32) : f_X12_line (ph x σ) l0 l1 l2 = (f_X12_line σ l0 l1 l2).map (fun p => (p.1, ph x p.2)) := by
  unfold f_X12_line
  simp -failIfUnchanged only [ph_i, ph_si, ph_ald, ph_ast, ph_b, ph_m, ph_if, ph_b2, ph_b2m, ph_nm, ph_nmm, Option.map_some, Option.map_none, ph_noLine, ph_layClusters, ph_layComposed, ph_widths, ph_crowns, ph_feet, ph_clashesOf, ph_raise]
  all_goals rfl
theorem ph_manyIn (l0 : Nat) (l1 : Int32) (l2 : Int32) : f_X12_manyIn (ph x σ) l0 l1 l2 = f_X12_manyIn σ l0 l1 l2 := by
  unfold f_X12_manyIn
  simp -failIfUnchanged only [ph_i, ph_ald]
  all_goals rfl
theorem ph_signIn (l0 : Nat) (l1 : Int32) (l2 : Int32) (l3 : Int32) : f_X12_signIn (ph x σ) l0 l1 l2 l3 = f_X12_signIn σ l0 l1 l2 l3 := by
  unfold f_X12_signIn
  simp -failIfUnchanged only [ph_i, ph_ald, ph_spot]
  all_goals rfl
theorem ph_at (l0 : Nat) (l1 : Int32) (l2 : Int32) (l3 : Int32) : f_X12_at (ph x σ) l0 l1 l2 l3 = (f_X12_at σ l0 l1 l2 l3).map (fun p => (p.1, ph x p.2)) := by
  unfold f_X12_at
  simp -failIfUnchanged only [ph_i, ph_si, ph_ald, ph_ast, ph_b, ph_m, ph_if, ph_b2, ph_b2m, ph_nm, ph_nmm, Option.map_some, Option.map_none, ph_noLine, ph_layForms, ph_inRange, ph_raise, ph_manyIn, ph_signIn]
  all_goals rfl
theorem ph_unlike_51  : ∀ (n : Nat) (σ : MsSt) (y2 : Nat) (y3 : Int32) (y4 : Int32) (y5 : Int32) (y6 : Int32) (y7 : Int32), f_X12_unlike_51  n (ph x σ) y2 y3 y4 y5 y6 y7 = (f_X12_unlike_51  n σ y2 y3 y4 y5 y6 y7).map (fun p => (p.1, ph x p.2)) := by
  intro n
  induction n with
  | zero => intros; rfl
  | succ n ih =>
    intros
    simp -failIfUnchanged only [f_X12_unlike_51, ph_i, ph_si, ph_ald, ph_ast, ph_b, ph_m, ph_if, ph_b2, ph_b2m, ph_nm, ph_nmm, Option.map_some, Option.map_none, ph_signIn, ih]
    all_goals rfl
theorem ph_unlike (l0 : Nat) (l1 : Int32) (l2 : Int32) : f_X12_unlike (ph x σ) l0 l1 l2 = (f_X12_unlike σ l0 l1 l2).map (fun p => (p.1, ph x p.2)) := by
  unfold f_X12_unlike
  simp -failIfUnchanged only [ph_i, ph_si, ph_ald, ph_ast, ph_b, ph_m, ph_if, ph_b2, ph_b2m, ph_nm, ph_nmm, Option.map_some, Option.map_none, ph_noLine, ph_inRange, ph_raise, ph_layForms, ph_manyIn, ph_unlike_51]
  all_goals rfl
theorem ph_clusterAt_34 (k5 : Nat → Int32 → Int32 → Int32 → Int32 → Option (Int32)) (l0 : Nat) (l1 : Int32) (l2 : Int32) (l3 : Int32) (l4 : Int32) (t0 : Int32) : f_X12_clusterAt_34 (ph x σ) k5 l0 l1 l2 l3 l4 t0 = f_X12_clusterAt_34 σ k5 l0 l1 l2 l3 l4 t0 := by
  unfold f_X12_clusterAt_34
  simp -failIfUnchanged only [ph_i, ph_ald]
  all_goals rfl
theorem ph_clusterAt_5  : ∀ n : Nat, f_X12_clusterAt_5 (ph x σ) n = f_X12_clusterAt_5 σ n := by
  intro n
  induction n with
  | zero => funext y0 y1 y2 y3 y4; rfl
  | succ n ih =>
    funext y0 y1 y2 y3 y4
    simp -failIfUnchanged only [f_X12_clusterAt_5, ph_i, ph_ald, ph_spot, ph_isMark, ph_clusterAt_34, ih]
    all_goals rfl
theorem ph_clusterAt (l0 : Nat) (l1 : Int32) (l2 : Int32) : f_X12_clusterAt (ph x σ) l0 l1 l2 = f_X12_clusterAt σ l0 l1 l2 := by
  unfold f_X12_clusterAt
  simp -failIfUnchanged only [ph_i, ph_ald, ph_clusterAt_5]
  all_goals rfl
theorem ph_clusterOf_15 (l0 : Nat) (l1 : Int32) (l2 : Int32) (t0 : Int32) (t1 : Nat) : f_X12_clusterOf_15 (ph x σ) l0 l1 l2 t0 t1 = (f_X12_clusterOf_15 σ l0 l1 l2 t0 t1).map (fun p => (p.1, ph x p.2)) := by
  unfold f_X12_clusterOf_15
  simp -failIfUnchanged only [ph_i, ph_si, ph_ald, ph_ast, ph_b, ph_m, ph_if, ph_b2, ph_b2m, ph_nm, ph_nmm, Option.map_some, Option.map_none, ph_clusterAt]
  all_goals rfl
theorem ph_clusterOf (l0 : Nat) (l1 : Int32) (l2 : Int32) : f_X12_clusterOf (ph x σ) l0 l1 l2 = (f_X12_clusterOf σ l0 l1 l2).map (fun p => (p.1, ph x p.2)) := by
  unfold f_X12_clusterOf
  simp -failIfUnchanged only [ph_i, ph_si, ph_ald, ph_ast, ph_b, ph_m, ph_if, ph_b2, ph_b2m, ph_nm, ph_nmm, Option.map_some, Option.map_none, ph_isPlace, ph_clusterOf_15]
  all_goals rfl
theorem ph_composedOf_8  : ∀ (n : Nat) (σ : MsSt) (y2 : Nat) (y3 : Int32) (y4 : Int32) (y5 : Int32), f_X12_composedOf_8  n (ph x σ) y2 y3 y4 y5 = (f_X12_composedOf_8  n σ y2 y3 y4 y5).map (fun p => (p.1, ph x p.2)) := by
  intro n
  induction n with
  | zero => intros; rfl
  | succ n ih =>
    intros
    simp -failIfUnchanged only [f_X12_composedOf_8, ph_i, ph_si, ph_ald, ph_ast, ph_b, ph_m, ph_if, ph_b2, ph_b2m, ph_nm, ph_nmm, Option.map_some, Option.map_none, ih]
    all_goals rfl
theorem ph_composedOf (l0 : Nat) (l1 : Int32) : f_X12_composedOf (ph x σ) l0 l1 = (f_X12_composedOf σ l0 l1).map (fun p => (p.1, ph x p.2)) := by
  unfold f_X12_composedOf
  simp -failIfUnchanged only [ph_i, ph_si, ph_ald, ph_ast, ph_b, ph_m, ph_if, ph_b2, ph_b2m, ph_nm, ph_nmm, Option.map_some, Option.map_none, ph_layComposed, ph_composedOf_8]
  all_goals rfl
theorem ph_cluster (l0 : Nat) (l1 : Int32) (l2 : Int32) (l3 : Int32) : f_X12_cluster (ph x σ) l0 l1 l2 l3 = (f_X12_cluster σ l0 l1 l2 l3).map (fun p => (p.1, ph x p.2)) := by
  unfold f_X12_cluster
  simp -failIfUnchanged only [ph_i, ph_si, ph_ald, ph_ast, ph_b, ph_m, ph_if, ph_b2, ph_b2m, ph_nm, ph_nmm, Option.map_some, Option.map_none, ph_noCluster, ph_layBoxes, ph_baseOf, ph_marksOf, ph_penOf, ph_composedOf, ph_raise]
  all_goals rfl
theorem ph_box (l0 : Nat) (l1 : Int32) (l2 : Int32) (l3 : Int32) (l4 : Int32) : f_X12_box (ph x σ) l0 l1 l2 l3 l4 = (f_X12_box σ l0 l1 l2 l3 l4).map (fun p => (p.1, ph x p.2)) := by
  unfold f_X12_box
  simp -failIfUnchanged only [ph_i, ph_si, ph_ald, ph_ast, ph_b, ph_m, ph_if, ph_b2, ph_b2m, ph_nm, ph_nmm, Option.map_some, Option.map_none, ph_noCluster, ph_marksOf, ph_inRange, ph_raise, ph_layBoxes, ph_firstMark]
  all_goals rfl
theorem ph_spellings_120 (k36 : MsSt → Nat → Int32 → Int32 → Int64 → Int32 → Int32 → Option (Int64 × MsSt)) (l0 : Nat) (l2 : Int32) (l3 : Int32) (l4 : Int64) (l7 : Int32) (t0 : Int32) (hk36 : ∀ (y0 : MsSt) (y1 : Nat) (y2 : Int32) (y3 : Int32) (y4 : Int64) (y5 : Int32) (y6 : Int32), k36 (ph x y0) y1 y2 y3 y4 y5 y6 = (k36 y0 y1 y2 y3 y4 y5 y6).map (fun p => (p.1, ph x p.2))) : f_X12_spellings_120 k36 (ph x σ) l0 l2 l3 l4 l7 t0 = (f_X12_spellings_120 k36 σ l0 l2 l3 l4 l7 t0).map (fun p => (p.1, ph x p.2)) := by
  unfold f_X12_spellings_120
  simp -failIfUnchanged only [ph_i, ph_si, ph_ald, ph_ast, ph_b, ph_m, ph_if, ph_b2, ph_b2m, ph_nm, ph_nmm, Option.map_some, Option.map_none, hk36]
  all_goals rfl
theorem ph_spellings_105 (k36 : MsSt → Nat → Int32 → Int32 → Int64 → Int32 → Int32 → Option (Int64 × MsSt)) (l0 : Nat) (l2 : Int32) (l3 : Int32) (l4 : Int64) (l6 : Int32) (l7 : Int32) (t0 : Int32) (hk36 : ∀ (y0 : MsSt) (y1 : Nat) (y2 : Int32) (y3 : Int32) (y4 : Int64) (y5 : Int32) (y6 : Int32), k36 (ph x y0) y1 y2 y3 y4 y5 y6 = (k36 y0 y1 y2 y3 y4 y5 y6).map (fun p => (p.1, ph x p.2))) : f_X12_spellings_105 k36 (ph x σ) l0 l2 l3 l4 l6 l7 t0 = (f_X12_spellings_105 k36 σ l0 l2 l3 l4 l6 l7 t0).map (fun p => (p.1, ph x p.2)) := by
  unfold f_X12_spellings_105
  simp -failIfUnchanged only [ph_i, ph_si, ph_ald, ph_ast, ph_b, ph_m, ph_if, ph_b2, ph_b2m, ph_nm, ph_nmm, Option.map_some, Option.map_none, ph_spellings_120 (hk36 := hk36), hk36]
  all_goals rfl
theorem ph_spellings_104 (k36 : MsSt → Nat → Int32 → Int32 → Int64 → Int32 → Int32 → Option (Int64 × MsSt)) (l0 : Nat) (l2 : Int32) (l3 : Int32) (l4 : Int64) (l6 : Int32) (l7 : Int32) (hk36 : ∀ (y0 : MsSt) (y1 : Nat) (y2 : Int32) (y3 : Int32) (y4 : Int64) (y5 : Int32) (y6 : Int32), k36 (ph x y0) y1 y2 y3 y4 y5 y6 = (k36 y0 y1 y2 y3 y4 y5 y6).map (fun p => (p.1, ph x p.2))) : f_X12_spellings_104 k36 (ph x σ) l0 l2 l3 l4 l6 l7 = (f_X12_spellings_104 k36 σ l0 l2 l3 l4 l6 l7).map (fun p => (p.1, ph x p.2)) := by
  unfold f_X12_spellings_104
  simp -failIfUnchanged only [ph_i, ph_si, ph_ald, ph_ast, ph_b, ph_m, ph_if, ph_b2, ph_b2m, ph_nm, ph_nmm, Option.map_some, Option.map_none, ph_spellings_105 (hk36 := hk36), hk36]
  all_goals rfl
theorem ph_spellings_36  : ∀ (n : Nat) (σ : MsSt) (y2 : Nat) (y3 : Int32) (y4 : Int32) (y5 : Int64) (y6 : Int32) (y7 : Int32), f_X12_spellings_36  n (ph x σ) y2 y3 y4 y5 y6 y7 = (f_X12_spellings_36  n σ y2 y3 y4 y5 y6 y7).map (fun p => (p.1, ph x p.2)) := by
  intro n
  induction n with
  | zero => intros; rfl
  | succ n ih =>
    intros
    simp -failIfUnchanged only [f_X12_spellings_36, ph_i, ph_si, ph_ald, ph_ast, ph_b, ph_m, ph_if, ph_b2, ph_b2m, ph_nm, ph_nmm, Option.map_some, Option.map_none, ph_firstMark, ph_of, ph_spellings_105 (hk36 := ih), ph_spellings_104 (hk36 := ih), ih]
    all_goals rfl
theorem ph_spellings (l0 : Nat) (l1 : Int32) (l2 : Int32) : f_X12_spellings (ph x σ) l0 l1 l2 = (f_X12_spellings σ l0 l1 l2).map (fun p => (p.1, ph x p.2)) := by
  unfold f_X12_spellings
  simp -failIfUnchanged only [ph_i, ph_si, ph_ald, ph_ast, ph_b, ph_m, ph_if, ph_b2, ph_b2m, ph_nm, ph_nmm, Option.map_some, Option.map_none, ph_noCluster, ph_marksOf, ph_spellings_36]
  all_goals rfl
theorem ph_clashes_25 (l0 : Nat) (l2 : Int32) (t0 : Int32) (t1 : Nat) : f_X12_clashes_25 (ph x σ) l0 l2 t0 t1 = (f_X12_clashes_25 σ l0 l2 t0 t1).map (fun p => (p.1, ph x p.2)) := by
  unfold f_X12_clashes_25
  simp -failIfUnchanged only [ph_i, ph_si, ph_ald, ph_ast, ph_b, ph_m, ph_if, ph_b2, ph_b2m, ph_nm, ph_nmm, Option.map_some, Option.map_none, ph_isClash]
  all_goals rfl
theorem ph_clashes_24 (l0 : Nat) (l2 : Int32) (t0 : Nat) : f_X12_clashes_24 (ph x σ) l0 l2 t0 = (f_X12_clashes_24 σ l0 l2 t0).map (fun p => (p.1, ph x p.2)) := by
  unfold f_X12_clashes_24
  simp -failIfUnchanged only [ph_i, ph_si, ph_ald, ph_ast, ph_b, ph_m, ph_if, ph_b2, ph_b2m, ph_nm, ph_nmm, Option.map_some, Option.map_none, ph_clashes_25]
  all_goals rfl
theorem ph_clashes (l0 : Nat) (l1 : Int32) (l2 : Int32) : f_X12_clashes (ph x σ) l0 l1 l2 = (f_X12_clashes σ l0 l1 l2).map (fun p => (p.1, ph x p.2)) := by
  unfold f_X12_clashes
  simp -failIfUnchanged only [ph_i, ph_si, ph_ald, ph_ast, ph_b, ph_m, ph_if, ph_b2, ph_b2m, ph_nm, ph_nmm, Option.map_some, Option.map_none, ph_isCluster, ph_clashes_24, ph_clashes_25]
  all_goals rfl
theorem ph_fullest_19  : ∀ (n : Nat) (σ : MsSt) (y2 : Nat) (y3 : Int32) (y4 : Int32), f_X12_fullest_19  n (ph x σ) y2 y3 y4 = (f_X12_fullest_19  n σ y2 y3 y4).map (fun p => (p.1, ph x p.2)) := by
  intro n
  induction n with
  | zero => intros; rfl
  | succ n ih =>
    intros
    simp -failIfUnchanged only [f_X12_fullest_19, ph_i, ph_si, ph_ald, ph_ast, ph_b, ph_m, ph_if, ph_b2, ph_b2m, ph_nm, ph_nmm, Option.map_some, Option.map_none, ph_marksOf, ih]
    all_goals rfl
theorem ph_fullest (l0 : Nat) (l1 : Int32) : f_X12_fullest (ph x σ) l0 l1 = (f_X12_fullest σ l0 l1).map (fun p => (p.1, ph x p.2)) := by
  unfold f_X12_fullest
  simp -failIfUnchanged only [ph_i, ph_si, ph_ald, ph_ast, ph_b, ph_m, ph_if, ph_b2, ph_b2m, ph_nm, ph_nmm, Option.map_some, Option.map_none, ph_noLine, ph_layClusters, ph_fullest_19]
  all_goals rfl
theorem ph_layTwo_51  : ∀ (n : Nat) (σ : MsSt) (y2 : Nat) (y3 : Int32) (y4 : Int32), f_X12_layTwo_51  n (ph x σ) y2 y3 y4 = (f_X12_layTwo_51  n σ y2 y3 y4).map (ph x) := by
  intro n
  induction n with
  | zero => intros; rfl
  | succ n ih =>
    intros
    simp -failIfUnchanged only [f_X12_layTwo_51, ph_i, ph_si, ph_ald, ph_ast, ph_b, ph_m, ph_if, ph_b2, ph_b2m, ph_nm, ph_nmm, Option.map_some, Option.map_none, ph_layClusters, ih]
    all_goals rfl
theorem ph_layTwo_23  : ∀ (n : Nat) (σ : MsSt) (y2 : Nat) (y3 : Int32) (y4 : Int32), f_X12_layTwo_23  n (ph x σ) y2 y3 y4 = (f_X12_layTwo_23  n σ y2 y3 y4).map (ph x) := by
  intro n
  induction n with
  | zero => intros; rfl
  | succ n ih =>
    intros
    simp -failIfUnchanged only [f_X12_layTwo_23, ph_i, ph_si, ph_ald, ph_ast, ph_b, ph_m, ph_if, ph_b2, ph_b2m, ph_nm, ph_nmm, Option.map_some, Option.map_none, ph_layTwo_51, ih]
    all_goals rfl
theorem ph_layTwo (l0 : Nat) (l1 : Int32) (l2 : Int32) : f_X12_layTwo (ph x σ) l0 l1 l2 = (f_X12_layTwo σ l0 l1 l2).map (ph x) := by
  unfold f_X12_layTwo
  simp -failIfUnchanged only [ph_i, ph_si, ph_ald, ph_ast, ph_b, ph_m, ph_if, ph_b2, ph_b2m, ph_nm, ph_nmm, Option.map_some, Option.map_none, ph_layClusters, ph_layTwo_23]
  all_goals rfl
theorem ph_compare_81 (t0 : Int32) : f_X12_compare_81 (ph x σ) t0 = (f_X12_compare_81 σ t0).map (fun p => (p.1, ph x p.2)) := by
  unfold f_X12_compare_81
  simp -failIfUnchanged only [ph_i, ph_si, ph_ald, ph_ast, ph_b, ph_m, ph_if, ph_b2, ph_b2m, ph_nm, ph_nmm, Option.map_some, Option.map_none]
  all_goals rfl
theorem ph_compare_64 (l0 : Nat) (l3 : Int32) : f_X12_compare_64 (ph x σ) l0 l3 = (f_X12_compare_64 σ l0 l3).map (fun p => (p.1, ph x p.2)) := by
  unfold f_X12_compare_64
  simp -failIfUnchanged only [ph_i, ph_si, ph_ald, ph_ast, ph_b, ph_m, ph_if, ph_b2, ph_b2m, ph_nm, ph_nmm, Option.map_some, Option.map_none, ph_compare_81]
  all_goals rfl
theorem ph_compare_22  : ∀ (n : Nat) (σ : MsSt) (y2 : Nat) (y3 : Int32) (y4 : Int32), f_X12_compare_22  n (ph x σ) y2 y3 y4 = (f_X12_compare_22  n σ y2 y3 y4).map (fun p => (p.1, ph x p.2)) := by
  intro n
  induction n with
  | zero => intros; rfl
  | succ n ih =>
    intros
    simp -failIfUnchanged only [f_X12_compare_22, ph_i, ph_si, ph_ald, ph_ast, ph_b, ph_m, ph_if, ph_b2, ph_b2m, ph_nm, ph_nmm, Option.map_some, Option.map_none, ph_compare_64, ih]
    all_goals rfl
theorem ph_compare (l0 : Nat) (l1 : Int32) (l2 : Int32) : f_X12_compare (ph x σ) l0 l1 l2 = (f_X12_compare σ l0 l1 l2).map (fun p => (p.1, ph x p.2)) := by
  unfold f_X12_compare
  simp -failIfUnchanged only [ph_i, ph_si, ph_ald, ph_ast, ph_b, ph_m, ph_if, ph_b2, ph_b2m, ph_nm, ph_nmm, Option.map_some, Option.map_none, ph_noTwoLines, ph_layTwo, ph_compare_22]
  all_goals rfl
theorem ph_otherBase (l0 : Nat) (l1 : Int32) : f_X12_otherBase (ph x σ) l0 l1 = f_X12_otherBase σ l0 l1 := by
  unfold f_X12_otherBase
  simp -failIfUnchanged only [ph_i, ph_ald, ph_isMark]
  all_goals rfl
theorem ph_areBare_37  : ∀ (n : Nat) (σ : MsSt) (y2 : Nat) (y3 : Int32) (y4 : Int32), f_X12_areBare_37  n (ph x σ) y2 y3 y4 = (f_X12_areBare_37  n σ y2 y3 y4).map (fun p => (p.1, ph x p.2)) := by
  intro n
  induction n with
  | zero => intros; rfl
  | succ n ih =>
    intros
    simp -failIfUnchanged only [f_X12_areBare_37, ph_i, ph_si, ph_ald, ph_ast, ph_b, ph_m, ph_if, ph_b2, ph_b2m, ph_nm, ph_nmm, Option.map_some, Option.map_none, ph_baseOf, ph_otherBase, ih]
    all_goals rfl
theorem ph_areBare (l0 : Nat) (l1 : Int32) (l2 : Int32) : f_X12_areBare (ph x σ) l0 l1 l2 = (f_X12_areBare σ l0 l1 l2).map (fun p => (p.1, ph x p.2)) := by
  unfold f_X12_areBare
  simp -failIfUnchanged only [ph_i, ph_si, ph_ald, ph_ast, ph_b, ph_m, ph_if, ph_b2, ph_b2m, ph_nm, ph_nmm, Option.map_some, Option.map_none, ph_noTwoLines, ph_layTwo, ph_areBare_37]
  all_goals rfl
theorem ph_isSameCluster_45  : ∀ n : Nat, f_X12_isSameCluster_45 (ph x σ) n = f_X12_isSameCluster_45 σ n := by
  intro n
  induction n with
  | zero => funext y0 y1 y2 y3 y4 y5; rfl
  | succ n ih =>
    funext y0 y1 y2 y3 y4 y5
    simp -failIfUnchanged only [f_X12_isSameCluster_45, ph_i, ph_ald, ih]
    all_goals rfl
theorem ph_isSameCluster (l0 : Nat) (l1 : Int32) (l2 : Int32) : f_X12_isSameCluster (ph x σ) l0 l1 l2 = f_X12_isSameCluster σ l0 l1 l2 := by
  unfold f_X12_isSameCluster
  simp -failIfUnchanged only [ph_i, ph_ald, ph_isSameCluster_45]
  all_goals rfl
theorem ph_isMatch_22  : ∀ n : Nat, f_X12_isMatch_22 (ph x σ) n = f_X12_isMatch_22 σ n := by
  intro n
  induction n with
  | zero => funext y0 y1 y2 y3 y4; rfl
  | succ n ih =>
    funext y0 y1 y2 y3 y4
    simp -failIfUnchanged only [f_X12_isMatch_22, ph_i, ph_ald, ph_isSameCluster, ph_baseOf, ph_otherBase, ih]
    all_goals rfl
theorem ph_isMatch (l0 : Nat) (l1 : Int32) (l2 : Int32) : f_X12_isMatch (ph x σ) l0 l1 l2 = f_X12_isMatch σ l0 l1 l2 := by
  unfold f_X12_isMatch
  simp -failIfUnchanged only [ph_i, ph_ald, ph_isMatch_22]
  all_goals rfl
theorem ph_noPattern_32 (l0 : Nat) (t0 : Nat) : f_X12_noPattern_32 (ph x σ) l0 t0 = (f_X12_noPattern_32 σ l0 t0).map (fun p => (p.1, ph x p.2)) := by
  unfold f_X12_noPattern_32
  simp -failIfUnchanged only [ph_i, ph_si, ph_ald, ph_ast, ph_b, ph_m, ph_if, ph_b2, ph_b2m, ph_nm, ph_nmm, Option.map_some, Option.map_none]
  all_goals rfl
theorem ph_noPattern (l0 : Nat) (l1 : Int32) (l2 : Int32) : f_X12_noPattern (ph x σ) l0 l1 l2 = (f_X12_noPattern σ l0 l1 l2).map (fun p => (p.1, ph x p.2)) := by
  unfold f_X12_noPattern
  simp -failIfUnchanged only [ph_i, ph_si, ph_ald, ph_ast, ph_b, ph_m, ph_if, ph_b2, ph_b2m, ph_nm, ph_nmm, Option.map_some, Option.map_none, ph_isLine, ph_noPattern_32]
  all_goals rfl
theorem ph_matches_23  : ∀ (n : Nat) (σ : MsSt) (y2 : Nat) (y3 : Int32) (y4 : Int32) (y5 : Int32), f_X12_matches_23  n (ph x σ) y2 y3 y4 y5 = (f_X12_matches_23  n σ y2 y3 y4 y5).map (fun p => (p.1, ph x p.2)) := by
  intro n
  induction n with
  | zero => intros; rfl
  | succ n ih =>
    intros
    simp -failIfUnchanged only [f_X12_matches_23, ph_i, ph_si, ph_ald, ph_ast, ph_b, ph_m, ph_if, ph_b2, ph_b2m, ph_nm, ph_nmm, Option.map_some, Option.map_none, ph_isMatch, ih]
    all_goals rfl
theorem ph_matches (l0 : Nat) (l1 : Int32) (l2 : Int32) (l3 : Int32) : f_X12_matches (ph x σ) l0 l1 l2 l3 = (f_X12_matches σ l0 l1 l2 l3).map (fun p => (p.1, ph x p.2)) := by
  unfold f_X12_matches
  simp -failIfUnchanged only [ph_i, ph_si, ph_ald, ph_ast, ph_b, ph_m, ph_if, ph_b2, ph_b2m, ph_nm, ph_nmm, Option.map_some, Option.map_none, ph_noPattern, ph_layTwo, ph_matches_23]
  all_goals rfl
theorem ph_match_24  : ∀ (n : Nat) (σ : MsSt) (y2 : Nat) (y3 : Int32) (y4 : Int32) (y5 : Int32), f_X12_match_24  n (ph x σ) y2 y3 y4 y5 = (f_X12_match_24  n σ y2 y3 y4 y5).map (fun p => (p.1, ph x p.2)) := by
  intro n
  induction n with
  | zero => intros; rfl
  | succ n ih =>
    intros
    simp -failIfUnchanged only [f_X12_match_24, ph_i, ph_si, ph_ald, ph_ast, ph_b, ph_m, ph_if, ph_b2, ph_b2m, ph_nm, ph_nmm, Option.map_some, Option.map_none, ph_raise, ph_isMatch, ih]
    all_goals rfl
theorem ph_match (l0 : Nat) (l1 : Int32) (l2 : Int32) (l3 : Int32) (l4 : Int32) : f_X12_match (ph x σ) l0 l1 l2 l3 l4 = (f_X12_match σ l0 l1 l2 l3 l4).map (fun p => (p.1, ph x p.2)) := by
  unfold f_X12_match
  simp -failIfUnchanged only [ph_i, ph_si, ph_ald, ph_ast, ph_b, ph_m, ph_if, ph_b2, ph_b2m, ph_nm, ph_nmm, Option.map_some, Option.map_none, ph_noPattern, ph_layTwo, ph_match_24]
  all_goals rfl
theorem ph_saved_31 (l0 : Nat) (l1 : Int32) (l2 : Int32) (t0 : Int32) (t1 : Nat) : f_X12_saved_31 (ph x σ) l0 l1 l2 t0 t1 = (f_X12_saved_31 σ l0 l1 l2 t0 t1).map (fun p => (p.1, ph x p.2)) := by
  unfold f_X12_saved_31
  simp -failIfUnchanged only [ph_i, ph_si, ph_ald, ph_ast, ph_b, ph_m, ph_if, ph_b2, ph_b2m, ph_nm, ph_nmm, Option.map_some, Option.map_none, ph_layForms, ph_of, ph_layComposed]
  all_goals rfl
theorem ph_saved_30 (l0 : Nat) (l1 : Int32) (l2 : Int32) (t0 : Nat) : f_X12_saved_30 (ph x σ) l0 l1 l2 t0 = (f_X12_saved_30 σ l0 l1 l2 t0).map (fun p => (p.1, ph x p.2)) := by
  unfold f_X12_saved_30
  simp -failIfUnchanged only [ph_i, ph_si, ph_ald, ph_ast, ph_b, ph_m, ph_if, ph_b2, ph_b2m, ph_nm, ph_nmm, Option.map_some, Option.map_none, ph_saved_31]
  all_goals rfl
theorem ph_saved (l0 : Nat) (l1 : Int32) (l2 : Int32) : f_X12_saved (ph x σ) l0 l1 l2 = (f_X12_saved σ l0 l1 l2).map (fun p => (p.1, ph x p.2)) := by
  unfold f_X12_saved
  simp -failIfUnchanged only [ph_i, ph_si, ph_ald, ph_ast, ph_b, ph_m, ph_if, ph_b2, ph_b2m, ph_nm, ph_nmm, Option.map_some, Option.map_none, ph_isLine, ph_saved_30, ph_isSign, ph_isOfKind, ph_saved_31]
  all_goals rfl
theorem ph_mayHave_2  : ∀ n : Nat, f_X12_mayHave_2 (ph x σ) n = f_X12_mayHave_2 σ n := by
  intro n
  induction n with
  | zero => funext y0 y1 y2 y3; rfl
  | succ n ih =>
    funext y0 y1 y2 y3
    simp -failIfUnchanged only [f_X12_mayHave_2, ph_i, ph_ald, ph_isMark, ph_of, ih]
    all_goals rfl
theorem ph_mayHave (l0 : Nat) (l1 : Int32) (l2 : Int32) : f_X12_mayHave (ph x σ) l0 l1 l2 = f_X12_mayHave σ l0 l1 l2 := by
  unfold f_X12_mayHave
  simp -failIfUnchanged only [ph_i, ph_ald, ph_mayHave_2]
  all_goals rfl
theorem ph_bestClass_62  : ∀ (n : Nat) (σ : MsSt) (y2 : Nat) (y3 : Int32) (y4 : Int32) (y5 : Int32) (y6 : Int32) (y7 : Int32) (y8 : Int32), f_X12_bestClass_62  n (ph x σ) y2 y3 y4 y5 y6 y7 y8 = (f_X12_bestClass_62  n σ y2 y3 y4 y5 y6 y7 y8).map (fun p => (p.1, ph x p.2)) := by
  intro n
  induction n with
  | zero => intros; rfl
  | succ n ih =>
    intros
    simp -failIfUnchanged only [f_X12_bestClass_62, ph_i, ph_si, ph_ald, ph_ast, ph_b, ph_m, ph_if, ph_b2, ph_b2m, ph_nm, ph_nmm, Option.map_some, Option.map_none, ph_of, ph_mayHave, ph_layDecomposed, ih]
    all_goals rfl
theorem ph_bestClass_30 (l0 : Nat) (l1 : Int32) (l2 : Int32) (t0 : Int32) (t1 : Nat) : f_X12_bestClass_30 (ph x σ) l0 l1 l2 t0 t1 = (f_X12_bestClass_30 σ l0 l1 l2 t0 t1).map (fun p => (p.1, ph x p.2)) := by
  unfold f_X12_bestClass_30
  simp -failIfUnchanged only [ph_i, ph_si, ph_ald, ph_ast, ph_b, ph_m, ph_if, ph_b2, ph_b2m, ph_nm, ph_nmm, Option.map_some, Option.map_none, ph_of, ph_bestClass_62]
  all_goals rfl
theorem ph_bestClass_29 (l0 : Nat) (l1 : Int32) (l2 : Int32) (t0 : Nat) : f_X12_bestClass_29 (ph x σ) l0 l1 l2 t0 = (f_X12_bestClass_29 σ l0 l1 l2 t0).map (fun p => (p.1, ph x p.2)) := by
  unfold f_X12_bestClass_29
  simp -failIfUnchanged only [ph_i, ph_si, ph_ald, ph_ast, ph_b, ph_m, ph_if, ph_b2, ph_b2m, ph_nm, ph_nmm, Option.map_some, Option.map_none, ph_bestClass_30]
  all_goals rfl
theorem ph_bestClass (l0 : Nat) (l1 : Int32) (l2 : Int32) : f_X12_bestClass (ph x σ) l0 l1 l2 = (f_X12_bestClass σ l0 l1 l2).map (fun p => (p.1, ph x p.2)) := by
  unfold f_X12_bestClass
  simp -failIfUnchanged only [ph_i, ph_si, ph_ald, ph_ast, ph_b, ph_m, ph_if, ph_b2, ph_b2m, ph_nm, ph_nmm, Option.map_some, Option.map_none, ph_isLine, ph_bestClass_29, ph_isSign, ph_isMark, ph_bestClass_30]
  all_goals rfl
theorem ph_meanMarks_19  : ∀ (n : Nat) (σ : MsSt) (y2 : Nat) (y3 : Int32) (y4 : Int32), f_X12_meanMarks_19  n (ph x σ) y2 y3 y4 = (f_X12_meanMarks_19  n σ y2 y3 y4).map (fun p => (p.1, ph x p.2)) := by
  intro n
  induction n with
  | zero => intros; rfl
  | succ n ih =>
    intros
    simp -failIfUnchanged only [f_X12_meanMarks_19, ph_i, ph_si, ph_ald, ph_ast, ph_b, ph_m, ph_if, ph_b2, ph_b2m, ph_nm, ph_nmm, Option.map_some, Option.map_none, ph_marksOf, ih]
    all_goals rfl
theorem ph_meanMarks (l0 : Nat) (l1 : Int32) : f_X12_meanMarks (ph x σ) l0 l1 = (f_X12_meanMarks σ l0 l1).map (fun p => (p.1, ph x p.2)) := by
  unfold f_X12_meanMarks
  simp -failIfUnchanged only [ph_i, ph_si, ph_ald, ph_ast, ph_b, ph_m, ph_if, ph_b2, ph_b2m, ph_nm, ph_nmm, Option.map_some, Option.map_none, ph_noLine, ph_layClusters, ph_meanMarks_19]
  all_goals rfl
theorem ph_shortness (l0 : Nat) (l1 : Int32) : f_X12_shortness (ph x σ) l0 l1 = (f_X12_shortness σ l0 l1).map (fun p => (p.1, ph x p.2)) := by
  unfold f_X12_shortness
  simp -failIfUnchanged only [ph_i, ph_si, ph_ald, ph_ast, ph_b, ph_m, ph_if, ph_b2, ph_b2m, ph_nm, ph_nmm, Option.map_some, Option.map_none, ph_noLine, ph_layForms]
  all_goals rfl
theorem ph_copy_3  : ∀ (n : Nat) (σ : MsSt) (y2 : Nat) (y3 : Int32) (y4 : Nat) (y5 : Int32) (y6 : Int32), f_X12_copy_3  n (ph x σ) y2 y3 y4 y5 y6 = (f_X12_copy_3  n σ y2 y3 y4 y5 y6).map (ph x) := by
  intro n
  induction n with
  | zero => intros; rfl
  | succ n ih =>
    intros
    simp -failIfUnchanged only [f_X12_copy_3, ph_i, ph_si, ph_ald, ph_ast, ph_b, ph_m, ph_if, ph_b2, ph_b2m, ph_nm, ph_nmm, Option.map_some, Option.map_none, ih]
    all_goals rfl
theorem ph_copy (l0 : Nat) (l1 : Int32) (l2 : Nat) (l3 : Int32) : f_X12_copy (ph x σ) l0 l1 l2 l3 = (f_X12_copy σ l0 l1 l2 l3).map (ph x) := by
  unfold f_X12_copy
  simp -failIfUnchanged only [ph_i, ph_si, ph_ald, ph_ast, ph_b, ph_m, ph_if, ph_b2, ph_b2m, ph_nm, ph_nmm, Option.map_some, Option.map_none, ph_copy_3]
  all_goals rfl
theorem ph_record_48 (l0 : Nat) : f_X12_record_48 (ph x σ) l0 = (f_X12_record_48 σ l0).map (ph x) := by
  unfold f_X12_record_48
  simp -failIfUnchanged only [ph_i, ph_si, ph_ald, ph_ast, ph_b, ph_m, ph_if, ph_b2, ph_b2m, ph_nm, ph_nmm, Option.map_some, Option.map_none, ph_copy]
  all_goals rfl
theorem ph_record_11  : ∀ (n : Nat) (σ : MsSt) (y2 : Nat) (y3 : Int32), f_X12_record_11  n (ph x σ) y2 y3 = (f_X12_record_11  n σ y2 y3).map (ph x) := by
  intro n
  induction n with
  | zero => intros; rfl
  | succ n ih =>
    intros
    simp -failIfUnchanged only [f_X12_record_11, ph_i', ph_si', ph_ald', ph_ast, ph_b, ph_m, ph_if, ph_b2, ph_b2m, ph_nm', ph_nmm', Option.map_some, Option.map_none, ph_copy, ph_record_48, ih]
    all_goals rfl
theorem ph_record (l0 : Nat) : f_X12_record (ph x σ) l0 = (f_X12_record σ l0).map (ph x) := by
  unfold f_X12_record
  simp -failIfUnchanged only [ph_i, ph_si, ph_ald, ph_ast, ph_b, ph_m, ph_if, ph_b2, ph_b2m, ph_nm, ph_nmm, Option.map_some, Option.map_none, ph_record_11, ph_record_48]
  all_goals rfl
theorem ph_hand (l0 : Nat) (l1 : Int32) : f_X12_hand (ph x σ) l0 l1 = (f_X12_hand σ l0 l1).map (fun p => (p.1, ph x p.2)) := by
  unfold f_X12_hand
  simp -failIfUnchanged only [ph_i, ph_si, ph_ald, ph_ast, ph_b, ph_m, ph_if, ph_b2, ph_b2m, ph_nm, ph_nmm, Option.map_some, Option.map_none, ph_noLine, ph_record]
  all_goals rfl
theorem ph_type_86  : ∀ (n : Nat) (σ : MsSt) (y2 : Nat) (y3 : Int32) (y4 : Int32) (y5 : Int32) (y6 : Int32), f_X12_type_86  n (ph x σ) y2 y3 y4 y5 y6 = (f_X12_type_86  n σ y2 y3 y4 y5 y6).map (fun p => (p.1, ph x p.2)) := by
  intro n
  induction n with
  | zero => intros; rfl
  | succ n ih =>
    intros
    simp -failIfUnchanged only [f_X12_type_86, ph_i, ph_si, ph_ald, ph_ast, ph_b, ph_m, ph_if, ph_b2, ph_b2m, ph_nm, ph_nmm, Option.map_some, Option.map_none, ph_spot, ph_layDecomposed, ih]
    all_goals rfl
theorem ph_type_44 (l0 : Nat) (l1 : Int32) (l2 : Int32) (l3 : Int32) (t0 : Int32) (t1 : Nat) : f_X12_type_44 (ph x σ) l0 l1 l2 l3 t0 t1 = (f_X12_type_44 σ l0 l1 l2 l3 t0 t1).map (fun p => (p.1, ph x p.2)) := by
  unfold f_X12_type_44
  simp -failIfUnchanged only [ph_i, ph_si, ph_ald, ph_ast, ph_b, ph_m, ph_if, ph_b2, ph_b2m, ph_nm, ph_nmm, Option.map_some, Option.map_none, ph_record, ph_type_86]
  all_goals rfl
theorem ph_type_17 (l0 : Nat) (l1 : Int32) (l2 : Int32) (l3 : Int32) (t0 : Nat) : f_X12_type_17 (ph x σ) l0 l1 l2 l3 t0 = (f_X12_type_17 σ l0 l1 l2 l3 t0).map (fun p => (p.1, ph x p.2)) := by
  unfold f_X12_type_17
  simp -failIfUnchanged only [ph_i, ph_si, ph_ald, ph_ast, ph_b, ph_m, ph_if, ph_b2, ph_b2m, ph_nm, ph_nmm, Option.map_some, Option.map_none, ph_type_44]
  all_goals rfl
theorem ph_type (l0 : Nat) (l1 : Int32) (l2 : Int32) (l3 : Int32) : f_X12_type (ph x σ) l0 l1 l2 l3 = (f_X12_type σ l0 l1 l2 l3).map (fun p => (p.1, ph x p.2)) := by
  unfold f_X12_type
  simp -failIfUnchanged only [ph_i, ph_si, ph_ald, ph_ast, ph_b, ph_m, ph_if, ph_b2, ph_b2m, ph_nm, ph_nmm, Option.map_some, Option.map_none, ph_isLine, ph_type_17, ph_isSign, ph_inRange, ph_type_44]
  all_goals rfl
theorem ph_shorten_2  : ∀ (n : Nat) (σ : MsSt) (y2 : Nat) (y3 : Int32) (y4 : Int32) (y5 : Int32), f_X12_shorten_2  n (ph x σ) y2 y3 y4 y5 = (f_X12_shorten_2  n σ y2 y3 y4 y5).map (ph x) := by
  intro n
  induction n with
  | zero => intros; rfl
  | succ n ih =>
    intros
    simp -failIfUnchanged only [f_X12_shorten_2, ph_i, ph_si, ph_ald, ph_ast, ph_b, ph_m, ph_if, ph_b2, ph_b2m, ph_nm, ph_nmm, Option.map_some, Option.map_none, ph_spot, ih]
    all_goals rfl
theorem ph_shorten (l0 : Nat) (l1 : Int32) (l2 : Int32) : f_X12_shorten (ph x σ) l0 l1 l2 = (f_X12_shorten σ l0 l1 l2).map (ph x) := by
  unfold f_X12_shorten
  simp -failIfUnchanged only [ph_i, ph_si, ph_ald, ph_ast, ph_b, ph_m, ph_if, ph_b2, ph_b2m, ph_nm, ph_nmm, Option.map_some, Option.map_none, ph_shorten_2]
  all_goals rfl
theorem ph_erase_72  : ∀ (n : Nat) (σ : MsSt) (y2 : Nat) (y3 : Int32) (y4 : Int32) (y5 : Int32) (y6 : Int32), f_X12_erase_72  n (ph x σ) y2 y3 y4 y5 y6 = (f_X12_erase_72  n σ y2 y3 y4 y5 y6).map (fun p => (p.1, ph x p.2)) := by
  intro n
  induction n with
  | zero => intros; rfl
  | succ n ih =>
    intros
    simp -failIfUnchanged only [f_X12_erase_72, ph_i, ph_si, ph_ald, ph_ast, ph_b, ph_m, ph_if, ph_b2, ph_b2m, ph_nm, ph_nmm, Option.map_some, Option.map_none, ph_spot, ph_shorten, ih]
    all_goals rfl
theorem ph_erase_33 (l0 : Nat) (l1 : Int32) (l2 : Int32) (l3 : Int32) (t0 : Int32) (t1 : Nat) : f_X12_erase_33 (ph x σ) l0 l1 l2 l3 t0 t1 = (f_X12_erase_33 σ l0 l1 l2 l3 t0 t1).map (fun p => (p.1, ph x p.2)) := by
  unfold f_X12_erase_33
  simp -failIfUnchanged only [ph_i, ph_si, ph_ald, ph_ast, ph_b, ph_m, ph_if, ph_b2, ph_b2m, ph_nm, ph_nmm, Option.map_some, Option.map_none, ph_record, ph_erase_72]
  all_goals rfl
theorem ph_erase_19 (l0 : Nat) (l1 : Int32) (l2 : Int32) (l3 : Int32) (t0 : Nat) : f_X12_erase_19 (ph x σ) l0 l1 l2 l3 t0 = (f_X12_erase_19 σ l0 l1 l2 l3 t0).map (fun p => (p.1, ph x p.2)) := by
  unfold f_X12_erase_19
  simp -failIfUnchanged only [ph_i, ph_si, ph_ald, ph_ast, ph_b, ph_m, ph_if, ph_b2, ph_b2m, ph_nm, ph_nmm, Option.map_some, Option.map_none, ph_erase_33]
  all_goals rfl
theorem ph_erase (l0 : Nat) (l1 : Int32) (l2 : Int32) (l3 : Int32) : f_X12_erase (ph x σ) l0 l1 l2 l3 = (f_X12_erase σ l0 l1 l2 l3).map (fun p => (p.1, ph x p.2)) := by
  unfold f_X12_erase
  simp -failIfUnchanged only [ph_i, ph_si, ph_ald, ph_ast, ph_b, ph_m, ph_if, ph_b2, ph_b2m, ph_nm, ph_nmm, Option.map_some, Option.map_none, ph_isPlace, ph_erase_19, ph_erase_33]
  all_goals rfl
theorem ph_write_7  : ∀ (n : Nat) (σ : MsSt) (y2 : Nat) (y3 : Int32) (y4 : Nat) (y5 : Int32) (y6 : Int32), f_X12_write_7  n (ph x σ) y2 y3 y4 y5 y6 = (f_X12_write_7  n σ y2 y3 y4 y5 y6).map (ph x) := by
  intro n
  induction n with
  | zero => intros; rfl
  | succ n ih =>
    intros
    simp -failIfUnchanged only [f_X12_write_7, ph_i, ph_si, ph_ald, ph_ast, ph_b, ph_m, ph_if, ph_b2, ph_b2m, ph_nm, ph_nmm, Option.map_some, Option.map_none, ph_spot, ph_shorten, ih]
    all_goals rfl
theorem ph_write (l0 : Nat) (l1 : Int32) (l2 : Nat) (l3 : Int32) : f_X12_write (ph x σ) l0 l1 l2 l3 = (f_X12_write σ l0 l1 l2 l3).map (ph x) := by
  unfold f_X12_write
  simp -failIfUnchanged only [ph_i, ph_si, ph_ald, ph_ast, ph_b, ph_m, ph_if, ph_b2, ph_b2m, ph_nm, ph_nmm, Option.map_some, Option.map_none, ph_record, ph_write_7]
  all_goals rfl
theorem ph_stack_134  : ∀ (n : Nat) (σ : MsSt) (y2 : Nat) (y3 : Int32) (y4 : Int32) (y5 : Int32) (y6 : Int32) (y7 : Int32), f_X12_stack_134  n (ph x σ) y2 y3 y4 y5 y6 y7 = (f_X12_stack_134  n σ y2 y3 y4 y5 y6 y7).map (fun p => (p.1, ph x p.2)) := by
  intro n
  induction n with
  | zero => intros; rfl
  | succ n ih =>
    intros
    simp -failIfUnchanged only [f_X12_stack_134, ph_i, ph_si, ph_ald, ph_ast, ph_b, ph_m, ph_if, ph_b2, ph_b2m, ph_nm, ph_nmm, Option.map_some, Option.map_none, ph_write, ih]
    all_goals rfl
theorem ph_stack_118 (l0 : Nat) (l1 : Int32) (l2 : Int32) (l3 : Int32) (l4 : Int32) : f_X12_stack_118 (ph x σ) l0 l1 l2 l3 l4 = (f_X12_stack_118 σ l0 l1 l2 l3 l4).map (fun p => (p.1, ph x p.2)) := by
  unfold f_X12_stack_118
  simp -failIfUnchanged only [ph_i, ph_si, ph_ald, ph_ast, ph_b, ph_m, ph_if, ph_b2, ph_b2m, ph_nm, ph_nmm, Option.map_some, Option.map_none, ph_firstMark, ph_stack_134]
  all_goals rfl
theorem ph_stack_71  : ∀ (n : Nat) (σ : MsSt) (y2 : Nat) (y3 : Int32) (y4 : Int32) (y5 : Int32) (y6 : Int32), f_X12_stack_71  n (ph x σ) y2 y3 y4 y5 y6 = (f_X12_stack_71  n σ y2 y3 y4 y5 y6).map (fun p => (p.1, ph x p.2)) := by
  intro n
  induction n with
  | zero => intros; rfl
  | succ n ih =>
    intros
    simp -failIfUnchanged only [f_X12_stack_71, ph_i, ph_si, ph_ald, ph_ast, ph_b, ph_m, ph_if, ph_b2, ph_b2m, ph_nm, ph_nmm, Option.map_some, Option.map_none, ph_firstMark, ph_of, ph_stack_118, ih]
    all_goals rfl
theorem ph_stack_35 (l0 : Nat) (l1 : Int32) (l2 : Int32) (l3 : Int32) (t0 : Int32) (t1 : Nat) : f_X12_stack_35 (ph x σ) l0 l1 l2 l3 t0 t1 = (f_X12_stack_35 σ l0 l1 l2 l3 t0 t1).map (fun p => (p.1, ph x p.2)) := by
  unfold f_X12_stack_35
  simp -failIfUnchanged only [ph_i, ph_si, ph_ald, ph_ast, ph_b, ph_m, ph_if, ph_b2, ph_b2m, ph_nm, ph_nmm, Option.map_some, Option.map_none, ph_stack_71]
  all_goals rfl
theorem ph_stack_18 (l0 : Nat) (l1 : Int32) (l2 : Int32) (l3 : Int32) (t0 : Nat) : f_X12_stack_18 (ph x σ) l0 l1 l2 l3 t0 = (f_X12_stack_18 σ l0 l1 l2 l3 t0).map (fun p => (p.1, ph x p.2)) := by
  unfold f_X12_stack_18
  simp -failIfUnchanged only [ph_i, ph_si, ph_ald, ph_ast, ph_b, ph_m, ph_if, ph_b2, ph_b2m, ph_nm, ph_nmm, Option.map_some, Option.map_none, ph_stack_35]
  all_goals rfl
theorem ph_stack (l0 : Nat) (l1 : Int32) (l2 : Int32) (l3 : Int32) : f_X12_stack (ph x σ) l0 l1 l2 l3 = (f_X12_stack σ l0 l1 l2 l3).map (fun p => (p.1, ph x p.2)) := by
  unfold f_X12_stack
  simp -failIfUnchanged only [ph_i, ph_si, ph_ald, ph_ast, ph_b, ph_m, ph_if, ph_b2, ph_b2m, ph_nm, ph_nmm, Option.map_some, Option.map_none, ph_isCluster, ph_stack_18, ph_isSign, ph_isMark, ph_stack_35]
  all_goals rfl
theorem ph_strip_124 (k49 : MsSt → Nat → Int32 → Int32 → Int32 → Int32 → Int32 → Option (Int32 × MsSt)) (l0 : Nat) (l1 : Int32) (l2 : Int32) (l3 : Int32) (l4 : Int32) (l5 : Int32) (t0 : Int32) (hk49 : ∀ (y0 : MsSt) (y1 : Nat) (y2 : Int32) (y3 : Int32) (y4 : Int32) (y5 : Int32) (y6 : Int32), k49 (ph x y0) y1 y2 y3 y4 y5 y6 = (k49 y0 y1 y2 y3 y4 y5 y6).map (fun p => (p.1, ph x p.2))) : f_X12_strip_124 k49 (ph x σ) l0 l1 l2 l3 l4 l5 t0 = (f_X12_strip_124 k49 σ l0 l1 l2 l3 l4 l5 t0).map (fun p => (p.1, ph x p.2)) := by
  unfold f_X12_strip_124
  simp -failIfUnchanged only [ph_i, ph_si, ph_ald, ph_ast, ph_b, ph_m, ph_if, ph_b2, ph_b2m, ph_nm, ph_nmm, Option.map_some, Option.map_none, hk49]
  all_goals rfl
theorem ph_strip_123 (k49 : MsSt → Nat → Int32 → Int32 → Int32 → Int32 → Int32 → Option (Int32 × MsSt)) (l0 : Nat) (l1 : Int32) (l2 : Int32) (l3 : Int32) (l4 : Int32) (l5 : Int32) (hk49 : ∀ (y0 : MsSt) (y1 : Nat) (y2 : Int32) (y3 : Int32) (y4 : Int32) (y5 : Int32) (y6 : Int32), k49 (ph x y0) y1 y2 y3 y4 y5 y6 = (k49 y0 y1 y2 y3 y4 y5 y6).map (fun p => (p.1, ph x p.2))) : f_X12_strip_123 k49 (ph x σ) l0 l1 l2 l3 l4 l5 = (f_X12_strip_123 k49 σ l0 l1 l2 l3 l4 l5).map (fun p => (p.1, ph x p.2)) := by
  unfold f_X12_strip_123
  simp -failIfUnchanged only [ph_i, ph_si, ph_ald, ph_ast, ph_b, ph_m, ph_if, ph_b2, ph_b2m, ph_nm, ph_nmm, Option.map_some, Option.map_none, ph_strip_124 (hk49 := hk49), hk49]
  all_goals rfl
theorem ph_strip_119 (k49 : MsSt → Nat → Int32 → Int32 → Int32 → Int32 → Int32 → Option (Int32 × MsSt)) (l0 : Nat) (l1 : Int32) (l2 : Int32) (l3 : Int32) (l4 : Int32) (l5 : Int32) (hk49 : ∀ (y0 : MsSt) (y1 : Nat) (y2 : Int32) (y3 : Int32) (y4 : Int32) (y5 : Int32) (y6 : Int32), k49 (ph x y0) y1 y2 y3 y4 y5 y6 = (k49 y0 y1 y2 y3 y4 y5 y6).map (fun p => (p.1, ph x p.2))) : f_X12_strip_119 k49 (ph x σ) l0 l1 l2 l3 l4 l5 = (f_X12_strip_119 k49 σ l0 l1 l2 l3 l4 l5).map (fun p => (p.1, ph x p.2)) := by
  unfold f_X12_strip_119
  simp -failIfUnchanged only [ph_i, ph_si, ph_ald, ph_ast, ph_b, ph_m, ph_if, ph_b2, ph_b2m, ph_nm, ph_nmm, Option.map_some, Option.map_none, ph_strip_124 (hk49 := hk49), hk49]
  all_goals rfl
theorem ph_strip_86 (k49 : MsSt → Nat → Int32 → Int32 → Int32 → Int32 → Int32 → Option (Int32 × MsSt)) (l0 : Nat) (l1 : Int32) (l2 : Int32) (l3 : Int32) (l4 : Int32) (l5 : Int32) (t0 : Int32) (hk49 : ∀ (y0 : MsSt) (y1 : Nat) (y2 : Int32) (y3 : Int32) (y4 : Int32) (y5 : Int32) (y6 : Int32), k49 (ph x y0) y1 y2 y3 y4 y5 y6 = (k49 y0 y1 y2 y3 y4 y5 y6).map (fun p => (p.1, ph x p.2))) : f_X12_strip_86 k49 (ph x σ) l0 l1 l2 l3 l4 l5 t0 = (f_X12_strip_86 k49 σ l0 l1 l2 l3 l4 l5 t0).map (fun p => (p.1, ph x p.2)) := by
  unfold f_X12_strip_86
  simp -failIfUnchanged only [ph_i, ph_si, ph_ald, ph_ast, ph_b, ph_m, ph_if, ph_b2, ph_b2m, ph_nm, ph_nmm, Option.map_some, Option.map_none, ph_strip_123 (hk49 := hk49), ph_strip_119 (hk49 := hk49), ph_of, hk49]
  all_goals rfl
theorem ph_strip_85 (k49 : MsSt → Nat → Int32 → Int32 → Int32 → Int32 → Int32 → Option (Int32 × MsSt)) (l0 : Nat) (l1 : Int32) (l2 : Int32) (l3 : Int32) (l4 : Int32) (l5 : Int32) (hk49 : ∀ (y0 : MsSt) (y1 : Nat) (y2 : Int32) (y3 : Int32) (y4 : Int32) (y5 : Int32) (y6 : Int32), k49 (ph x y0) y1 y2 y3 y4 y5 y6 = (k49 y0 y1 y2 y3 y4 y5 y6).map (fun p => (p.1, ph x p.2))) : f_X12_strip_85 k49 (ph x σ) l0 l1 l2 l3 l4 l5 = (f_X12_strip_85 k49 σ l0 l1 l2 l3 l4 l5).map (fun p => (p.1, ph x p.2)) := by
  unfold f_X12_strip_85
  simp -failIfUnchanged only [ph_i, ph_si, ph_ald, ph_ast, ph_b, ph_m, ph_if, ph_b2, ph_b2m, ph_nm, ph_nmm, Option.map_some, Option.map_none, ph_strip_86 (hk49 := hk49), hk49]
  all_goals rfl
theorem ph_strip_49  : ∀ (n : Nat) (σ : MsSt) (y2 : Nat) (y3 : Int32) (y4 : Int32) (y5 : Int32) (y6 : Int32) (y7 : Int32), f_X12_strip_49  n (ph x σ) y2 y3 y4 y5 y6 y7 = (f_X12_strip_49  n σ y2 y3 y4 y5 y6 y7).map (fun p => (p.1, ph x p.2)) := by
  intro n
  induction n with
  | zero => intros; rfl
  | succ n ih =>
    intros
    simp -failIfUnchanged only [f_X12_strip_49, ph_i, ph_si, ph_ald, ph_ast, ph_b, ph_m, ph_if, ph_b2, ph_b2m, ph_nm, ph_nmm, Option.map_some, Option.map_none, ph_firstMark, ph_strip_85 (hk49 := ih), ph_strip_86 (hk49 := ih), ph_write, ih]
    all_goals rfl
theorem ph_strip_31 (l0 : Nat) (l1 : Int32) (l2 : Int32) (l3 : Int32) (t0 : Int32) (t1 : Nat) : f_X12_strip_31 (ph x σ) l0 l1 l2 l3 t0 t1 = (f_X12_strip_31 σ l0 l1 l2 l3 t0 t1).map (fun p => (p.1, ph x p.2)) := by
  unfold f_X12_strip_31
  simp -failIfUnchanged only [ph_i, ph_si, ph_ald, ph_ast, ph_b, ph_m, ph_if, ph_b2, ph_b2m, ph_nm, ph_nmm, Option.map_some, Option.map_none, ph_strip_49]
  all_goals rfl
theorem ph_strip (l0 : Nat) (l1 : Int32) (l2 : Int32) (l3 : Int32) : f_X12_strip (ph x σ) l0 l1 l2 l3 = (f_X12_strip σ l0 l1 l2 l3).map (fun p => (p.1, ph x p.2)) := by
  unfold f_X12_strip
  simp -failIfUnchanged only [ph_i, ph_si, ph_ald, ph_ast, ph_b, ph_m, ph_if, ph_b2, ph_b2m, ph_nm, ph_nmm, Option.map_some, Option.map_none, ph_isCluster, ph_strip_31, ph_inRange]
  all_goals rfl
theorem ph_become (l0 : Nat) (l1 : Int32) (l2 : Nat) (l3 : Int32) : f_X12_become (ph x σ) l0 l1 l2 l3 = (f_X12_become σ l0 l1 l2 l3).map (fun p => (p.1, ph x p.2)) := by
  unfold f_X12_become
  simp -failIfUnchanged only [ph_i, ph_si, ph_ald, ph_ast, ph_b, ph_m, ph_if, ph_b2, ph_b2m, ph_nm, ph_nmm, Option.map_some, Option.map_none, ph_write]
  all_goals rfl
theorem ph_decompose (l0 : Nat) (l1 : Int32) : f_X12_decompose (ph x σ) l0 l1 = (f_X12_decompose σ l0 l1).map (fun p => (p.1, ph x p.2)) := by
  unfold f_X12_decompose
  simp -failIfUnchanged only [ph_i, ph_si, ph_ald, ph_ast, ph_b, ph_m, ph_if, ph_b2, ph_b2m, ph_nm, ph_nmm, Option.map_some, Option.map_none, ph_noLine, ph_layDecomposed, ph_become]
  all_goals rfl
theorem ph_compose (l0 : Nat) (l1 : Int32) : f_X12_compose (ph x σ) l0 l1 = (f_X12_compose σ l0 l1).map (fun p => (p.1, ph x p.2)) := by
  unfold f_X12_compose
  simp -failIfUnchanged only [ph_i, ph_si, ph_ald, ph_ast, ph_b, ph_m, ph_if, ph_b2, ph_b2m, ph_nm, ph_nmm, Option.map_some, Option.map_none, ph_noLine, ph_layForms, ph_become]
  all_goals rfl
theorem ph_join_49  : ∀ (n : Nat) (σ : MsSt) (y2 : Nat) (y3 : Int32) (y4 : Int32) (y5 : Int32) (y6 : Int32) (y7 : Int32), f_X12_join_49  n (ph x σ) y2 y3 y4 y5 y6 y7 = (f_X12_join_49  n σ y2 y3 y4 y5 y6 y7).map (fun p => (p.1, ph x p.2)) := by
  intro n
  induction n with
  | zero => intros; rfl
  | succ n ih =>
    intros
    simp -failIfUnchanged only [f_X12_join_49, ph_i, ph_si, ph_ald, ph_ast, ph_b, ph_m, ph_if, ph_b2, ph_b2m, ph_nm, ph_nmm, Option.map_some, Option.map_none, ph_spot, ih]
    all_goals rfl
theorem ph_join (l0 : Nat) (l1 : Int32) (l2 : Int32) : f_X12_join (ph x σ) l0 l1 l2 = (f_X12_join σ l0 l1 l2).map (fun p => (p.1, ph x p.2)) := by
  unfold f_X12_join
  simp -failIfUnchanged only [ph_i, ph_si, ph_ald, ph_ast, ph_b, ph_m, ph_if, ph_b2, ph_b2m, ph_nm, ph_nmm, Option.map_some, Option.map_none, ph_noTwoLines, ph_record, ph_join_49]
  all_goals rfl
theorem ph_set (l0 : Nat) (l1 : Int32) (l2 : Int32) : f_X12_set (ph x σ) l0 l1 l2 = (f_X12_set σ l0 l1 l2).map (fun p => (p.1, ph x p.2)) := by
  unfold f_X12_set
  simp -failIfUnchanged only [ph_i, ph_si, ph_ald, ph_ast, ph_b, ph_m, ph_if, ph_b2, ph_b2m, ph_nm, ph_nmm, Option.map_some, Option.map_none, ph_record]
  all_goals rfl
theorem ph_setClass_38 (l0 : Nat) (l1 : Int32) (l2 : Int32) (t0 : Int32) (t1 : Nat) : f_X12_setClass_38 (ph x σ) l0 l1 l2 t0 t1 = (f_X12_setClass_38 σ l0 l1 l2 t0 t1).map (fun p => (p.1, ph x p.2)) := by
  unfold f_X12_setClass_38
  simp -failIfUnchanged only [ph_i, ph_si, ph_ald, ph_ast, ph_b, ph_m, ph_if, ph_b2, ph_b2m, ph_nm, ph_nmm, Option.map_some, Option.map_none, ph_mayHave, ph_of, ph_set]
  all_goals rfl
theorem ph_setClass_37 (l0 : Nat) (l1 : Int32) (l2 : Int32) (t0 : Nat) : f_X12_setClass_37 (ph x σ) l0 l1 l2 t0 = (f_X12_setClass_37 σ l0 l1 l2 t0).map (fun p => (p.1, ph x p.2)) := by
  unfold f_X12_setClass_37
  simp -failIfUnchanged only [ph_i, ph_si, ph_ald, ph_ast, ph_b, ph_m, ph_if, ph_b2, ph_b2m, ph_nm, ph_nmm, Option.map_some, Option.map_none, ph_setClass_38]
  all_goals rfl
theorem ph_setClass (l0 : Nat) (l1 : Int32) (l2 : Int32) : f_X12_setClass (ph x σ) l0 l1 l2 = (f_X12_setClass σ l0 l1 l2).map (fun p => (p.1, ph x p.2)) := by
  unfold f_X12_setClass
  simp -failIfUnchanged only [ph_i, ph_si, ph_ald, ph_ast, ph_b, ph_m, ph_if, ph_b2, ph_b2m, ph_nm, ph_nmm, Option.map_some, Option.map_none, ph_isSign, ph_setClass_38, ph_isMark, ph_setClass_37, ph_inRange]
  all_goals rfl
theorem ph_setSpare_27 (l0 : Nat) (l1 : Int32) (l2 : Int32) (t0 : Int32) (t1 : Nat) : f_X12_setSpare_27 (ph x σ) l0 l1 l2 t0 t1 = (f_X12_setSpare_27 σ l0 l1 l2 t0 t1).map (fun p => (p.1, ph x p.2)) := by
  unfold f_X12_setSpare_27
  simp -failIfUnchanged only [ph_i, ph_si, ph_ald, ph_ast, ph_b, ph_m, ph_if, ph_b2, ph_b2m, ph_nm, ph_nmm, Option.map_some, Option.map_none, ph_of, ph_set]
  all_goals rfl
theorem ph_setSpare (l0 : Nat) (l1 : Int32) (l2 : Int32) : f_X12_setSpare (ph x σ) l0 l1 l2 = (f_X12_setSpare σ l0 l1 l2).map (fun p => (p.1, ph x p.2)) := by
  unfold f_X12_setSpare
  simp -failIfUnchanged only [ph_i, ph_si, ph_ald, ph_ast, ph_b, ph_m, ph_if, ph_b2, ph_b2m, ph_nm, ph_nmm, Option.map_some, Option.map_none, ph_isSign, ph_setSpare_27, ph_isOfKind]
  all_goals rfl
theorem ph_put (l0 : Nat) (l1 : Int32) : f_X12_put (ph x σ) l0 l1 = (f_X12_put σ l0 l1).map (ph x) := by
  unfold f_X12_put
  simp -failIfUnchanged only [ph_i, ph_si, ph_ald, ph_ast, ph_b, ph_m, ph_if, ph_b2, ph_b2m, ph_nm, ph_nmm, Option.map_some, Option.map_none]
  all_goals rfl
theorem ph_putSign_30  : ∀ (n : Nat) (σ : MsSt) (y2 : Nat) (y3 : Int32) (y4 : Int32), f_X12_putSign_30  n (ph x σ) y2 y3 y4 = (f_X12_putSign_30  n σ y2 y3 y4).map (ph x) := by
  intro n
  induction n with
  | zero => intros; rfl
  | succ n ih =>
    intros
    simp -failIfUnchanged only [f_X12_putSign_30, ph_i, ph_si, ph_ald, ph_ast, ph_b, ph_m, ph_if, ph_b2, ph_b2m, ph_nm, ph_nmm, Option.map_some, Option.map_none, ph_put, ih]
    all_goals rfl
theorem ph_putSign (l0 : Nat) (l1 : Int32) : f_X12_putSign (ph x σ) l0 l1 = (f_X12_putSign σ l0 l1).map (ph x) := by
  unfold f_X12_putSign
  simp -failIfUnchanged only [ph_i, ph_si, ph_ald, ph_ast, ph_b, ph_m, ph_if, ph_b2, ph_b2m, ph_nm, ph_nmm, Option.map_some, Option.map_none, ph_isOfKind, ph_isMark, ph_put, ph_putSign_30]
  all_goals rfl
theorem ph_format_70 (k50 : MsSt → Nat → Int32 → Int32 → Int32 → Option (Int32 × MsSt)) (l0 : Nat) (l1 : Int32) (l2 : Int32) (l3 : Int32) (hk50 : ∀ (y0 : MsSt) (y1 : Nat) (y2 : Int32) (y3 : Int32) (y4 : Int32), k50 (ph x y0) y1 y2 y3 y4 = (k50 y0 y1 y2 y3 y4).map (fun p => (p.1, ph x p.2))) : f_X12_format_70 k50 (ph x σ) l0 l1 l2 l3 = (f_X12_format_70 k50 σ l0 l1 l2 l3).map (fun p => (p.1, ph x p.2)) := by
  unfold f_X12_format_70
  simp -failIfUnchanged only [ph_i, ph_si, ph_ald, ph_ast, ph_b, ph_m, ph_if, ph_b2, ph_b2m, ph_nm, ph_nmm, Option.map_some, Option.map_none, ph_signIn, ph_putSign, hk50]
  all_goals rfl
theorem ph_format_50  : ∀ (n : Nat) (σ : MsSt) (y2 : Nat) (y3 : Int32) (y4 : Int32) (y5 : Int32), f_X12_format_50  n (ph x σ) y2 y3 y4 y5 = (f_X12_format_50  n σ y2 y3 y4 y5).map (fun p => (p.1, ph x p.2)) := by
  intro n
  induction n with
  | zero => intros; rfl
  | succ n ih =>
    intros
    simp -failIfUnchanged only [f_X12_format_50, ph_i, ph_si, ph_ald, ph_ast, ph_b, ph_m, ph_if, ph_b2, ph_b2m, ph_nm, ph_nmm, Option.map_some, Option.map_none, ph_manyIn, ph_put, ph_format_70 (hk50 := ih), ih]
    all_goals rfl
theorem ph_format_26 (l0 : Nat) (l1 : Int32) (l2 : Int32) (t0 : Int32) (t1 : Nat) : f_X12_format_26 (ph x σ) l0 l1 l2 t0 t1 = (f_X12_format_26 σ l0 l1 l2 t0 t1).map (fun p => (p.1, ph x p.2)) := by
  unfold f_X12_format_26
  simp -failIfUnchanged only [ph_i, ph_si, ph_ald, ph_ast, ph_b, ph_m, ph_if, ph_b2, ph_b2m, ph_nm, ph_nmm, Option.map_some, Option.map_none, ph_layForms, ph_format_50]
  all_goals rfl
theorem ph_format_25 (l0 : Nat) (l1 : Int32) (l2 : Int32) (t0 : Nat) : f_X12_format_25 (ph x σ) l0 l1 l2 t0 = (f_X12_format_25 σ l0 l1 l2 t0).map (fun p => (p.1, ph x p.2)) := by
  unfold f_X12_format_25
  simp -failIfUnchanged only [ph_i, ph_si, ph_ald, ph_ast, ph_b, ph_m, ph_if, ph_b2, ph_b2m, ph_nm, ph_nmm, Option.map_some, Option.map_none, ph_format_26]
  all_goals rfl
theorem ph_format (l0 : Nat) (l1 : Int32) (l2 : Int32) : f_X12_format (ph x σ) l0 l1 l2 = (f_X12_format σ l0 l1 l2).map (fun p => (p.1, ph x p.2)) := by
  unfold f_X12_format
  simp -failIfUnchanged only [ph_i, ph_si, ph_ald, ph_ast, ph_b, ph_m, ph_if, ph_b2, ph_b2m, ph_nm, ph_nmm, Option.map_some, Option.map_none, ph_isLine, ph_format_25, ph_inRange, ph_format_26]
  all_goals rfl
theorem ph_formattedByte (l0 : Nat) (l1 : Int32) : f_X12_formattedByte (ph x σ) l0 l1 = (f_X12_formattedByte σ l0 l1).map (fun p => (p.1, ph x p.2)) := by
  unfold f_X12_formattedByte
  simp -failIfUnchanged only [ph_i, ph_si, ph_ald, ph_ast, ph_b, ph_m, ph_if, ph_b2, ph_b2m, ph_nm, ph_nmm, Option.map_some, Option.map_none, ph_inRange]
  all_goals rfl
theorem ph_undoCount (l0 : Nat) : f_X12_undoCount (ph x σ) l0 = (f_X12_undoCount σ l0).map (fun p => (p.1, ph x p.2)) := by
  unfold f_X12_undoCount
  simp -failIfUnchanged only [ph_i, ph_si, ph_ald, ph_ast, ph_b, ph_m, ph_if, ph_b2, ph_b2m, ph_nm, ph_nmm, Option.map_some, Option.map_none]
  all_goals rfl
theorem ph_undo (l0 : Nat) : f_X12_undo (ph x σ) l0 = (f_X12_undo σ l0).map (fun p => (p.1, ph x p.2)) := by
  unfold f_X12_undo
  simp -failIfUnchanged only [ph_i', ph_si', ph_ald', ph_ast, ph_b, ph_m, ph_if, ph_b2, ph_b2m, ph_nm', ph_nmm', Option.map_some, Option.map_none, ph_copy]
  all_goals rfl
theorem ph_saveSnapshot (l0 : Nat) : f_X12_saveSnapshot (ph x σ) l0 = (f_X12_saveSnapshot σ l0).map (ph x) := by
  unfold f_X12_saveSnapshot
  simp -failIfUnchanged only [ph_i, ph_si, ph_ald, ph_ast, ph_b, ph_m, ph_if, ph_b2, ph_b2m, ph_nm, ph_nmm, Option.map_some, Option.map_none, ph_copy]
  all_goals rfl
theorem ph_restoreSnapshot (l0 : Nat) : f_X12_restoreSnapshot (ph x σ) l0 = (f_X12_restoreSnapshot σ l0).map (fun p => (p.1, ph x p.2)) := by
  unfold f_X12_restoreSnapshot
  simp -failIfUnchanged only [ph_i, ph_si, ph_ald, ph_ast, ph_b, ph_m, ph_if, ph_b2, ph_b2m, ph_nm, ph_nmm, Option.map_some, Option.map_none, ph_copy]
  all_goals rfl
theorem ph_feed_76 (k23 : MsSt → Nat → Int32 → Int32 → Int32 → Int32 → Int32 → Int32 → Option (Int32 × MsSt)) (l0 : Nat) (l1 : Int32) (l2 : Int32) (l3 : Int32) (l4 : Int32) (l5 : Int32) (l6 : Int32) (t0 : Int32) (hk23 : ∀ (y0 : MsSt) (y1 : Nat) (y2 : Int32) (y3 : Int32) (y4 : Int32) (y5 : Int32) (y6 : Int32) (y7 : Int32), k23 (ph x y0) y1 y2 y3 y4 y5 y6 y7 = (k23 y0 y1 y2 y3 y4 y5 y6 y7).map (fun p => (p.1, ph x p.2))) : f_X12_feed_76 k23 (ph x σ) l0 l1 l2 l3 l4 l5 l6 t0 = (f_X12_feed_76 k23 σ l0 l1 l2 l3 l4 l5 l6 t0).map (fun p => (p.1, ph x p.2)) := by
  unfold f_X12_feed_76
  simp -failIfUnchanged only [ph_i, ph_si, ph_ald, ph_ast, ph_b, ph_m, ph_if, ph_b2, ph_b2m, ph_nm, ph_nmm, Option.map_some, Option.map_none, hk23]
  all_goals rfl
theorem ph_feed_23  : ∀ (n : Nat) (σ : MsSt) (y2 : Nat) (y3 : Int32) (y4 : Int32) (y5 : Int32) (y6 : Int32) (y7 : Int32) (y8 : Int32), f_X12_feed_23  n (ph x σ) y2 y3 y4 y5 y6 y7 y8 = (f_X12_feed_23  n σ y2 y3 y4 y5 y6 y7 y8).map (fun p => (p.1, ph x p.2)) := by
  intro n
  induction n with
  | zero => intros; rfl
  | succ n ih =>
    intros
    simp -failIfUnchanged only [f_X12_feed_23, ph_i, ph_si, ph_ald, ph_ast, ph_b, ph_m, ph_if, ph_b2, ph_b2m, ph_nm, ph_nmm, Option.map_some, Option.map_none, ph_feed_76 (hk23 := ih), ih]
    all_goals rfl
theorem ph_feed (l0 : Nat) (l1 : Int32) (l2 : Int32) (l3 : Int32) (l4 : Int32) (l5 : Int32) : f_X12_feed (ph x σ) l0 l1 l2 l3 l4 l5 = (f_X12_feed σ l0 l1 l2 l3 l4 l5).map (fun p => (p.1, ph x p.2)) := by
  unfold f_X12_feed
  simp -failIfUnchanged only [ph_i, ph_si, ph_ald, ph_ast, ph_b, ph_m, ph_if, ph_b2, ph_b2m, ph_nm, ph_nmm, Option.map_some, Option.map_none, ph_feed_23]
  all_goals rfl
theorem ph_errorPosition (l0 : Nat) : f_X12_errorPosition (ph x σ) l0 = (f_X12_errorPosition σ l0).map (fun p => (p.1, ph x p.2)) := by
  unfold f_X12_errorPosition
  simp -failIfUnchanged only [ph_i, ph_si, ph_ald, ph_ast, ph_b, ph_m, ph_if, ph_b2, ph_b2m, ph_nm, ph_nmm, Option.map_some, Option.map_none]
  all_goals rfl
theorem ph_byteAt (l0 : Nat) (l1 : Int32) : f_X12_byteAt (ph x σ) l0 l1 = f_X12_byteAt σ l0 l1 := by
  unfold f_X12_byteAt
  simp -failIfUnchanged only [ph_i, ph_ald]
  all_goals rfl
theorem ph_isLetter (l0 : Nat) (l1 : Int32) : f_X12_isLetter (ph x σ) l0 l1 = f_X12_isLetter σ l0 l1 := by
  unfold f_X12_isLetter
  simp -failIfUnchanged only [ph_i, ph_ald, ph_byteAt]
  all_goals rfl
theorem ph_isDigit (l0 : Nat) (l1 : Int32) : f_X12_isDigit (ph x σ) l0 l1 = f_X12_isDigit σ l0 l1 := by
  unfold f_X12_isDigit
  simp -failIfUnchanged only [ph_i, ph_ald, ph_byteAt]
  all_goals rfl
theorem ph_scan_120  : ∀ (n : Nat) (σ : MsSt) (y2 : Nat), f_X12_scan_120  n (ph x σ) y2 = (f_X12_scan_120  n σ y2).map (ph x) := by
  intro n
  induction n with
  | zero => intros; rfl
  | succ n ih =>
    intros
    simp -failIfUnchanged only [f_X12_scan_120, ph_i, ph_si, ph_ald, ph_ast, ph_b, ph_m, ph_if, ph_b2, ph_b2m, ph_nm, ph_nmm, Option.map_some, Option.map_none, ph_isDigit, ih]
    all_goals rfl
theorem ph_scan_77  : ∀ (n : Nat) (σ : MsSt) (y2 : Nat), f_X12_scan_77  n (ph x σ) y2 = (f_X12_scan_77  n σ y2).map (ph x) := by
  intro n
  induction n with
  | zero => intros; rfl
  | succ n ih =>
    intros
    simp -failIfUnchanged only [f_X12_scan_77, ph_i, ph_si, ph_ald, ph_ast, ph_b, ph_m, ph_if, ph_b2, ph_b2m, ph_nm, ph_nmm, Option.map_some, Option.map_none, ph_isLetter, ih]
    all_goals rfl
theorem ph_scan_0  : ∀ (n : Nat) (σ : MsSt) (y2 : Nat), f_X12_scan_0  n (ph x σ) y2 = (f_X12_scan_0  n σ y2).map (ph x) := by
  intro n
  induction n with
  | zero => intros; rfl
  | succ n ih =>
    intros
    simp -failIfUnchanged only [f_X12_scan_0, ph_i, ph_si, ph_ald, ph_ast, ph_b, ph_m, ph_if, ph_b2, ph_b2m, ph_nm, ph_nmm, Option.map_some, Option.map_none, ph_byteAt, ph_isLetter, ph_isDigit, ph_scan_120, ph_scan_77, ih]
    all_goals rfl
theorem ph_scan (l0 : Nat) : f_X12_scan (ph x σ) l0 = (f_X12_scan σ l0).map (ph x) := by
  unfold f_X12_scan
  simp -failIfUnchanged only [ph_i, ph_si, ph_ald, ph_ast, ph_b, ph_m, ph_if, ph_b2, ph_b2m, ph_nm, ph_nmm, Option.map_some, Option.map_none, ph_scan_0]
  all_goals rfl
theorem ph_startText (l0 : Nat) (l1 : Int32) : f_X12_startText (ph x σ) l0 l1 = (f_X12_startText σ l0 l1).map (ph x) := by
  unfold f_X12_startText
  simp -failIfUnchanged only [ph_i', ph_si', ph_ald', ph_ast, ph_b, ph_m, ph_if, ph_b2, ph_b2m, ph_nm', ph_nmm', Option.map_some, Option.map_none, ph_scan]
  all_goals rfl
theorem ph_finish (l0 : Nat) : f_X12_finish (ph x σ) l0 = (f_X12_finish σ l0).map (fun p => (p.1, ph x p.2)) := by
  unfold f_X12_finish
  simp -failIfUnchanged only [ph_i, ph_si, ph_ald, ph_ast, ph_b, ph_m, ph_if, ph_b2, ph_b2m, ph_nm, ph_nmm, Option.map_some, Option.map_none]
  all_goals rfl
theorem ph_flaw (l0 : Nat) (l1 : Int32) : f_X12_flaw (ph x σ) l0 l1 = (f_X12_flaw σ l0 l1).map (ph x) := by
  unfold f_X12_flaw
  simp -failIfUnchanged only [ph_i, ph_si, ph_ald, ph_ast, ph_b, ph_m, ph_if, ph_b2, ph_b2m, ph_nm, ph_nmm, Option.map_some, Option.map_none]
  all_goals rfl
theorem ph_check (l0 : Nat) (l1 : Int32) (l2 : Int32) : f_X12_check (ph x σ) l0 l1 l2 = (f_X12_check σ l0 l1 l2).map (ph x) := by
  unfold f_X12_check
  simp -failIfUnchanged only [ph_i, ph_si, ph_ald, ph_ast, ph_b, ph_m, ph_if, ph_b2, ph_b2m, ph_nm, ph_nmm, Option.map_some, Option.map_none, ph_flaw]
  all_goals rfl
theorem ph_advance (l0 : Nat) : f_X12_advance (ph x σ) l0 = (f_X12_advance σ l0).map (ph x) := by
  unfold f_X12_advance
  simp -failIfUnchanged only [ph_i, ph_si, ph_ald, ph_ast, ph_b, ph_m, ph_if, ph_b2, ph_b2m, ph_nm, ph_nmm, Option.map_some, Option.map_none, ph_scan]
  all_goals rfl
theorem ph_isSymbol (l0 : Nat) (l1 : Int32) : f_X12_isSymbol (ph x σ) l0 l1 = f_X12_isSymbol σ l0 l1 := by
  unfold f_X12_isSymbol
  simp -failIfUnchanged only [ph_i, ph_ald]
  all_goals rfl
theorem ph_isWord_39  : ∀ n : Nat, f_X12_isWord_39 (ph x σ) n = f_X12_isWord_39 σ n := by
  intro n
  induction n with
  | zero => funext y0 y1 y2 y3; rfl
  | succ n ih =>
    funext y0 y1 y2 y3
    simp -failIfUnchanged only [f_X12_isWord_39, ph_i, ph_ald, ih]
    all_goals rfl
theorem ph_isWord (l0 : Nat) (l1 : Nat) : f_X12_isWord (ph x σ) l0 l1 = f_X12_isWord σ l0 l1 := by
  unfold f_X12_isWord
  simp -failIfUnchanged only [ph_i, ph_ald, ph_isWord_39]
  all_goals rfl
theorem ph_accept (l0 : Nat) (l1 : Nat) : f_X12_accept (ph x σ) l0 l1 = (f_X12_accept σ l0 l1).map (fun p => (p.1, ph x p.2)) := by
  unfold f_X12_accept
  simp -failIfUnchanged only [ph_i, ph_si, ph_ald, ph_ast, ph_b, ph_m, ph_if, ph_b2, ph_b2m, ph_nm, ph_nmm, Option.map_some, Option.map_none, ph_isWord, ph_scan]
  all_goals rfl
theorem ph_expectWord (l0 : Nat) (l1 : Nat) : f_X12_expectWord (ph x σ) l0 l1 = (f_X12_expectWord σ l0 l1).map (ph x) := by
  unfold f_X12_expectWord
  simp -failIfUnchanged only [ph_i, ph_si, ph_ald, ph_ast, ph_b, ph_m, ph_if, ph_b2, ph_b2m, ph_nm, ph_nmm, Option.map_some, Option.map_none, ph_isWord, ph_check, ph_advance]
  all_goals rfl
theorem ph_expect (l0 : Nat) (l1 : Int32) : f_X12_expect (ph x σ) l0 l1 = (f_X12_expect σ l0 l1).map (ph x) := by
  unfold f_X12_expect
  simp -failIfUnchanged only [ph_i, ph_si, ph_ald, ph_ast, ph_b, ph_m, ph_if, ph_b2, ph_b2m, ph_nm, ph_nmm, Option.map_some, Option.map_none, ph_isSymbol, ph_check, ph_advance]
  all_goals rfl
theorem ph_value_7  : ∀ n : Nat, f_X12_value_7 (ph x σ) n = f_X12_value_7 σ n := by
  intro n
  induction n with
  | zero => funext y0 y1 y2; rfl
  | succ n ih =>
    funext y0 y1 y2
    simp -failIfUnchanged only [f_X12_value_7, ph_i, ph_ald, ih]
    all_goals rfl
theorem ph_value (l0 : Nat) : f_X12_value (ph x σ) l0 = f_X12_value σ l0 := by
  unfold f_X12_value
  simp -failIfUnchanged only [ph_i, ph_ald, ph_value_7]
  all_goals rfl
theorem ph_readNumber_55 (l0 : Nat) (l1 : Int32) (l3 : Int32) (t0 : Int32) (t1 : Nat) : f_X12_readNumber_55 (ph x σ) l0 l1 l3 t0 t1 = (f_X12_readNumber_55 σ l0 l1 l3 t0 t1).map (fun p => (p.1, ph x p.2)) := by
  unfold f_X12_readNumber_55
  simp -failIfUnchanged only [ph_i, ph_si, ph_ald, ph_ast, ph_b, ph_m, ph_if, ph_b2, ph_b2m, ph_nm, ph_nmm, Option.map_some, Option.map_none, ph_check, ph_advance]
  all_goals rfl
theorem ph_readNumber_50 (l0 : Nat) (l1 : Int32) (l3 : Int32) (t0 : Nat) : f_X12_readNumber_50 (ph x σ) l0 l1 l3 t0 = (f_X12_readNumber_50 σ l0 l1 l3 t0).map (fun p => (p.1, ph x p.2)) := by
  unfold f_X12_readNumber_50
  simp -failIfUnchanged only [ph_i, ph_si, ph_ald, ph_ast, ph_b, ph_m, ph_if, ph_b2, ph_b2m, ph_nm, ph_nmm, Option.map_some, Option.map_none, ph_readNumber_55]
  all_goals rfl
theorem ph_readNumber_21 (l0 : Nat) (l1 : Int32) (l2 : Int32) (t0 : Int32) (t1 : Nat) : f_X12_readNumber_21 (ph x σ) l0 l1 l2 t0 t1 = (f_X12_readNumber_21 σ l0 l1 l2 t0 t1).map (fun p => (p.1, ph x p.2)) := by
  unfold f_X12_readNumber_21
  simp -failIfUnchanged only [ph_i, ph_si, ph_ald, ph_ast, ph_b, ph_m, ph_if, ph_b2, ph_b2m, ph_nm, ph_nmm, Option.map_some, Option.map_none, ph_check, ph_value, ph_inRange, ph_readNumber_55, ph_readNumber_50]
  all_goals rfl
theorem ph_readNumber_16 (l0 : Nat) (l1 : Int32) (l2 : Int32) (t0 : Nat) : f_X12_readNumber_16 (ph x σ) l0 l1 l2 t0 = (f_X12_readNumber_16 σ l0 l1 l2 t0).map (fun p => (p.1, ph x p.2)) := by
  unfold f_X12_readNumber_16
  simp -failIfUnchanged only [ph_i, ph_si, ph_ald, ph_ast, ph_b, ph_m, ph_if, ph_b2, ph_b2m, ph_nm, ph_nmm, Option.map_some, Option.map_none, ph_readNumber_21]
  all_goals rfl
theorem ph_readNumber (l0 : Nat) (l1 : Int32) (l2 : Int32) : f_X12_readNumber (ph x σ) l0 l1 l2 = (f_X12_readNumber σ l0 l1 l2).map (fun p => (p.1, ph x p.2)) := by
  unfold f_X12_readNumber
  simp -failIfUnchanged only [ph_i, ph_si, ph_ald, ph_ast, ph_b, ph_m, ph_if, ph_b2, ph_b2m, ph_nm, ph_nmm, Option.map_some, Option.map_none, ph_readNumber_16, ph_readNumber_21]
  all_goals rfl
theorem ph_isNameHere_36  : ∀ n : Nat, f_X12_isNameHere_36 (ph x σ) n = f_X12_isNameHere_36 σ n := by
  intro n
  induction n with
  | zero => funext y0 y1 y2; rfl
  | succ n ih =>
    funext y0 y1 y2
    simp -failIfUnchanged only [f_X12_isNameHere_36, ph_i, ph_ald, ph_isWord, ih]
    all_goals rfl
theorem ph_isNameHere (l0 : Nat) : f_X12_isNameHere (ph x σ) l0 = f_X12_isNameHere σ l0 := by
  unfold f_X12_isNameHere
  simp -failIfUnchanged only [ph_i, ph_ald, ph_isNameHere_36]
  all_goals rfl
theorem ph_letterHere (l0 : Nat) (l1 : Int32) : f_X12_letterHere (ph x σ) l0 l1 = f_X12_letterHere σ l0 l1 := by
  unfold f_X12_letterHere
  simp -failIfUnchanged only [ph_i, ph_ald]
  all_goals rfl
theorem ph_named_16 (k2 : Nat → Int32 → Option (Int32)) : ∀ n : Nat, f_X12_named_16 (ph x σ) k2 n = f_X12_named_16 σ k2 n := by
  intro n
  induction n with
  | zero => funext y0 y1 y2 y3; rfl
  | succ n ih =>
    funext y0 y1 y2 y3
    simp -failIfUnchanged only [f_X12_named_16, ph_i, ph_ald, ph_letterHere, ih]
    all_goals rfl
theorem ph_named_2  : ∀ n : Nat, f_X12_named_2 (ph x σ) n = f_X12_named_2 σ n := by
  intro n
  induction n with
  | zero => funext y0 y1; rfl
  | succ n ih =>
    funext y0 y1
    simp -failIfUnchanged only [f_X12_named_2, ph_i, ph_ald, ph_named_16, ih]
    all_goals rfl
theorem ph_named (l0 : Nat) : f_X12_named (ph x σ) l0 = f_X12_named σ l0 := by
  unfold f_X12_named
  simp -failIfUnchanged only [ph_i, ph_ald, ph_named_2]
  all_goals rfl
theorem ph_readName_36  : ∀ (n : Nat) (σ : MsSt) (y2 : Nat) (y3 : Int32), f_X12_readName_36  n (ph x σ) y2 y3 = (f_X12_readName_36  n σ y2 y3).map (ph x) := by
  intro n
  induction n with
  | zero => intros; rfl
  | succ n ih =>
    intros
    simp -failIfUnchanged only [f_X12_readName_36, ph_i, ph_si, ph_ald, ph_ast, ph_b, ph_m, ph_if, ph_b2, ph_b2m, ph_nm, ph_nmm, Option.map_some, Option.map_none, ph_letterHere, ph_advance, ih]
    all_goals rfl
theorem ph_readName (l0 : Nat) : f_X12_readName (ph x σ) l0 = (f_X12_readName σ l0).map (ph x) := by
  unfold f_X12_readName
  simp -failIfUnchanged only [ph_i, ph_si, ph_ald, ph_ast, ph_b, ph_m, ph_if, ph_b2, ph_b2m, ph_nm, ph_nmm, Option.map_some, Option.map_none, ph_isNameHere, ph_check, ph_named, ph_readName_36]
  all_goals rfl
theorem ph_lookSign_24 (l0 : Nat) (t0 : Int32) : f_X12_lookSign_24 (ph x σ) l0 t0 = (f_X12_lookSign_24 σ l0 t0).map (fun p => (p.1, ph x p.2)) := by
  unfold f_X12_lookSign_24
  simp -failIfUnchanged only [ph_i, ph_si, ph_ald, ph_ast, ph_b, ph_m, ph_if, ph_b2, ph_b2m, ph_nm, ph_nmm, Option.map_some, Option.map_none, ph_check]
  all_goals rfl
theorem ph_lookSign (l0 : Nat) : f_X12_lookSign (ph x σ) l0 = (f_X12_lookSign σ l0).map (fun p => (p.1, ph x p.2)) := by
  unfold f_X12_lookSign
  simp -failIfUnchanged only [ph_i, ph_si, ph_ald, ph_ast, ph_b, ph_m, ph_if, ph_b2, ph_b2m, ph_nm, ph_nmm, Option.map_some, Option.map_none, ph_isNameHere, ph_check, ph_named, ph_lookSign_24]
  all_goals rfl
theorem ph_sideHere (l0 : Nat) : f_X12_sideHere (ph x σ) l0 = f_X12_sideHere σ l0 := by
  unfold f_X12_sideHere
  simp -failIfUnchanged only [ph_i, ph_ald, ph_isWord]
  all_goals rfl
theorem ph_isSideOf_2  : ∀ n : Nat, f_X12_isSideOf_2 (ph x σ) n = f_X12_isSideOf_2 σ n := by
  intro n
  induction n with
  | zero => funext y0 y1 y2 y3; rfl
  | succ n ih =>
    funext y0 y1 y2 y3
    simp -failIfUnchanged only [f_X12_isSideOf_2, ph_i, ph_ald, ph_of, ih]
    all_goals rfl
theorem ph_isSideOf (l0 : Nat) (l1 : Int32) (l2 : Int32) : f_X12_isSideOf (ph x σ) l0 l1 l2 = f_X12_isSideOf σ l0 l1 l2 := by
  unfold f_X12_isSideOf
  simp -failIfUnchanged only [ph_i, ph_ald, ph_isSideOf_2]
  all_goals rfl
theorem ph_readBase (l0 : Nat) (l1 : Int32) : f_X12_readBase (ph x σ) l0 l1 = (f_X12_readBase σ l0 l1).map (ph x) := by
  unfold f_X12_readBase
  simp -failIfUnchanged only [ph_i, ph_si, ph_ald, ph_ast, ph_b, ph_m, ph_if, ph_b2, ph_b2m, ph_nm, ph_nmm, Option.map_some, Option.map_none, ph_readName, ph_of, ph_readNumber]
  all_goals rfl
theorem ph_readMark_54 (l0 : Nat) (l1 : Int32) (l2 : Int32) (l3 : Int32) (t0 : Int32) (t1 : Nat) : f_X12_readMark_54 (ph x σ) l0 l1 l2 l3 t0 t1 = (f_X12_readMark_54 σ l0 l1 l2 l3 t0 t1).map (ph x) := by
  unfold f_X12_readMark_54
  simp -failIfUnchanged only [ph_i, ph_si, ph_ald, ph_ast, ph_b, ph_m, ph_if, ph_b2, ph_b2m, ph_nm, ph_nmm, Option.map_some, Option.map_none, ph_check, ph_advance, ph_of, ph_readNumber]
  all_goals rfl
theorem ph_readMark_49 (l0 : Nat) (l1 : Int32) (l2 : Int32) (l3 : Int32) (t0 : Nat) : f_X12_readMark_49 (ph x σ) l0 l1 l2 l3 t0 = (f_X12_readMark_49 σ l0 l1 l2 l3 t0).map (ph x) := by
  unfold f_X12_readMark_49
  simp -failIfUnchanged only [ph_i, ph_si, ph_ald, ph_ast, ph_b, ph_m, ph_if, ph_b2, ph_b2m, ph_nm, ph_nmm, Option.map_some, Option.map_none, ph_readMark_54]
  all_goals rfl
theorem ph_readMark_28 (l0 : Nat) (l1 : Int32) (l2 : Int32) (l3 : Int32) (t0 : Int32) (t1 : Nat) : f_X12_readMark_28 (ph x σ) l0 l1 l2 l3 t0 t1 = (f_X12_readMark_28 σ l0 l1 l2 l3 t0 t1).map (ph x) := by
  unfold f_X12_readMark_28
  simp -failIfUnchanged only [ph_i, ph_si, ph_ald, ph_ast, ph_b, ph_m, ph_if, ph_b2, ph_b2m, ph_nm, ph_nmm, Option.map_some, Option.map_none, ph_check, ph_isSideOf, ph_readMark_54, ph_readMark_49]
  all_goals rfl
theorem ph_readMark (l0 : Nat) (l1 : Int32) : f_X12_readMark (ph x σ) l0 l1 = (f_X12_readMark σ l0 l1).map (ph x) := by
  unfold f_X12_readMark
  simp -failIfUnchanged only [ph_i, ph_si, ph_ald, ph_ast, ph_b, ph_m, ph_if, ph_b2, ph_b2m, ph_nm, ph_nmm, Option.map_some, Option.map_none, ph_readName, ph_readNumber, ph_sideHere, ph_readMark_28]
  all_goals rfl
theorem ph_readPair_136 (l0 : Nat) (l1 : Int32) (l2 : Int32) (l3 : Int32) (t0 : Int32) (t1 : Nat) : f_X12_readPair_136 (ph x σ) l0 l1 l2 l3 t0 t1 = (f_X12_readPair_136 σ l0 l1 l2 l3 t0 t1).map (ph x) := by
  unfold f_X12_readPair_136
  simp -failIfUnchanged only [ph_i, ph_si, ph_ald, ph_ast, ph_b, ph_m, ph_if, ph_b2, ph_b2m, ph_nm, ph_nmm, Option.map_some, Option.map_none, ph_check, ph_advance, ph_accept, ph_of]
  all_goals rfl
theorem ph_readPair_131 (l0 : Nat) (l1 : Int32) (l2 : Int32) (l3 : Int32) (t0 : Nat) : f_X12_readPair_131 (ph x σ) l0 l1 l2 l3 t0 = (f_X12_readPair_131 σ l0 l1 l2 l3 t0).map (ph x) := by
  unfold f_X12_readPair_131
  simp -failIfUnchanged only [ph_i, ph_si, ph_ald, ph_ast, ph_b, ph_m, ph_if, ph_b2, ph_b2m, ph_nm, ph_nmm, Option.map_some, Option.map_none, ph_readPair_136]
  all_goals rfl
theorem ph_readPair_105 (l0 : Nat) (l1 : Int32) (l2 : Int32) (l3 : Int32) (t0 : Int32) (t1 : Nat) : f_X12_readPair_105 (ph x σ) l0 l1 l2 l3 t0 t1 = (f_X12_readPair_105 σ l0 l1 l2 l3 t0 t1).map (ph x) := by
  unfold f_X12_readPair_105
  simp -failIfUnchanged only [ph_i, ph_si, ph_ald, ph_ast, ph_b, ph_m, ph_if, ph_b2, ph_b2m, ph_nm, ph_nmm, Option.map_some, Option.map_none, ph_check, ph_of, ph_readPair_131, ph_readPair_136]
  all_goals rfl
theorem ph_readPair_100 (l0 : Nat) (l1 : Int32) (l2 : Int32) (l3 : Int32) (t0 : Nat) : f_X12_readPair_100 (ph x σ) l0 l1 l2 l3 t0 = (f_X12_readPair_100 σ l0 l1 l2 l3 t0).map (ph x) := by
  unfold f_X12_readPair_100
  simp -failIfUnchanged only [ph_i, ph_si, ph_ald, ph_ast, ph_b, ph_m, ph_if, ph_b2, ph_b2m, ph_nm, ph_nmm, Option.map_some, Option.map_none, ph_readPair_105]
  all_goals rfl
theorem ph_readPair_66 (l0 : Nat) (l1 : Int32) (l2 : Int32) (t0 : Int32) (t1 : Nat) : f_X12_readPair_66 (ph x σ) l0 l1 l2 t0 t1 = (f_X12_readPair_66 σ l0 l1 l2 t0 t1).map (ph x) := by
  unfold f_X12_readPair_66
  simp -failIfUnchanged only [ph_i, ph_si, ph_ald, ph_ast, ph_b, ph_m, ph_if, ph_b2, ph_b2m, ph_nm, ph_nmm, Option.map_some, Option.map_none, ph_check, ph_advance, ph_lookSign, ph_findPair, ph_readPair_100, ph_readPair_105]
  all_goals rfl
theorem ph_readPair_61 (l0 : Nat) (l1 : Int32) (l2 : Int32) (t0 : Nat) : f_X12_readPair_61 (ph x σ) l0 l1 l2 t0 = (f_X12_readPair_61 σ l0 l1 l2 t0).map (ph x) := by
  unfold f_X12_readPair_61
  simp -failIfUnchanged only [ph_i, ph_si, ph_ald, ph_ast, ph_b, ph_m, ph_if, ph_b2, ph_b2m, ph_nm, ph_nmm, Option.map_some, Option.map_none, ph_readPair_66]
  all_goals rfl
theorem ph_readPair_36 (l0 : Nat) (l1 : Int32) (l2 : Int32) (t0 : Int32) (t1 : Nat) : f_X12_readPair_36 (ph x σ) l0 l1 l2 t0 t1 = (f_X12_readPair_36 σ l0 l1 l2 t0 t1).map (ph x) := by
  unfold f_X12_readPair_36
  simp -failIfUnchanged only [ph_i, ph_si, ph_ald, ph_ast, ph_b, ph_m, ph_if, ph_b2, ph_b2m, ph_nm, ph_nmm, Option.map_some, Option.map_none, ph_check, ph_parts, ph_readPair_61, ph_readPair_66]
  all_goals rfl
theorem ph_readPair_31 (l0 : Nat) (l1 : Int32) (l2 : Int32) (t0 : Nat) : f_X12_readPair_31 (ph x σ) l0 l1 l2 t0 = (f_X12_readPair_31 σ l0 l1 l2 t0).map (ph x) := by
  unfold f_X12_readPair_31
  simp -failIfUnchanged only [ph_i, ph_si, ph_ald, ph_ast, ph_b, ph_m, ph_if, ph_b2, ph_b2m, ph_nm, ph_nmm, Option.map_some, Option.map_none, ph_readPair_36]
  all_goals rfl
theorem ph_readPair (l0 : Nat) (l1 : Int32) : f_X12_readPair (ph x σ) l0 l1 = (f_X12_readPair σ l0 l1).map (ph x) := by
  unfold f_X12_readPair
  simp -failIfUnchanged only [ph_i, ph_si, ph_ald, ph_ast, ph_b, ph_m, ph_if, ph_b2, ph_b2m, ph_nm, ph_nmm, Option.map_some, Option.map_none, ph_readName, ph_lookSign, ph_of, ph_readPair_36, ph_readPair_31]
  all_goals rfl
theorem ph_isSignHere (l0 : Nat) : f_X12_isSignHere (ph x σ) l0 = f_X12_isSignHere σ l0 := by
  unfold f_X12_isSignHere
  simp -failIfUnchanged only [ph_i, ph_ald, ph_isWord]
  all_goals rfl
theorem ph_readSign_81 (l0 : Nat) : f_X12_readSign_81 (ph x σ) l0 = (f_X12_readSign_81 σ l0).map (ph x) := by
  unfold f_X12_readSign_81
  simp -failIfUnchanged only [ph_i, ph_si, ph_ald, ph_ast, ph_b, ph_m, ph_if, ph_b2, ph_b2m, ph_nm, ph_nmm, Option.map_some, Option.map_none, ph_expect]
  all_goals rfl
theorem ph_readSign_17 (l0 : Nat) (t0 : Int32) (t1 : Nat) : f_X12_readSign_17 (ph x σ) l0 t0 t1 = (f_X12_readSign_17 σ l0 t0 t1).map (ph x) := by
  unfold f_X12_readSign_17
  simp -failIfUnchanged only [ph_i, ph_si, ph_ald, ph_ast, ph_b, ph_m, ph_if, ph_b2, ph_b2m, ph_nm, ph_nmm, Option.map_some, Option.map_none, ph_check, ph_accept, ph_expectWord, ph_readPair, ph_readSign_81, ph_readMark, ph_readBase]
  all_goals rfl
theorem ph_readSign (l0 : Nat) : f_X12_readSign (ph x σ) l0 = (f_X12_readSign σ l0).map (ph x) := by
  unfold f_X12_readSign
  simp -failIfUnchanged only [ph_i, ph_si, ph_ald, ph_ast, ph_b, ph_m, ph_if, ph_b2, ph_b2m, ph_nm, ph_nmm, Option.map_some, Option.map_none, ph_readSign_17]
  all_goals rfl
theorem ph_readLine_113 (k67 : MsSt → Nat → Int32 → Option (MsSt)) (l0 : Nat) (l1 : Int32) (l2 : Int32) (t0 : Int32) (t1 : Nat) (hk67 : ∀ (y0 : MsSt) (y1 : Nat) (y2 : Int32), k67 (ph x y0) y1 y2 = (k67 y0 y1 y2).map (ph x)) : f_X12_readLine_113 k67 (ph x σ) l0 l1 l2 t0 t1 = (f_X12_readLine_113 k67 σ l0 l1 l2 t0 t1).map (ph x) := by
  unfold f_X12_readLine_113
  simp -failIfUnchanged only [ph_i, ph_si, ph_ald, ph_ast, ph_b, ph_m, ph_if, ph_b2, ph_b2m, ph_nm, ph_nmm, Option.map_some, Option.map_none, ph_check, ph_spot, ph_advance, hk67]
  all_goals rfl
theorem ph_readLine_108 (k67 : MsSt → Nat → Int32 → Option (MsSt)) (l0 : Nat) (l1 : Int32) (l2 : Int32) (t0 : Nat) (hk67 : ∀ (y0 : MsSt) (y1 : Nat) (y2 : Int32), k67 (ph x y0) y1 y2 = (k67 y0 y1 y2).map (ph x)) : f_X12_readLine_108 k67 (ph x σ) l0 l1 l2 t0 = (f_X12_readLine_108 k67 σ l0 l1 l2 t0).map (ph x) := by
  unfold f_X12_readLine_108
  simp -failIfUnchanged only [ph_i, ph_si, ph_ald, ph_ast, ph_b, ph_m, ph_if, ph_b2, ph_b2m, ph_nm, ph_nmm, Option.map_some, Option.map_none, ph_readLine_113 (hk67 := hk67), hk67]
  all_goals rfl
theorem ph_readLine_67  : ∀ (n : Nat) (σ : MsSt) (y2 : Nat) (y3 : Int32), f_X12_readLine_67  n (ph x σ) y2 y3 = (f_X12_readLine_67  n σ y2 y3).map (ph x) := by
  intro n
  induction n with
  | zero => intros; rfl
  | succ n ih =>
    intros
    simp -failIfUnchanged only [f_X12_readLine_67, ph_i, ph_si, ph_ald, ph_ast, ph_b, ph_m, ph_if, ph_b2, ph_b2m, ph_nm, ph_nmm, Option.map_some, Option.map_none, ph_lookSign, ph_readLine_108 (hk67 := ih), ph_readLine_113 (hk67 := ih), ph_expect, ih]
    all_goals rfl
theorem ph_readLine_34 (l0 : Nat) (t0 : Int32) (t1 : Nat) : f_X12_readLine_34 (ph x σ) l0 t0 t1 = (f_X12_readLine_34 σ l0 t0 t1).map (ph x) := by
  unfold f_X12_readLine_34
  simp -failIfUnchanged only [ph_i, ph_si, ph_ald, ph_ast, ph_b, ph_m, ph_if, ph_b2, ph_b2m, ph_nm, ph_nmm, Option.map_some, Option.map_none, ph_check, ph_advance, ph_readLine_67]
  all_goals rfl
theorem ph_readLine_29 (l0 : Nat) (t0 : Nat) : f_X12_readLine_29 (ph x σ) l0 t0 = (f_X12_readLine_29 σ l0 t0).map (ph x) := by
  unfold f_X12_readLine_29
  simp -failIfUnchanged only [ph_i, ph_si, ph_ald, ph_ast, ph_b, ph_m, ph_if, ph_b2, ph_b2m, ph_nm, ph_nmm, Option.map_some, Option.map_none, ph_readLine_34]
  all_goals rfl
theorem ph_readLine (l0 : Nat) : f_X12_readLine (ph x σ) l0 = (f_X12_readLine σ l0).map (ph x) := by
  unfold f_X12_readLine
  simp -failIfUnchanged only [ph_i, ph_si, ph_ald, ph_ast, ph_b, ph_m, ph_if, ph_b2, ph_b2m, ph_nm, ph_nmm, Option.map_some, Option.map_none, ph_isWord, ph_check, ph_readLine_29, ph_readLine_34]
  all_goals rfl
theorem ph_readAll_82 (l0 : Nat) : f_X12_readAll_82 (ph x σ) l0 = (f_X12_readAll_82 σ l0).map (ph x) := by
  unfold f_X12_readAll_82
  simp -failIfUnchanged only [ph_i, ph_si, ph_ald, ph_ast, ph_b, ph_m, ph_if, ph_b2, ph_b2m, ph_nm, ph_nmm, Option.map_some, Option.map_none, ph_check]
  all_goals rfl
theorem ph_readAll_48 (l0 : Nat) : f_X12_readAll_48 (ph x σ) l0 = (f_X12_readAll_48 σ l0).map (ph x) := by
  unfold f_X12_readAll_48
  simp -failIfUnchanged only [ph_i, ph_si, ph_ald, ph_ast, ph_b, ph_m, ph_if, ph_b2, ph_b2m, ph_nm, ph_nmm, Option.map_some, Option.map_none, ph_accept, ph_readAll_82, ph_readNumber, ph_expect]
  all_goals rfl
theorem ph_readAll_25  : ∀ (n : Nat) (σ : MsSt) (y2 : Nat), f_X12_readAll_25  n (ph x σ) y2 = (f_X12_readAll_25  n σ y2).map (ph x) := by
  intro n
  induction n with
  | zero => intros; rfl
  | succ n ih =>
    intros
    simp -failIfUnchanged only [f_X12_readAll_25, ph_i, ph_si, ph_ald, ph_ast, ph_b, ph_m, ph_if, ph_b2, ph_b2m, ph_nm, ph_nmm, Option.map_some, Option.map_none, ph_isWord, ph_readAll_48, ph_readLine, ih]
    all_goals rfl
theorem ph_readAll_0  : ∀ (n : Nat) (σ : MsSt) (y2 : Nat), f_X12_readAll_0  n (ph x σ) y2 = (f_X12_readAll_0  n σ y2).map (ph x) := by
  intro n
  induction n with
  | zero => intros; rfl
  | succ n ih =>
    intros
    simp -failIfUnchanged only [f_X12_readAll_0, ph_i, ph_si, ph_ald, ph_ast, ph_b, ph_m, ph_if, ph_b2, ph_b2m, ph_nm, ph_nmm, Option.map_some, Option.map_none, ph_isSignHere, ph_readLine, ph_readAll_25, ph_readSign, ih]
    all_goals rfl
theorem ph_readAll (l0 : Nat) : f_X12_readAll (ph x σ) l0 = (f_X12_readAll σ l0).map (ph x) := by
  unfold f_X12_readAll
  simp -failIfUnchanged only [ph_i, ph_si, ph_ald, ph_ast, ph_b, ph_m, ph_if, ph_b2, ph_b2m, ph_nm, ph_nmm, Option.map_some, Option.map_none, ph_readAll_0]
  all_goals rfl
theorem ph_load_86  : ∀ (n : Nat) (σ : MsSt) (y2 : Nat) (y3 : Int32), f_X12_load_86  n (ph x σ) y2 y3 = (f_X12_load_86  n σ y2 y3).map (fun p => (p.1, ph x p.2)) := by
  intro n
  induction n with
  | zero => intros; rfl
  | succ n ih =>
    intros
    simp -failIfUnchanged only [f_X12_load_86, ph_i, ph_si, ph_ald, ph_ast, ph_b, ph_m, ph_if, ph_b2, ph_b2m, ph_nm, ph_nmm, Option.map_some, Option.map_none, ih]
    all_goals rfl
theorem ph_load_27  : ∀ (n : Nat) (σ : MsSt) (y2 : Nat) (y3 : Int32) (y4 : Int32), f_X12_load_27  n (ph x σ) y2 y3 y4 = (f_X12_load_27  n σ y2 y3 y4).map (fun p => (p.1, ph x p.2)) := by
  intro n
  induction n with
  | zero => intros; rfl
  | succ n ih =>
    intros
    simp -failIfUnchanged only [f_X12_load_27, ph_i, ph_si, ph_ald, ph_ast, ph_b, ph_m, ph_if, ph_b2, ph_b2m, ph_nm, ph_nmm, Option.map_some, Option.map_none, ph_startText, ph_readAll, ph_finish, ph_copy, ph_load_86, ih]
    all_goals rfl
theorem ph_load (l0 : Nat) (l1 : Int32) : f_X12_load (ph x σ) l0 l1 = (f_X12_load σ l0 l1).map (fun p => (p.1, ph x p.2)) := by
  unfold f_X12_load
  simp -failIfUnchanged only [ph_i, ph_si, ph_ald, ph_ast, ph_b, ph_m, ph_if, ph_b2, ph_b2m, ph_nm, ph_nmm, Option.map_some, Option.map_none, ph_inRange, ph_raise, ph_load_27]
  all_goals rfl
theorem ph_property (l0 : Nat) (l1 : Int32) (l2 : Int32) : f_X12_property (ph x σ) l0 l1 l2 = f_X12_property σ l0 l1 l2 := by
  unfold f_X12_property
  simp -failIfUnchanged only [ph_i, ph_ald, ph_spot, ph_of, ph_parts, ph_clusterAt]
  all_goals rfl
end Ph
