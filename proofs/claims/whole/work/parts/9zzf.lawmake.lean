/-! the law's makings, by program (wip/whole/gen/ctor.py) -/
theorem nw_L_8 : Cond.classLink RL 8 RX10 ∈ lw_tbl := List.mem_of_getElem? (i := 165) (by decide +kernel)
theorem ni_10 : Cond.instantiable RX10 14 ∈ lw_tbl := List.mem_of_getElem? (i := 166) (by decide +kernel)
theorem nn_10 : Cond.initialized RX10 ∈ lw_tbl := List.mem_of_getElem? (i := 139) (by decide +kernel)
theorem lk_L_135 : Cond.methodLink RL 135 yX10_init ∈ lw_tbl ∨ ∃ host, Cond.methodLinkNest RL 135 yX10_init host ∈ lw_tbl := Or.inl (List.mem_of_getElem? (i := 167) (by decide +kernel))
theorem nw_L_136 : Cond.classLink RL 136 RX12 ∈ lw_tbl := List.mem_of_getElem? (i := 1599) (by decide +kernel)
theorem ni_12 : Cond.instantiable RX12 41 ∈ lw_tbl := List.mem_of_getElem? (i := 1600) (by decide +kernel)
theorem nn_12 : Cond.initialized RX12 ∈ lw_tbl := List.mem_of_getElem? (i := 151) (by decide +kernel)
theorem lk_L_138 : Cond.methodLink RL 138 yX12_init ∈ lw_tbl ∨ ∃ host, Cond.methodLinkNest RL 138 yX12_init host ∈ lw_tbl := Or.inl (List.mem_of_getElem? (i := 1601) (by decide +kernel))
theorem hdf_3 {G : MG} : ∀ (δ : DSt) (a k : Nat), cd_v δ.2.2 a k = 0 → cd_s δ a k = false → defaultValue (newarray.typeOf .double) = cd_av G δ a 3 k := fun _ _ _ _ _ => rfl
theorem am_3 : Cond.arrayClass (newarray.typeOf .double) ∈ lw_tbl := List.mem_of_getElem? (i := 2348) (by decide +kernel)
def f_law_0 (δ : DSt) : Option DSt :=
  (cd_new δ 10).bind fun δ1 =>
  (f_X10_init δ1 δ.1).bind fun δ2 =>
  cd_is δ.1 0 fun _ =>
  (cd_new δ2 12).bind fun δ3 =>
  (f_X12_init δ3 δ2.1).bind fun δ4 =>
  cd_is δ2.1 493 fun _ =>
  (cd_arr δ4 2 1).bind fun δ5 =>
  cd_is δ4.1 517 fun _ =>
  (cd_arr δ5 3 1).bind fun δ6 =>
  cd_is δ5.1 518 fun _ =>
  some δ6
set_option maxRecDepth 100000 in
theorem t_law_0 (G : MG) (d : Nat) (hd : 12 ≤ d) {c0 s0 : Nat} (δ : DSt) : TrC G mL_law d c0 s0 25 [(0, .ref 700), (1, .ref 0), (2, .ref 493), (3, .ref 517), (4, .ref 518)] 0 [(0, .ref 700)] [] δ (f_law_0 δ) := by
  show TrC G mL_law d c0 s0 25 [(0, .ref 700), (1, .ref 0), (2, .ref 493), (3, .ref 517), (4, .ref 518)] 0 [(0, .ref 700)] [] δ ((cd_new δ 10).bind fun δ1 => (f_X10_init δ1 δ.1).bind fun δ2 => cd_is δ.1 0 fun _ => (cd_new δ2 12).bind fun δ3 => (f_X12_init δ3 δ2.1).bind fun δ4 => cd_is δ2.1 493 fun _ => (cd_arr δ4 2 1).bind fun δ5 => cd_is δ4.1 517 fun _ => (cd_arr δ5 3 1).bind fun δ6 => cd_is δ5.1 518 fun _ => some δ6)
  refine tc_new 10 (RX10, TX10, 14) rfl nw_L_8 ni_10 nn_10 dL_law_0 (fun δ1 => ?_)
  refine tc_dup dL_law_3 rfl ?_
  refine tc_init (rest := [.ref δ.1]) (al := []) (sp_X10_init G (d - 1) (by omega) δ1 δ.1) lk_L_135 fi_X10_init dL_law_4 (show _ = some 0 by decide +kernel) (by omega) (Nat.le_of_ble_eq_true rfl) (fun δ2 => ?_)
  refine tc_is (n := 0) (fun _ => ?_)
  refine tc_astore_n (lv' := [(0, .ref 700), (1, .ref 0)]) [1, 0] dL_law_7 (by decide) rfl ?_
  refine tc_new 12 (RX12, TX12, 41) rfl nw_L_136 ni_12 nn_12 dL_law_8 (fun δ3 => ?_)
  refine tc_dup dL_law_11 rfl ?_
  refine tc_init (rest := [.ref δ2.1]) (al := []) (sp_X12_init G (d - 1) (by omega) δ3 δ2.1) lk_L_138 fi_X12_init dL_law_12 (show _ = some 0 by decide +kernel) (by omega) (Nat.le_of_ble_eq_true rfl) (fun δ4 => ?_)
  refine tc_is (n := 493) (fun _ => ?_)
  refine tc_astore_n (lv' := [(0, .ref 700), (1, .ref 0), (2, .ref 493)]) [1, 2, 0] dL_law_15 (by decide) rfl ?_
  refine tc_iconst (v := 1) dL_law_16 (by decide +kernel) ?_
  refine tc_arr (atype := .long) 2 (fun _ _ h => h) (by decide) hdf_2 (by decide) am_2 dL_law_17 (fun δ5 => ?_)
  refine tc_is (n := 517) (fun _ => ?_)
  refine tc_astore_n (lv' := [(0, .ref 700), (1, .ref 0), (2, .ref 493), (3, .ref 517)]) [1, 2, 3, 0] dL_law_19 (by decide) rfl ?_
  refine tc_iconst (v := 1) dL_law_20 (by decide +kernel) ?_
  refine tc_arr (atype := .double) 3 (fun _ _ h => h) (by decide) hdf_3 (by decide) am_3 dL_law_21 (fun δ6 => ?_)
  refine tc_is (n := 518) (fun _ => ?_)
  refine tc_astore (lv' := [(0, .ref 700), (1, .ref 0), (2, .ref 493), (3, .ref 517), (4, .ref 518)]) [1, 2, 3, 4, 0] dL_law_23 (by decide) rfl ?_
  exact tc_end
