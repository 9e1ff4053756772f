/-! the constructors, by program (wip/whole/gen/ctor.py) -/
abbrev mX5_init : MM := (RX5, cX5_init, 2, none, yX5_init, [])
theorem ob_X5 : Cond.methodLink RX5 3 Lib.objectInit ∈ lw_tbl := List.mem_of_getElem? (i := 232) (by decide +kernel)
theorem oi_1 : Cond.instanceMethod Lib.objectInit ∈ lw_tbl := List.mem_of_getElem? (i := 171) (by decide +kernel)
theorem oi_2 : Cond.code Lib.objectInit ⟨#[0xb1]⟩ 1 none ∈ lw_tbl := List.mem_of_getElem? (i := 172) (by decide +kernel)
theorem hdf_0 {G : MG} : ∀ (δ : DSt) (a k : Nat), cd_v δ.2.2 a k = 0 → cd_s δ a k = false → defaultValue (newarray.typeOf .int) = cd_av G δ a 0 k := fun δ a k h _ => by show Value.int 0 = Value.int (cd_v δ.2.2 a k); rw [h]
theorem am_0 : Cond.arrayClass (newarray.typeOf .int) ∈ lw_tbl := List.mem_of_getElem? (i := 250) (by decide +kernel)
theorem cf_X5_init_15 : CdF mX5_init 15 5 0 := ⟨(RX5, TX5, 2), rfl, by decide, List.mem_of_getElem? (i := 236) (by decide +kernel), Or.inr ⟨rfl, rfl, rfl⟩⟩
theorem ir_5_0 : ms_isr 5 0 = true := by decide +kernel
theorem cf_X5_init_21 : CdF mX5_init 21 5 1 := ⟨(RX5, TX5, 2), rfl, by decide, List.mem_of_getElem? (i := 237) (by decide +kernel), Or.inl rfl⟩
theorem ii_5_1 : ms_isr 5 1 = false := by decide +kernel
theorem dX5_init_0 : decode cX5_init 0 = .ok (.aload_n 0, 1) := by decide +kernel
theorem dX5_init_1 : decode cX5_init 1 = .ok (.invokespecial 3, 3) := by decide +kernel
theorem dX5_init_4 : decode cX5_init 4 = .ok (.aload_n 0, 1) := by decide +kernel
theorem dX5_init_5 : decode cX5_init 5 = .ok (.iconst 0, 1) := by decide +kernel
theorem dX5_init_6 : decode cX5_init 6 = .ok (.iload_n 1, 1) := by decide +kernel
theorem dX5_init_7 : decode cX5_init 7 = .ok (.invokestatic 9, 3) := by decide +kernel
theorem dX5_init_10 : decode cX5_init 10 = .ok (.newarray .int, 2) := by decide +kernel
theorem dX5_init_12 : decode cX5_init 12 = .ok (.putfield 15, 3) := by decide +kernel
theorem dX5_init_15 : decode cX5_init 15 = .ok (.aload_n 0, 1) := by decide +kernel
theorem dX5_init_16 : decode cX5_init 16 = .ok (.iconst 0, 1) := by decide +kernel
theorem dX5_init_17 : decode cX5_init 17 = .ok (.putfield 21, 3) := by decide +kernel
theorem dX5_init_20 : decode cX5_init 20 = .ok (.return_, 1) := by decide +kernel
theorem fi_X5_init : CdYI mX5_init := ⟨List.mem_of_getElem? (i := 230) (by decide +kernel), List.mem_of_getElem? (i := 143) (by decide +kernel), List.mem_of_getElem? (i := 231) (by decide +kernel), by decide +kernel, by decide +kernel, by decide, rfl, rfl⟩
def f_X5_init (δ : DSt) (l0 : Nat) (l1 : Int32) : Option DSt :=
  (cd_arr δ 0 (if (0 : Int32) < l1 then l1 else 0)).bind fun δ1 =>
  (cd_pr δ1 5 l0 0 δ.1).bind fun δ2 =>
  (cd_pi δ2 5 l0 1 0).bind fun δ3 =>
  some δ3
set_option maxRecDepth 100000 in
theorem sp_X5_init (G : MG) (d : Nat) (hd : 1 ≤ d) (δ : DSt) (l0 : Nat) (l1 : Int32) : CdSpec G mX5_init d [.ref l0, .int l1] δ (f_X5_init δ l0 l1) := by
  refine tc_start (pc2 := 20) (lv2 := []) (by decide +kernel) rfl rfl rfl (Nat.le_of_ble_eq_true rfl) dX5_init_20 ?_
  show TrC G mX5_init d δ.1 (cd_z δ.1) 20 [] 0 [(0, .ref l0), (1, .int l1)] [] δ ((cd_arr δ 0 (if (0 : Int32) < l1 then l1 else 0)).bind fun δ1 => (cd_pr δ1 5 l0 0 δ.1).bind fun δ2 => (cd_pi δ2 5 l0 1 0).bind fun δ3 => some δ3)
  refine tc_aload_n (i := 0) dX5_init_0 rfl ?_
  refine tc_obj ob_X5 oi_1 oi_2 (by omega) (Nat.le_of_ble_eq_true rfl) dX5_init_1 ?_
  refine tc_aload_n (i := 0) dX5_init_4 rfl ?_
  refine tc_iconst (v := 0) dX5_init_5 (by decide +kernel) ?_
  refine tc_iload_n (i := 1) dX5_init_6 rfl ?_
  refine tc_mmax (List.mem_of_getElem? (i := 233) (by decide +kernel)) (List.mem_of_getElem? (i := 234) (by decide +kernel)) (List.mem_of_getElem? (i := 144) (by decide +kernel)) (List.mem_of_getElem? (i := 235) (by decide +kernel)) (by omega) (Nat.le_of_ble_eq_true rfl) dX5_init_7 ?_
  refine tc_arr (atype := .int) 0 (fun _ _ h => h) (by decide) hdf_0 (by decide) am_0 dX5_init_10 (fun δ1 => ?_)
  refine tc_putr 5 0 cf_X5_init_15 ir_5_0 (fun _ => rfl) (fun _ => rfl) dX5_init_12 (fun δ2 => ?_)
  refine tc_aload_n (i := 0) dX5_init_15 rfl ?_
  refine tc_iconst (v := 0) dX5_init_16 (by decide +kernel) ?_
  refine tc_puti 5 1 cf_X5_init_21 ii_5_1 (by decide +kernel) (by decide +kernel) dX5_init_17 (fun δ3 => ?_)
  refine tc_weak [] (lv' := []) rfl ?_
  exact tc_end
abbrev mX7_init : MM := (RX7, cX7_init, 1, none, yX7_init, [])
theorem ob_X7 : Cond.methodLink RX7 3 Lib.objectInit ∈ lw_tbl := List.mem_of_getElem? (i := 226) (by decide +kernel)
theorem nw_X7_9 : Cond.classLink RX7 9 RX5 ∈ lw_tbl := List.mem_of_getElem? (i := 227) (by decide +kernel)
theorem ni_5 : Cond.instantiable RX5 2 ∈ lw_tbl := List.mem_of_getElem? (i := 228) (by decide +kernel)
theorem nn_5 : Cond.initialized RX5 ∈ lw_tbl := List.mem_of_getElem? (i := 143) (by decide +kernel)
theorem lk_X7_11 : Cond.methodLink RX7 11 yX5_init ∈ lw_tbl ∨ ∃ host, Cond.methodLinkNest RX7 11 yX5_init host ∈ lw_tbl := Or.inl (List.mem_of_getElem? (i := 229) (by decide +kernel))
theorem cf_X7_init_14 : CdF mX7_init 14 7 0 := ⟨(RX7, TX7, 14), rfl, by decide, List.mem_of_getElem? (i := 251) (by decide +kernel), Or.inr ⟨rfl, rfl, rfl⟩⟩
theorem ir_7_0 : ms_isr 7 0 = true := by decide +kernel
theorem dX7_init_0 : decode cX7_init 0 = .ok (.aload_n 0, 1) := by decide +kernel
theorem dX7_init_1 : decode cX7_init 1 = .ok (.invokespecial 3, 3) := by decide +kernel
theorem dX7_init_4 : decode cX7_init 4 = .ok (.aload_n 0, 1) := by decide +kernel
theorem dX7_init_5 : decode cX7_init 5 = .ok (.new 9, 3) := by decide +kernel
theorem dX7_init_8 : decode cX7_init 8 = .ok (.dup, 1) := by decide +kernel
theorem dX7_init_9 : decode cX7_init 9 = .ok (.bipush 6, 2) := by decide +kernel
theorem dX7_init_11 : decode cX7_init 11 = .ok (.invokespecial 11, 3) := by decide +kernel
theorem dX7_init_14 : decode cX7_init 14 = .ok (.putfield 14, 3) := by decide +kernel
theorem dX7_init_17 : decode cX7_init 17 = .ok (.return_, 1) := by decide +kernel
theorem fi_X7_init : CdYI mX7_init := ⟨List.mem_of_getElem? (i := 224) (by decide +kernel), List.mem_of_getElem? (i := 142) (by decide +kernel), List.mem_of_getElem? (i := 225) (by decide +kernel), by decide +kernel, by decide +kernel, by decide, rfl, rfl⟩
def f_X7_init (δ : DSt) (l0 : Nat) : Option DSt :=
  (cd_new δ 5).bind fun δ1 =>
  (f_X5_init δ1 δ.1 6).bind fun δ2 =>
  (cd_pr δ2 7 l0 0 δ.1).bind fun δ3 =>
  some δ3
set_option maxRecDepth 100000 in
theorem sp_X7_init (G : MG) (d : Nat) (hd : 2 ≤ d) (δ : DSt) (l0 : Nat) : CdSpec G mX7_init d [.ref l0] δ (f_X7_init δ l0) := by
  refine tc_start (pc2 := 17) (lv2 := []) (by decide +kernel) rfl rfl rfl (Nat.le_of_ble_eq_true rfl) dX7_init_17 ?_
  show TrC G mX7_init d δ.1 (cd_z δ.1) 17 [] 0 [(0, .ref l0)] [] δ ((cd_new δ 5).bind fun δ1 => (f_X5_init δ1 δ.1 6).bind fun δ2 => (cd_pr δ2 7 l0 0 δ.1).bind fun δ3 => some δ3)
  refine tc_aload_n (i := 0) dX7_init_0 rfl ?_
  refine tc_obj ob_X7 oi_1 oi_2 (by omega) (Nat.le_of_ble_eq_true rfl) dX7_init_1 ?_
  refine tc_aload_n (i := 0) dX7_init_4 rfl ?_
  refine tc_new 5 (RX5, TX5, 2) rfl nw_X7_9 ni_5 nn_5 dX7_init_5 (fun δ1 => ?_)
  refine tc_dup dX7_init_8 rfl ?_
  refine tc_bipush (v := 6) dX7_init_9 (by decide +kernel) ?_
  refine tc_init (rest := [.ref δ.1, .ref l0]) (al := [.int 6]) (sp_X5_init G (d - 1) (by omega) δ1 δ.1 6) lk_X7_11 fi_X5_init dX7_init_11 (show _ = some 1 by decide +kernel) (by omega) (Nat.le_of_ble_eq_true rfl) (fun δ2 => ?_)
  refine tc_putr 7 0 cf_X7_init_14 ir_7_0 (fun _ => rfl) (fun _ => rfl) dX7_init_14 (fun δ3 => ?_)
  refine tc_weak [] (lv' := []) rfl ?_
  exact tc_end
abbrev mX6_init : MM := (RX6, cX6_init, 2, none, yX6_init, [])
theorem ob_X6 : Cond.methodLink RX6 3 Lib.objectInit ∈ lw_tbl := List.mem_of_getElem? (i := 219) (by decide +kernel)
theorem ac_X6_9 : Cond.classLink RX6 9 "MarkStacks$Sign" ∈ lw_tbl := List.mem_of_getElem? (i := 220) (by decide +kernel)
theorem cf_X6_init_11 : CdF mX6_init 11 6 0 := ⟨(RX6, TX6, 7), rfl, by decide, List.mem_of_getElem? (i := 335) (by decide +kernel), Or.inr ⟨rfl, rfl, rfl⟩⟩
theorem ir_6_0 : ms_isr 6 0 = true := by decide +kernel
theorem gf_X6_init_11 : ∃ r : vw_C, ms_cl[6]? = some r ∧ 0 < r.2.2 ∧ Cond.fieldLink mX6_init.1 11 (r.2.1 0).1 (r.2.1 0).2.1 (r.2.1 0).2.2.1 ∈ lw_tbl := ⟨(RX6, TX6, 7), rfl, by decide, List.mem_of_getElem? (i := 335) (by decide +kernel)⟩
theorem ac_X6_18 : Cond.classLink RX6 18 "MarkStacks$Row" ∈ lw_tbl := List.mem_of_getElem? (i := 332) (by decide +kernel)
theorem cf_X6_init_20 : CdF mX6_init 20 6 1 := ⟨(RX6, TX6, 7), rfl, by decide, List.mem_of_getElem? (i := 336) (by decide +kernel), Or.inr ⟨rfl, rfl, rfl⟩⟩
theorem ir_6_1 : ms_isr 6 1 = true := by decide +kernel
theorem gf_X6_init_20 : ∃ r : vw_C, ms_cl[6]? = some r ∧ 1 < r.2.2 ∧ Cond.fieldLink mX6_init.1 20 (r.2.1 1).1 (r.2.1 1).2.1 (r.2.1 1).2.2.1 ∈ lw_tbl := ⟨(RX6, TX6, 7), rfl, by decide, List.mem_of_getElem? (i := 336) (by decide +kernel)⟩
theorem nw_X6_9 : Cond.classLink RX6 9 RX7 ∈ lw_tbl := List.mem_of_getElem? (i := 220) (by decide +kernel)
theorem ni_7 : Cond.instantiable RX7 14 ∈ lw_tbl := List.mem_of_getElem? (i := 222) (by decide +kernel)
theorem nn_7 : Cond.initialized RX7 ∈ lw_tbl := List.mem_of_getElem? (i := 142) (by decide +kernel)
theorem lk_X6_17 : Cond.methodLink RX6 17 yX7_init ∈ lw_tbl ∨ ∃ host, Cond.methodLinkNest RX6 17 yX7_init host ∈ lw_tbl := Or.inl (List.mem_of_getElem? (i := 223) (by decide +kernel))
theorem cf_X6_init_27 : CdF mX6_init 27 6 2 := ⟨(RX6, TX6, 7), rfl, by decide, List.mem_of_getElem? (i := 337) (by decide +kernel), Or.inr ⟨rfl, rfl, rfl⟩⟩
theorem ir_6_2 : ms_isr 6 2 = true := by decide +kernel
theorem nw_X6_18 : Cond.classLink RX6 18 RX5 ∈ lw_tbl := List.mem_of_getElem? (i := 332) (by decide +kernel)
theorem lk_X6_24 : Cond.methodLink RX6 24 yX5_init ∈ lw_tbl ∨ ∃ host, Cond.methodLinkNest RX6 24 yX5_init host ∈ lw_tbl := Or.inl (List.mem_of_getElem? (i := 334) (by decide +kernel))
theorem cf_X6_init_31 : CdF mX6_init 31 6 3 := ⟨(RX6, TX6, 7), rfl, by decide, List.mem_of_getElem? (i := 338) (by decide +kernel), Or.inr ⟨rfl, rfl, rfl⟩⟩
theorem ir_6_3 : ms_isr 6 3 = true := by decide +kernel
theorem cf_X6_init_35 : CdF mX6_init 35 6 4 := ⟨(RX6, TX6, 7), rfl, by decide, List.mem_of_getElem? (i := 339) (by decide +kernel), Or.inl rfl⟩
theorem ii_6_4 : ms_isr 6 4 = false := by decide +kernel
theorem cf_X6_init_39 : CdF mX6_init 39 6 5 := ⟨(RX6, TX6, 7), rfl, by decide, List.mem_of_getElem? (i := 343) (by decide +kernel), Or.inl rfl⟩
theorem ii_6_5 : ms_isr 6 5 = false := by decide +kernel
theorem cf_X6_init_42 : CdF mX6_init 42 6 6 := ⟨(RX6, TX6, 7), rfl, by decide, List.mem_of_getElem? (i := 346) (by decide +kernel), Or.inl rfl⟩
theorem ii_6_6 : ms_isr 6 6 = false := by decide +kernel
theorem dX6_init_0 : decode cX6_init 0 = .ok (.aload_n 0, 1) := by decide +kernel
theorem dX6_init_1 : decode cX6_init 1 = .ok (.invokespecial 3, 3) := by decide +kernel
theorem dX6_init_4 : decode cX6_init 4 = .ok (.aload_n 0, 1) := by decide +kernel
theorem dX6_init_5 : decode cX6_init 5 = .ok (.bipush 40, 2) := by decide +kernel
theorem dX6_init_7 : decode cX6_init 7 = .ok (.anewarray 9, 3) := by decide +kernel
theorem dX6_init_10 : decode cX6_init 10 = .ok (.putfield 11, 3) := by decide +kernel
theorem dX6_init_13 : decode cX6_init 13 = .ok (.iconst 0, 1) := by decide +kernel
theorem dX6_init_14 : decode cX6_init 14 = .ok (.istore_n 1, 1) := by decide +kernel
theorem dX6_init_15 : decode cX6_init 15 = .ok (.iload_n 1, 1) := by decide +kernel
theorem dX6_init_16 : decode cX6_init 16 = .ok (.aload_n 0, 1) := by decide +kernel
theorem dX6_init_17 : decode cX6_init 17 = .ok (.getfield 11, 3) := by decide +kernel
theorem dX6_init_20 : decode cX6_init 20 = .ok (.arraylength, 1) := by decide +kernel
theorem dX6_init_21 : decode cX6_init 21 = .ok (.if_icmp .ge 22, 3) := by decide +kernel
theorem dX6_init_24 : decode cX6_init 24 = .ok (.aload_n 0, 1) := by decide +kernel
theorem dX6_init_25 : decode cX6_init 25 = .ok (.getfield 11, 3) := by decide +kernel
theorem dX6_init_28 : decode cX6_init 28 = .ok (.iload_n 1, 1) := by decide +kernel
theorem dX6_init_29 : decode cX6_init 29 = .ok (.new 9, 3) := by decide +kernel
theorem dX6_init_32 : decode cX6_init 32 = .ok (.dup, 1) := by decide +kernel
theorem dX6_init_33 : decode cX6_init 33 = .ok (.invokespecial 17, 3) := by decide +kernel
theorem dX6_init_36 : decode cX6_init 36 = .ok (.aastore, 1) := by decide +kernel
theorem dX6_init_37 : decode cX6_init 37 = .ok (.iinc 1 1, 3) := by decide +kernel
theorem dX6_init_40 : decode cX6_init 40 = .ok (.goto (-25), 3) := by decide +kernel
theorem dX6_init_43 : decode cX6_init 43 = .ok (.aload_n 0, 1) := by decide +kernel
theorem dX6_init_44 : decode cX6_init 44 = .ok (.iconst 4, 1) := by decide +kernel
theorem dX6_init_45 : decode cX6_init 45 = .ok (.anewarray 18, 3) := by decide +kernel
theorem dX6_init_48 : decode cX6_init 48 = .ok (.putfield 20, 3) := by decide +kernel
theorem dX6_init_51 : decode cX6_init 51 = .ok (.iconst 0, 1) := by decide +kernel
theorem dX6_init_52 : decode cX6_init 52 = .ok (.istore_n 1, 1) := by decide +kernel
theorem dX6_init_53 : decode cX6_init 53 = .ok (.iload_n 1, 1) := by decide +kernel
theorem dX6_init_54 : decode cX6_init 54 = .ok (.aload_n 0, 1) := by decide +kernel
theorem dX6_init_55 : decode cX6_init 55 = .ok (.getfield 20, 3) := by decide +kernel
theorem dX6_init_58 : decode cX6_init 58 = .ok (.arraylength, 1) := by decide +kernel
theorem dX6_init_59 : decode cX6_init 59 = .ok (.if_icmp .ge 24, 3) := by decide +kernel
theorem dX6_init_62 : decode cX6_init 62 = .ok (.aload_n 0, 1) := by decide +kernel
theorem dX6_init_63 : decode cX6_init 63 = .ok (.getfield 20, 3) := by decide +kernel
theorem dX6_init_66 : decode cX6_init 66 = .ok (.iload_n 1, 1) := by decide +kernel
theorem dX6_init_67 : decode cX6_init 67 = .ok (.new 18, 3) := by decide +kernel
theorem dX6_init_70 : decode cX6_init 70 = .ok (.dup, 1) := by decide +kernel
theorem dX6_init_71 : decode cX6_init 71 = .ok (.bipush 60, 2) := by decide +kernel
theorem dX6_init_73 : decode cX6_init 73 = .ok (.invokespecial 24, 3) := by decide +kernel
theorem dX6_init_76 : decode cX6_init 76 = .ok (.aastore, 1) := by decide +kernel
theorem dX6_init_77 : decode cX6_init 77 = .ok (.iinc 1 1, 3) := by decide +kernel
theorem dX6_init_80 : decode cX6_init 80 = .ok (.goto (-27), 3) := by decide +kernel
theorem dX6_init_83 : decode cX6_init 83 = .ok (.aload_n 0, 1) := by decide +kernel
theorem dX6_init_84 : decode cX6_init 84 = .ok (.new 9, 3) := by decide +kernel
theorem dX6_init_87 : decode cX6_init 87 = .ok (.dup, 1) := by decide +kernel
theorem dX6_init_88 : decode cX6_init 88 = .ok (.invokespecial 17, 3) := by decide +kernel
theorem dX6_init_91 : decode cX6_init 91 = .ok (.putfield 27, 3) := by decide +kernel
theorem dX6_init_94 : decode cX6_init 94 = .ok (.aload_n 0, 1) := by decide +kernel
theorem dX6_init_95 : decode cX6_init 95 = .ok (.new 18, 3) := by decide +kernel
theorem dX6_init_98 : decode cX6_init 98 = .ok (.dup, 1) := by decide +kernel
theorem dX6_init_99 : decode cX6_init 99 = .ok (.iconst 0, 1) := by decide +kernel
theorem dX6_init_100 : decode cX6_init 100 = .ok (.invokespecial 24, 3) := by decide +kernel
theorem dX6_init_103 : decode cX6_init 103 = .ok (.putfield 31, 3) := by decide +kernel
theorem dX6_init_106 : decode cX6_init 106 = .ok (.aload_n 0, 1) := by decide +kernel
theorem dX6_init_107 : decode cX6_init 107 = .ok (.iconst 0, 1) := by decide +kernel
theorem dX6_init_108 : decode cX6_init 108 = .ok (.putfield 35, 3) := by decide +kernel
theorem dX6_init_111 : decode cX6_init 111 = .ok (.aload_n 0, 1) := by decide +kernel
theorem dX6_init_112 : decode cX6_init 112 = .ok (.iconst 1, 1) := by decide +kernel
theorem dX6_init_113 : decode cX6_init 113 = .ok (.putfield 39, 3) := by decide +kernel
theorem dX6_init_116 : decode cX6_init 116 = .ok (.aload_n 0, 1) := by decide +kernel
theorem dX6_init_117 : decode cX6_init 117 = .ok (.iconst 0, 1) := by decide +kernel
theorem dX6_init_118 : decode cX6_init 118 = .ok (.putfield 42, 3) := by decide +kernel
theorem dX6_init_121 : decode cX6_init 121 = .ok (.return_, 1) := by decide +kernel
theorem fi_X6_init : CdYI mX6_init := ⟨List.mem_of_getElem? (i := 217) (by decide +kernel), List.mem_of_getElem? (i := 141) (by decide +kernel), List.mem_of_getElem? (i := 218) (by decide +kernel), by decide +kernel, by decide +kernel, by decide, rfl, rfl⟩
def f_X6_init_53 : Nat → DSt → Nat → Int32 → Option DSt
  | 0 => fun _ _ _ => none
  | n + 1 => fun δ l0 l1 =>
    (cd_gr δ 6 l0 1).bind fun v7 =>
    (cd_ln δ 5 v7).bind fun v8 =>
    if l1 < v8 then
      (cd_gr δ 6 l0 1).bind fun v18 =>
      (cd_new δ 5).bind fun δ19 =>
      (f_X5_init δ19 δ.1 60).bind fun δ20 =>
      (cd_as' δ20 5 5 v18 l1 δ.1).bind fun δ21 =>
      f_X6_init_53 n δ21 l0 (l1 + 1)
    else
      (cd_new δ 7).bind fun δ9 =>
      (f_X7_init δ9 δ.1).bind fun δ10 =>
      (cd_pr δ10 6 l0 2 δ.1).bind fun δ11 =>
      (cd_new δ11 5).bind fun δ12 =>
      (f_X5_init δ12 δ11.1 0).bind fun δ13 =>
      (cd_pr δ13 6 l0 3 δ11.1).bind fun δ14 =>
      (cd_pi δ14 6 l0 4 0).bind fun δ15 =>
      (cd_pi δ15 6 l0 5 1).bind fun δ16 =>
      (cd_pi δ16 6 l0 6 0).bind fun δ17 =>
      some δ17
def f_X6_init_15 : Nat → DSt → Nat → Int32 → Option DSt
  | 0 => fun _ _ _ => none
  | n + 1 => fun δ l0 l1 =>
    (cd_gr δ 6 l0 0).bind fun v3 =>
    (cd_ln δ 4 v3).bind fun v4 =>
    if l1 < v4 then
      (cd_gr δ 6 l0 0).bind fun v22 =>
      (cd_new δ 7).bind fun δ23 =>
      (f_X7_init δ23 δ.1).bind fun δ24 =>
      (cd_as' δ24 4 7 v22 l1 δ.1).bind fun δ25 =>
      f_X6_init_15 n δ25 l0 (l1 + 1)
    else
      (cd_arr δ 5 4).bind fun δ5 =>
      (cd_pr δ5 6 l0 1 δ.1).bind fun δ6 =>
      f_X6_init_53 64 δ6 l0 0
def f_X6_init (δ : DSt) (l0 : Nat) : Option DSt :=
  (cd_arr δ 4 40).bind fun δ1 =>
  (cd_pr δ1 6 l0 0 δ.1).bind fun δ2 =>
  f_X6_init_15 64 δ2 l0 0
set_option maxRecDepth 100000 in
theorem t_X6_init_53 (G : MG) (d : Nat) (hd : 3 ≤ d) {c0 s0 : Nat} : ∀ (n : Nat) (δ : DSt) (l0 : Nat) (l1 : Int32), TrC G mX6_init d c0 s0 121 [] 53 [(0, .ref l0), (1, .int l1)] [] δ (f_X6_init_53 n δ l0 l1) := by
  intro n
  induction n with
  | zero => intros; exact tc_none
  | succ n ih =>
    intro δ l0 l1
    show TrC G mX6_init d c0 s0 121 [] 53 [(0, .ref l0), (1, .int l1)] [] δ ((cd_gr δ 6 l0 1).bind fun v7 => (cd_ln δ 5 v7).bind fun v8 => if l1 < v8 then (cd_gr δ 6 l0 1).bind fun v18 => (cd_new δ 5).bind fun δ19 => (f_X5_init δ19 δ.1 60).bind fun δ20 => (cd_as' δ20 5 5 v18 l1 δ.1).bind fun δ21 => f_X6_init_53 n δ21 l0 (l1 + 1) else (cd_new δ 7).bind fun δ9 => (f_X7_init δ9 δ.1).bind fun δ10 => (cd_pr δ10 6 l0 2 δ.1).bind fun δ11 => (cd_new δ11 5).bind fun δ12 => (f_X5_init δ12 δ11.1 0).bind fun δ13 => (cd_pr δ13 6 l0 3 δ11.1).bind fun δ14 => (cd_pi δ14 6 l0 4 0).bind fun δ15 => (cd_pi δ15 6 l0 5 1).bind fun δ16 => (cd_pi δ16 6 l0 6 0).bind fun δ17 => some δ17)
    refine tc_iload_n (i := 1) dX6_init_53 rfl ?_
    refine tc_aload_n (i := 0) dX6_init_54 rfl ?_
    refine tc_getr 6 1 gf_X6_init_20 ir_6_1 dX6_init_55 (fun v7 => ?_)
    refine tc_len 5 (by decide) dX6_init_58 (fun v8 => ?_)
    refine tc_icge (tgt := 83) dX6_init_59 (by decide) ?_ ?_
    · refine tc_aload_n (i := 0) dX6_init_83 rfl ?_
      refine tc_new 7 (RX7, TX7, 14) rfl nw_X6_9 ni_7 nn_7 dX6_init_84 (fun δ9 => ?_)
      refine tc_dup dX6_init_87 rfl ?_
      refine tc_init (rest := [.ref δ.1, .ref l0]) (al := []) (sp_X7_init G (d - 1) (by omega) δ9 δ.1) lk_X6_17 fi_X7_init dX6_init_88 (show _ = some 0 by decide +kernel) (by omega) (Nat.le_of_ble_eq_true rfl) (fun δ10 => ?_)
      refine tc_putr 6 2 cf_X6_init_27 ir_6_2 (fun _ => rfl) (fun _ => rfl) dX6_init_91 (fun δ11 => ?_)
      refine tc_aload_n (i := 0) dX6_init_94 rfl ?_
      refine tc_new 5 (RX5, TX5, 2) rfl nw_X6_18 ni_5 nn_5 dX6_init_95 (fun δ12 => ?_)
      refine tc_dup dX6_init_98 rfl ?_
      refine tc_iconst (v := 0) dX6_init_99 (by decide +kernel) ?_
      refine tc_init (rest := [.ref δ11.1, .ref l0]) (al := [.int 0]) (sp_X5_init G (d - 1) (by omega) δ12 δ11.1 0) lk_X6_24 fi_X5_init dX6_init_100 (show _ = some 1 by decide +kernel) (by omega) (Nat.le_of_ble_eq_true rfl) (fun δ13 => ?_)
      refine tc_putr 6 3 cf_X6_init_31 ir_6_3 (fun _ => rfl) (fun _ => rfl) dX6_init_103 (fun δ14 => ?_)
      refine tc_aload_n (i := 0) dX6_init_106 rfl ?_
      refine tc_iconst (v := 0) dX6_init_107 (by decide +kernel) ?_
      refine tc_puti 6 4 cf_X6_init_35 ii_6_4 (by decide +kernel) (by decide +kernel) dX6_init_108 (fun δ15 => ?_)
      refine tc_aload_n (i := 0) dX6_init_111 rfl ?_
      refine tc_iconst (v := 1) dX6_init_112 (by decide +kernel) ?_
      refine tc_puti 6 5 cf_X6_init_39 ii_6_5 (by decide +kernel) (by decide +kernel) dX6_init_113 (fun δ16 => ?_)
      refine tc_aload_n (i := 0) dX6_init_116 rfl ?_
      refine tc_iconst (v := 0) dX6_init_117 (by decide +kernel) ?_
      refine tc_puti 6 6 cf_X6_init_42 ii_6_6 (by decide +kernel) (by decide +kernel) dX6_init_118 (fun δ17 => ?_)
      refine tc_weak [] (lv' := []) rfl ?_
      exact tc_end
    · refine tc_aload_n (i := 0) dX6_init_62 rfl ?_
      refine tc_getr 6 1 gf_X6_init_20 ir_6_1 dX6_init_63 (fun v18 => ?_)
      refine tc_iload_n (i := 1) dX6_init_66 rfl ?_
      refine tc_new 5 (RX5, TX5, 2) rfl nw_X6_18 ni_5 nn_5 dX6_init_67 (fun δ19 => ?_)
      refine tc_dup dX6_init_70 rfl ?_
      refine tc_bipush (v := 60) dX6_init_71 (by decide +kernel) ?_
      refine tc_init (rest := [.ref δ.1, .int l1, .ref v18]) (al := [.int 60]) (sp_X5_init G (d - 1) (by omega) δ19 δ.1 60) lk_X6_24 fi_X5_init dX6_init_73 (show _ = some 1 by decide +kernel) (by omega) (Nat.le_of_ble_eq_true rfl) (fun δ20 => ?_)
      refine tc_as 5 5 (RX5, TX5, 2) rfl (by decide) (by decide) rfl dX6_init_76 (fun δ21 => ?_)
      refine tc_iinc (k := 1) (v := (l1 + 1)) (lv' := [(0, .ref l0), (1, .int (l1 + 1))]) [1, 0] dX6_init_77 rfl rfl (by decide) rfl ?_
      refine tc_goto (tgt := 53) dX6_init_80 (by decide) ?_
      exact ih δ21 l0 (l1 + 1)
set_option maxRecDepth 100000 in
theorem t_X6_init_15 (G : MG) (d : Nat) (hd : 3 ≤ d) {c0 s0 : Nat} : ∀ (n : Nat) (δ : DSt) (l0 : Nat) (l1 : Int32), TrC G mX6_init d c0 s0 121 [] 15 [(0, .ref l0), (1, .int l1)] [] δ (f_X6_init_15 n δ l0 l1) := by
  intro n
  induction n with
  | zero => intros; exact tc_none
  | succ n ih =>
    intro δ l0 l1
    show TrC G mX6_init d c0 s0 121 [] 15 [(0, .ref l0), (1, .int l1)] [] δ ((cd_gr δ 6 l0 0).bind fun v3 => (cd_ln δ 4 v3).bind fun v4 => if l1 < v4 then (cd_gr δ 6 l0 0).bind fun v22 => (cd_new δ 7).bind fun δ23 => (f_X7_init δ23 δ.1).bind fun δ24 => (cd_as' δ24 4 7 v22 l1 δ.1).bind fun δ25 => f_X6_init_15 n δ25 l0 (l1 + 1) else (cd_arr δ 5 4).bind fun δ5 => (cd_pr δ5 6 l0 1 δ.1).bind fun δ6 => f_X6_init_53 64 δ6 l0 0)
    refine tc_iload_n (i := 1) dX6_init_15 rfl ?_
    refine tc_aload_n (i := 0) dX6_init_16 rfl ?_
    refine tc_getr 6 0 gf_X6_init_11 ir_6_0 dX6_init_17 (fun v3 => ?_)
    refine tc_len 4 (by decide) dX6_init_20 (fun v4 => ?_)
    refine tc_icge (tgt := 43) dX6_init_21 (by decide) ?_ ?_
    · refine tc_aload_n (i := 0) dX6_init_43 rfl ?_
      refine tc_iconst (v := 4) dX6_init_44 (by decide +kernel) ?_
      refine tc_anew 5 "MarkStacks$Row" (by decide) (by decide) rfl ac_X6_18 dX6_init_45 (fun δ5 => ?_)
      refine tc_putr 6 1 cf_X6_init_20 ir_6_1 (fun _ => rfl) (fun _ => rfl) dX6_init_48 (fun δ6 => ?_)
      refine tc_iconst (v := 0) dX6_init_51 (by decide +kernel) ?_
      refine tc_istore_n (lv' := [(0, .ref l0), (1, .int 0)]) [1, 0] dX6_init_52 (by decide) rfl ?_
      exact t_X6_init_53 G d hd 64 δ6 l0 0
    · refine tc_aload_n (i := 0) dX6_init_24 rfl ?_
      refine tc_getr 6 0 gf_X6_init_11 ir_6_0 dX6_init_25 (fun v22 => ?_)
      refine tc_iload_n (i := 1) dX6_init_28 rfl ?_
      refine tc_new 7 (RX7, TX7, 14) rfl nw_X6_9 ni_7 nn_7 dX6_init_29 (fun δ23 => ?_)
      refine tc_dup dX6_init_32 rfl ?_
      refine tc_init (rest := [.ref δ.1, .int l1, .ref v22]) (al := []) (sp_X7_init G (d - 1) (by omega) δ23 δ.1) lk_X6_17 fi_X7_init dX6_init_33 (show _ = some 0 by decide +kernel) (by omega) (Nat.le_of_ble_eq_true rfl) (fun δ24 => ?_)
      refine tc_as 4 7 (RX7, TX7, 14) rfl (by decide) (by decide) rfl dX6_init_36 (fun δ25 => ?_)
      refine tc_iinc (k := 1) (v := (l1 + 1)) (lv' := [(0, .ref l0), (1, .int (l1 + 1))]) [1, 0] dX6_init_37 rfl rfl (by decide) rfl ?_
      refine tc_goto (tgt := 15) dX6_init_40 (by decide) ?_
      exact ih δ25 l0 (l1 + 1)
set_option maxRecDepth 100000 in
theorem sp_X6_init (G : MG) (d : Nat) (hd : 3 ≤ d) (δ : DSt) (l0 : Nat) : CdSpec G mX6_init d [.ref l0] δ (f_X6_init δ l0) := by
  refine tc_start (pc2 := 121) (lv2 := []) (by decide +kernel) rfl rfl rfl (Nat.le_of_ble_eq_true rfl) dX6_init_121 ?_
  show TrC G mX6_init d δ.1 (cd_z δ.1) 121 [] 0 [(0, .ref l0)] [] δ ((cd_arr δ 4 40).bind fun δ1 => (cd_pr δ1 6 l0 0 δ.1).bind fun δ2 => f_X6_init_15 64 δ2 l0 0)
  refine tc_aload_n (i := 0) dX6_init_0 rfl ?_
  refine tc_obj ob_X6 oi_1 oi_2 (by omega) (Nat.le_of_ble_eq_true rfl) dX6_init_1 ?_
  refine tc_aload_n (i := 0) dX6_init_4 rfl ?_
  refine tc_bipush (v := 40) dX6_init_5 (by decide +kernel) ?_
  refine tc_anew 4 "MarkStacks$Sign" (by decide) (by decide) rfl ac_X6_9 dX6_init_7 (fun δ1 => ?_)
  refine tc_putr 6 0 cf_X6_init_11 ir_6_0 (fun _ => rfl) (fun _ => rfl) dX6_init_10 (fun δ2 => ?_)
  refine tc_iconst (v := 0) dX6_init_13 (by decide +kernel) ?_
  refine tc_istore_n (lv' := [(0, .ref l0), (1, .int 0)]) [1, 0] dX6_init_14 (by decide) rfl ?_
  exact t_X6_init_15 G d hd 64 δ2 l0 0
abbrev mX3_init : MM := (RX3, cX3_init, 2, none, yX3_init, [])
theorem ob_X3 : Cond.methodLink RX3 3 Lib.objectInit ∈ lw_tbl := List.mem_of_getElem? (i := 421) (by decide +kernel)
theorem ac_X3_9 : Cond.classLink RX3 9 "MarkStacks$Row" ∈ lw_tbl := List.mem_of_getElem? (i := 422) (by decide +kernel)
theorem cf_X3_init_11 : CdF mX3_init 11 3 0 := ⟨(RX3, TX3, 4), rfl, by decide, List.mem_of_getElem? (i := 424) (by decide +kernel), Or.inr ⟨rfl, rfl, rfl⟩⟩
theorem ir_3_0 : ms_isr 3 0 = true := by decide +kernel
theorem gf_X3_init_11 : ∃ r : vw_C, ms_cl[3]? = some r ∧ 0 < r.2.2 ∧ Cond.fieldLink mX3_init.1 11 (r.2.1 0).1 (r.2.1 0).2.1 (r.2.1 0).2.2.1 ∈ lw_tbl := ⟨(RX3, TX3, 4), rfl, by decide, List.mem_of_getElem? (i := 424) (by decide +kernel)⟩
theorem nw_X3_9 : Cond.classLink RX3 9 RX5 ∈ lw_tbl := List.mem_of_getElem? (i := 422) (by decide +kernel)
theorem lk_X3_17 : Cond.methodLink RX3 17 yX5_init ∈ lw_tbl ∨ ∃ host, Cond.methodLinkNest RX3 17 yX5_init host ∈ lw_tbl := Or.inl (List.mem_of_getElem? (i := 423) (by decide +kernel))
theorem cf_X3_init_20 : CdF mX3_init 20 3 1 := ⟨(RX3, TX3, 4), rfl, by decide, List.mem_of_getElem? (i := 425) (by decide +kernel), Or.inr ⟨rfl, rfl, rfl⟩⟩
theorem ir_3_1 : ms_isr 3 1 = true := by decide +kernel
theorem cf_X3_init_24 : CdF mX3_init 24 3 2 := ⟨(RX3, TX3, 4), rfl, by decide, List.mem_of_getElem? (i := 426) (by decide +kernel), Or.inr ⟨rfl, rfl, rfl⟩⟩
theorem ir_3_2 : ms_isr 3 2 = true := by decide +kernel
theorem cf_X3_init_27 : CdF mX3_init 27 3 3 := ⟨(RX3, TX3, 4), rfl, by decide, List.mem_of_getElem? (i := 427) (by decide +kernel), Or.inl rfl⟩
theorem ii_3_3 : ms_isr 3 3 = false := by decide +kernel
theorem dX3_init_0 : decode cX3_init 0 = .ok (.aload_n 0, 1) := by decide +kernel
theorem dX3_init_1 : decode cX3_init 1 = .ok (.invokespecial 3, 3) := by decide +kernel
theorem dX3_init_4 : decode cX3_init 4 = .ok (.aload_n 0, 1) := by decide +kernel
theorem dX3_init_5 : decode cX3_init 5 = .ok (.iconst 4, 1) := by decide +kernel
theorem dX3_init_6 : decode cX3_init 6 = .ok (.anewarray 9, 3) := by decide +kernel
theorem dX3_init_9 : decode cX3_init 9 = .ok (.putfield 11, 3) := by decide +kernel
theorem dX3_init_12 : decode cX3_init 12 = .ok (.iconst 0, 1) := by decide +kernel
theorem dX3_init_13 : decode cX3_init 13 = .ok (.istore_n 1, 1) := by decide +kernel
theorem dX3_init_14 : decode cX3_init 14 = .ok (.iload_n 1, 1) := by decide +kernel
theorem dX3_init_15 : decode cX3_init 15 = .ok (.aload_n 0, 1) := by decide +kernel
theorem dX3_init_16 : decode cX3_init 16 = .ok (.getfield 11, 3) := by decide +kernel
theorem dX3_init_19 : decode cX3_init 19 = .ok (.arraylength, 1) := by decide +kernel
theorem dX3_init_20 : decode cX3_init 20 = .ok (.if_icmp .ge 24, 3) := by decide +kernel
theorem dX3_init_23 : decode cX3_init 23 = .ok (.aload_n 0, 1) := by decide +kernel
theorem dX3_init_24 : decode cX3_init 24 = .ok (.getfield 11, 3) := by decide +kernel
theorem dX3_init_27 : decode cX3_init 27 = .ok (.iload_n 1, 1) := by decide +kernel
theorem dX3_init_28 : decode cX3_init 28 = .ok (.new 9, 3) := by decide +kernel
theorem dX3_init_31 : decode cX3_init 31 = .ok (.dup, 1) := by decide +kernel
theorem dX3_init_32 : decode cX3_init 32 = .ok (.bipush 60, 2) := by decide +kernel
theorem dX3_init_34 : decode cX3_init 34 = .ok (.invokespecial 17, 3) := by decide +kernel
theorem dX3_init_37 : decode cX3_init 37 = .ok (.aastore, 1) := by decide +kernel
theorem dX3_init_38 : decode cX3_init 38 = .ok (.iinc 1 1, 3) := by decide +kernel
theorem dX3_init_41 : decode cX3_init 41 = .ok (.goto (-27), 3) := by decide +kernel
theorem dX3_init_44 : decode cX3_init 44 = .ok (.aload_n 0, 1) := by decide +kernel
theorem dX3_init_45 : decode cX3_init 45 = .ok (.new 9, 3) := by decide +kernel
theorem dX3_init_48 : decode cX3_init 48 = .ok (.dup, 1) := by decide +kernel
theorem dX3_init_49 : decode cX3_init 49 = .ok (.bipush 40, 2) := by decide +kernel
theorem dX3_init_51 : decode cX3_init 51 = .ok (.invokespecial 17, 3) := by decide +kernel
theorem dX3_init_54 : decode cX3_init 54 = .ok (.putfield 20, 3) := by decide +kernel
theorem dX3_init_57 : decode cX3_init 57 = .ok (.aload_n 0, 1) := by decide +kernel
theorem dX3_init_58 : decode cX3_init 58 = .ok (.new 9, 3) := by decide +kernel
theorem dX3_init_61 : decode cX3_init 61 = .ok (.dup, 1) := by decide +kernel
theorem dX3_init_62 : decode cX3_init 62 = .ok (.bipush 40, 2) := by decide +kernel
theorem dX3_init_64 : decode cX3_init 64 = .ok (.invokespecial 17, 3) := by decide +kernel
theorem dX3_init_67 : decode cX3_init 67 = .ok (.putfield 24, 3) := by decide +kernel
theorem dX3_init_70 : decode cX3_init 70 = .ok (.aload_n 0, 1) := by decide +kernel
theorem dX3_init_71 : decode cX3_init 71 = .ok (.iconst 0, 1) := by decide +kernel
theorem dX3_init_72 : decode cX3_init 72 = .ok (.putfield 27, 3) := by decide +kernel
theorem dX3_init_75 : decode cX3_init 75 = .ok (.return_, 1) := by decide +kernel
theorem fi_X3_init : CdYI mX3_init := ⟨List.mem_of_getElem? (i := 419) (by decide +kernel), List.mem_of_getElem? (i := 148) (by decide +kernel), List.mem_of_getElem? (i := 420) (by decide +kernel), by decide +kernel, by decide +kernel, by decide, rfl, rfl⟩
def f_X3_init_14 : Nat → DSt → Nat → Int32 → Option DSt
  | 0 => fun _ _ _ => none
  | n + 1 => fun δ l0 l1 =>
    (cd_gr δ 3 l0 0).bind fun v3 =>
    (cd_ln δ 5 v3).bind fun v4 =>
    if l1 < v4 then
      (cd_gr δ 3 l0 0).bind fun v12 =>
      (cd_new δ 5).bind fun δ13 =>
      (f_X5_init δ13 δ.1 60).bind fun δ14 =>
      (cd_as' δ14 5 5 v12 l1 δ.1).bind fun δ15 =>
      f_X3_init_14 n δ15 l0 (l1 + 1)
    else
      (cd_new δ 5).bind fun δ5 =>
      (f_X5_init δ5 δ.1 40).bind fun δ6 =>
      (cd_pr δ6 3 l0 1 δ.1).bind fun δ7 =>
      (cd_new δ7 5).bind fun δ8 =>
      (f_X5_init δ8 δ7.1 40).bind fun δ9 =>
      (cd_pr δ9 3 l0 2 δ7.1).bind fun δ10 =>
      (cd_pi δ10 3 l0 3 0).bind fun δ11 =>
      some δ11
def f_X3_init (δ : DSt) (l0 : Nat) : Option DSt :=
  (cd_arr δ 5 4).bind fun δ1 =>
  (cd_pr δ1 3 l0 0 δ.1).bind fun δ2 =>
  f_X3_init_14 64 δ2 l0 0
set_option maxRecDepth 100000 in
theorem t_X3_init_14 (G : MG) (d : Nat) (hd : 2 ≤ d) {c0 s0 : Nat} : ∀ (n : Nat) (δ : DSt) (l0 : Nat) (l1 : Int32), TrC G mX3_init d c0 s0 75 [] 14 [(0, .ref l0), (1, .int l1)] [] δ (f_X3_init_14 n δ l0 l1) := by
  intro n
  induction n with
  | zero => intros; exact tc_none
  | succ n ih =>
    intro δ l0 l1
    show TrC G mX3_init d c0 s0 75 [] 14 [(0, .ref l0), (1, .int l1)] [] δ ((cd_gr δ 3 l0 0).bind fun v3 => (cd_ln δ 5 v3).bind fun v4 => if l1 < v4 then (cd_gr δ 3 l0 0).bind fun v12 => (cd_new δ 5).bind fun δ13 => (f_X5_init δ13 δ.1 60).bind fun δ14 => (cd_as' δ14 5 5 v12 l1 δ.1).bind fun δ15 => f_X3_init_14 n δ15 l0 (l1 + 1) else (cd_new δ 5).bind fun δ5 => (f_X5_init δ5 δ.1 40).bind fun δ6 => (cd_pr δ6 3 l0 1 δ.1).bind fun δ7 => (cd_new δ7 5).bind fun δ8 => (f_X5_init δ8 δ7.1 40).bind fun δ9 => (cd_pr δ9 3 l0 2 δ7.1).bind fun δ10 => (cd_pi δ10 3 l0 3 0).bind fun δ11 => some δ11)
    refine tc_iload_n (i := 1) dX3_init_14 rfl ?_
    refine tc_aload_n (i := 0) dX3_init_15 rfl ?_
    refine tc_getr 3 0 gf_X3_init_11 ir_3_0 dX3_init_16 (fun v3 => ?_)
    refine tc_len 5 (by decide) dX3_init_19 (fun v4 => ?_)
    refine tc_icge (tgt := 44) dX3_init_20 (by decide) ?_ ?_
    · refine tc_aload_n (i := 0) dX3_init_44 rfl ?_
      refine tc_new 5 (RX5, TX5, 2) rfl nw_X3_9 ni_5 nn_5 dX3_init_45 (fun δ5 => ?_)
      refine tc_dup dX3_init_48 rfl ?_
      refine tc_bipush (v := 40) dX3_init_49 (by decide +kernel) ?_
      refine tc_init (rest := [.ref δ.1, .ref l0]) (al := [.int 40]) (sp_X5_init G (d - 1) (by omega) δ5 δ.1 40) lk_X3_17 fi_X5_init dX3_init_51 (show _ = some 1 by decide +kernel) (by omega) (Nat.le_of_ble_eq_true rfl) (fun δ6 => ?_)
      refine tc_putr 3 1 cf_X3_init_20 ir_3_1 (fun _ => rfl) (fun _ => rfl) dX3_init_54 (fun δ7 => ?_)
      refine tc_aload_n (i := 0) dX3_init_57 rfl ?_
      refine tc_new 5 (RX5, TX5, 2) rfl nw_X3_9 ni_5 nn_5 dX3_init_58 (fun δ8 => ?_)
      refine tc_dup dX3_init_61 rfl ?_
      refine tc_bipush (v := 40) dX3_init_62 (by decide +kernel) ?_
      refine tc_init (rest := [.ref δ7.1, .ref l0]) (al := [.int 40]) (sp_X5_init G (d - 1) (by omega) δ8 δ7.1 40) lk_X3_17 fi_X5_init dX3_init_64 (show _ = some 1 by decide +kernel) (by omega) (Nat.le_of_ble_eq_true rfl) (fun δ9 => ?_)
      refine tc_putr 3 2 cf_X3_init_24 ir_3_2 (fun _ => rfl) (fun _ => rfl) dX3_init_67 (fun δ10 => ?_)
      refine tc_aload_n (i := 0) dX3_init_70 rfl ?_
      refine tc_iconst (v := 0) dX3_init_71 (by decide +kernel) ?_
      refine tc_puti 3 3 cf_X3_init_27 ii_3_3 (by decide +kernel) (by decide +kernel) dX3_init_72 (fun δ11 => ?_)
      refine tc_weak [] (lv' := []) rfl ?_
      exact tc_end
    · refine tc_aload_n (i := 0) dX3_init_23 rfl ?_
      refine tc_getr 3 0 gf_X3_init_11 ir_3_0 dX3_init_24 (fun v12 => ?_)
      refine tc_iload_n (i := 1) dX3_init_27 rfl ?_
      refine tc_new 5 (RX5, TX5, 2) rfl nw_X3_9 ni_5 nn_5 dX3_init_28 (fun δ13 => ?_)
      refine tc_dup dX3_init_31 rfl ?_
      refine tc_bipush (v := 60) dX3_init_32 (by decide +kernel) ?_
      refine tc_init (rest := [.ref δ.1, .int l1, .ref v12]) (al := [.int 60]) (sp_X5_init G (d - 1) (by omega) δ13 δ.1 60) lk_X3_17 fi_X5_init dX3_init_34 (show _ = some 1 by decide +kernel) (by omega) (Nat.le_of_ble_eq_true rfl) (fun δ14 => ?_)
      refine tc_as 5 5 (RX5, TX5, 2) rfl (by decide) (by decide) rfl dX3_init_37 (fun δ15 => ?_)
      refine tc_iinc (k := 1) (v := (l1 + 1)) (lv' := [(0, .ref l0), (1, .int (l1 + 1))]) [1, 0] dX3_init_38 rfl rfl (by decide) rfl ?_
      refine tc_goto (tgt := 14) dX3_init_41 (by decide) ?_
      exact ih δ15 l0 (l1 + 1)
set_option maxRecDepth 100000 in
theorem sp_X3_init (G : MG) (d : Nat) (hd : 2 ≤ d) (δ : DSt) (l0 : Nat) : CdSpec G mX3_init d [.ref l0] δ (f_X3_init δ l0) := by
  refine tc_start (pc2 := 75) (lv2 := []) (by decide +kernel) rfl rfl rfl (Nat.le_of_ble_eq_true rfl) dX3_init_75 ?_
  show TrC G mX3_init d δ.1 (cd_z δ.1) 75 [] 0 [(0, .ref l0)] [] δ ((cd_arr δ 5 4).bind fun δ1 => (cd_pr δ1 3 l0 0 δ.1).bind fun δ2 => f_X3_init_14 64 δ2 l0 0)
  refine tc_aload_n (i := 0) dX3_init_0 rfl ?_
  refine tc_obj ob_X3 oi_1 oi_2 (by omega) (Nat.le_of_ble_eq_true rfl) dX3_init_1 ?_
  refine tc_aload_n (i := 0) dX3_init_4 rfl ?_
  refine tc_iconst (v := 4) dX3_init_5 (by decide +kernel) ?_
  refine tc_anew 5 "MarkStacks$Row" (by decide) (by decide) rfl ac_X3_9 dX3_init_6 (fun δ1 => ?_)
  refine tc_putr 3 0 cf_X3_init_11 ir_3_0 (fun _ => rfl) (fun _ => rfl) dX3_init_9 (fun δ2 => ?_)
  refine tc_iconst (v := 0) dX3_init_12 (by decide +kernel) ?_
  refine tc_istore_n (lv' := [(0, .ref l0), (1, .int 0)]) [1, 0] dX3_init_13 (by decide) rfl ?_
  exact t_X3_init_14 G d hd 64 δ2 l0 0
abbrev mX2_init : MM := (RX2, cX2_init, 2, none, yX2_init, [])
theorem ob_X2 : Cond.methodLink RX2 3 Lib.objectInit ∈ lw_tbl := List.mem_of_getElem? (i := 414) (by decide +kernel)
theorem ac_X2_9 : Cond.classLink RX2 9 "MarkStacks$Memory" ∈ lw_tbl := List.mem_of_getElem? (i := 415) (by decide +kernel)
theorem cf_X2_init_11 : CdF mX2_init 11 2 0 := ⟨(RX2, TX2, 3), rfl, by decide, List.mem_of_getElem? (i := 437) (by decide +kernel), Or.inr ⟨rfl, rfl, rfl⟩⟩
theorem ir_2_0 : ms_isr 2 0 = true := by decide +kernel
theorem gf_X2_init_11 : ∃ r : vw_C, ms_cl[2]? = some r ∧ 0 < r.2.2 ∧ Cond.fieldLink mX2_init.1 11 (r.2.1 0).1 (r.2.1 0).2.1 (r.2.1 0).2.2.1 ∈ lw_tbl := ⟨(RX2, TX2, 3), rfl, by decide, List.mem_of_getElem? (i := 437) (by decide +kernel)⟩
theorem cf_X2_init_18 : CdF mX2_init 18 2 1 := ⟨(RX2, TX2, 3), rfl, by decide, List.mem_of_getElem? (i := 438) (by decide +kernel), Or.inl rfl⟩
theorem ii_2_1 : ms_isr 2 1 = false := by decide +kernel
theorem cf_X2_init_22 : CdF mX2_init 22 2 2 := ⟨(RX2, TX2, 3), rfl, by decide, List.mem_of_getElem? (i := 439) (by decide +kernel), Or.inl rfl⟩
theorem ii_2_2 : ms_isr 2 2 = false := by decide +kernel
theorem nw_X2_9 : Cond.classLink RX2 9 RX3 ∈ lw_tbl := List.mem_of_getElem? (i := 415) (by decide +kernel)
theorem ni_3 : Cond.instantiable RX3 4 ∈ lw_tbl := List.mem_of_getElem? (i := 417) (by decide +kernel)
theorem nn_3 : Cond.initialized RX3 ∈ lw_tbl := List.mem_of_getElem? (i := 148) (by decide +kernel)
theorem lk_X2_17 : Cond.methodLink RX2 17 yX3_init ∈ lw_tbl ∨ ∃ host, Cond.methodLinkNest RX2 17 yX3_init host ∈ lw_tbl := Or.inl (List.mem_of_getElem? (i := 418) (by decide +kernel))
theorem dX2_init_0 : decode cX2_init 0 = .ok (.aload_n 0, 1) := by decide +kernel
theorem dX2_init_1 : decode cX2_init 1 = .ok (.invokespecial 3, 3) := by decide +kernel
theorem dX2_init_4 : decode cX2_init 4 = .ok (.aload_n 0, 1) := by decide +kernel
theorem dX2_init_5 : decode cX2_init 5 = .ok (.bipush 10, 2) := by decide +kernel
theorem dX2_init_7 : decode cX2_init 7 = .ok (.anewarray 9, 3) := by decide +kernel
theorem dX2_init_10 : decode cX2_init 10 = .ok (.putfield 11, 3) := by decide +kernel
theorem dX2_init_13 : decode cX2_init 13 = .ok (.iconst 0, 1) := by decide +kernel
theorem dX2_init_14 : decode cX2_init 14 = .ok (.istore_n 1, 1) := by decide +kernel
theorem dX2_init_15 : decode cX2_init 15 = .ok (.iload_n 1, 1) := by decide +kernel
theorem dX2_init_16 : decode cX2_init 16 = .ok (.aload_n 0, 1) := by decide +kernel
theorem dX2_init_17 : decode cX2_init 17 = .ok (.getfield 11, 3) := by decide +kernel
theorem dX2_init_20 : decode cX2_init 20 = .ok (.arraylength, 1) := by decide +kernel
theorem dX2_init_21 : decode cX2_init 21 = .ok (.if_icmp .ge 22, 3) := by decide +kernel
theorem dX2_init_24 : decode cX2_init 24 = .ok (.aload_n 0, 1) := by decide +kernel
theorem dX2_init_25 : decode cX2_init 25 = .ok (.getfield 11, 3) := by decide +kernel
theorem dX2_init_28 : decode cX2_init 28 = .ok (.iload_n 1, 1) := by decide +kernel
theorem dX2_init_29 : decode cX2_init 29 = .ok (.new 9, 3) := by decide +kernel
theorem dX2_init_32 : decode cX2_init 32 = .ok (.dup, 1) := by decide +kernel
theorem dX2_init_33 : decode cX2_init 33 = .ok (.invokespecial 17, 3) := by decide +kernel
theorem dX2_init_36 : decode cX2_init 36 = .ok (.aastore, 1) := by decide +kernel
theorem dX2_init_37 : decode cX2_init 37 = .ok (.iinc 1 1, 3) := by decide +kernel
theorem dX2_init_40 : decode cX2_init 40 = .ok (.goto (-25), 3) := by decide +kernel
theorem dX2_init_43 : decode cX2_init 43 = .ok (.aload_n 0, 1) := by decide +kernel
theorem dX2_init_44 : decode cX2_init 44 = .ok (.iconst 0, 1) := by decide +kernel
theorem dX2_init_45 : decode cX2_init 45 = .ok (.putfield 18, 3) := by decide +kernel
theorem dX2_init_48 : decode cX2_init 48 = .ok (.aload_n 0, 1) := by decide +kernel
theorem dX2_init_49 : decode cX2_init 49 = .ok (.iconst 0, 1) := by decide +kernel
theorem dX2_init_50 : decode cX2_init 50 = .ok (.putfield 22, 3) := by decide +kernel
theorem dX2_init_53 : decode cX2_init 53 = .ok (.return_, 1) := by decide +kernel
theorem fi_X2_init : CdYI mX2_init := ⟨List.mem_of_getElem? (i := 412) (by decide +kernel), List.mem_of_getElem? (i := 147) (by decide +kernel), List.mem_of_getElem? (i := 413) (by decide +kernel), by decide +kernel, by decide +kernel, by decide, rfl, rfl⟩
def f_X2_init_15 : Nat → DSt → Nat → Int32 → Option DSt
  | 0 => fun _ _ _ => none
  | n + 1 => fun δ l0 l1 =>
    (cd_gr δ 2 l0 0).bind fun v3 =>
    (cd_ln δ 6 v3).bind fun v4 =>
    if l1 < v4 then
      (cd_gr δ 2 l0 0).bind fun v7 =>
      (cd_new δ 3).bind fun δ8 =>
      (f_X3_init δ8 δ.1).bind fun δ9 =>
      (cd_as' δ9 6 3 v7 l1 δ.1).bind fun δ10 =>
      f_X2_init_15 n δ10 l0 (l1 + 1)
    else
      (cd_pi δ 2 l0 1 0).bind fun δ5 =>
      (cd_pi δ5 2 l0 2 0).bind fun δ6 =>
      some δ6
def f_X2_init (δ : DSt) (l0 : Nat) : Option DSt :=
  (cd_arr δ 6 10).bind fun δ1 =>
  (cd_pr δ1 2 l0 0 δ.1).bind fun δ2 =>
  f_X2_init_15 64 δ2 l0 0
set_option maxRecDepth 100000 in
theorem t_X2_init_15 (G : MG) (d : Nat) (hd : 3 ≤ d) {c0 s0 : Nat} : ∀ (n : Nat) (δ : DSt) (l0 : Nat) (l1 : Int32), TrC G mX2_init d c0 s0 53 [] 15 [(0, .ref l0), (1, .int l1)] [] δ (f_X2_init_15 n δ l0 l1) := by
  intro n
  induction n with
  | zero => intros; exact tc_none
  | succ n ih =>
    intro δ l0 l1
    show TrC G mX2_init d c0 s0 53 [] 15 [(0, .ref l0), (1, .int l1)] [] δ ((cd_gr δ 2 l0 0).bind fun v3 => (cd_ln δ 6 v3).bind fun v4 => if l1 < v4 then (cd_gr δ 2 l0 0).bind fun v7 => (cd_new δ 3).bind fun δ8 => (f_X3_init δ8 δ.1).bind fun δ9 => (cd_as' δ9 6 3 v7 l1 δ.1).bind fun δ10 => f_X2_init_15 n δ10 l0 (l1 + 1) else (cd_pi δ 2 l0 1 0).bind fun δ5 => (cd_pi δ5 2 l0 2 0).bind fun δ6 => some δ6)
    refine tc_iload_n (i := 1) dX2_init_15 rfl ?_
    refine tc_aload_n (i := 0) dX2_init_16 rfl ?_
    refine tc_getr 2 0 gf_X2_init_11 ir_2_0 dX2_init_17 (fun v3 => ?_)
    refine tc_len 6 (by decide) dX2_init_20 (fun v4 => ?_)
    refine tc_icge (tgt := 43) dX2_init_21 (by decide) ?_ ?_
    · refine tc_aload_n (i := 0) dX2_init_43 rfl ?_
      refine tc_iconst (v := 0) dX2_init_44 (by decide +kernel) ?_
      refine tc_puti 2 1 cf_X2_init_18 ii_2_1 (by decide +kernel) (by decide +kernel) dX2_init_45 (fun δ5 => ?_)
      refine tc_aload_n (i := 0) dX2_init_48 rfl ?_
      refine tc_iconst (v := 0) dX2_init_49 (by decide +kernel) ?_
      refine tc_puti 2 2 cf_X2_init_22 ii_2_2 (by decide +kernel) (by decide +kernel) dX2_init_50 (fun δ6 => ?_)
      refine tc_weak [] (lv' := []) rfl ?_
      exact tc_end
    · refine tc_aload_n (i := 0) dX2_init_24 rfl ?_
      refine tc_getr 2 0 gf_X2_init_11 ir_2_0 dX2_init_25 (fun v7 => ?_)
      refine tc_iload_n (i := 1) dX2_init_28 rfl ?_
      refine tc_new 3 (RX3, TX3, 4) rfl nw_X2_9 ni_3 nn_3 dX2_init_29 (fun δ8 => ?_)
      refine tc_dup dX2_init_32 rfl ?_
      refine tc_init (rest := [.ref δ.1, .int l1, .ref v7]) (al := []) (sp_X3_init G (d - 1) (by omega) δ8 δ.1) lk_X2_17 fi_X3_init dX2_init_33 (show _ = some 0 by decide +kernel) (by omega) (Nat.le_of_ble_eq_true rfl) (fun δ9 => ?_)
      refine tc_as 6 3 (RX3, TX3, 4) rfl (by decide) (by decide) rfl dX2_init_36 (fun δ10 => ?_)
      refine tc_iinc (k := 1) (v := (l1 + 1)) (lv' := [(0, .ref l0), (1, .int (l1 + 1))]) [1, 0] dX2_init_37 rfl rfl (by decide) rfl ?_
      refine tc_goto (tgt := 15) dX2_init_40 (by decide) ?_
      exact ih δ10 l0 (l1 + 1)
set_option maxRecDepth 100000 in
theorem sp_X2_init (G : MG) (d : Nat) (hd : 3 ≤ d) (δ : DSt) (l0 : Nat) : CdSpec G mX2_init d [.ref l0] δ (f_X2_init δ l0) := by
  refine tc_start (pc2 := 53) (lv2 := []) (by decide +kernel) rfl rfl rfl (Nat.le_of_ble_eq_true rfl) dX2_init_53 ?_
  show TrC G mX2_init d δ.1 (cd_z δ.1) 53 [] 0 [(0, .ref l0)] [] δ ((cd_arr δ 6 10).bind fun δ1 => (cd_pr δ1 2 l0 0 δ.1).bind fun δ2 => f_X2_init_15 64 δ2 l0 0)
  refine tc_aload_n (i := 0) dX2_init_0 rfl ?_
  refine tc_obj ob_X2 oi_1 oi_2 (by omega) (Nat.le_of_ble_eq_true rfl) dX2_init_1 ?_
  refine tc_aload_n (i := 0) dX2_init_4 rfl ?_
  refine tc_bipush (v := 10) dX2_init_5 (by decide +kernel) ?_
  refine tc_anew 6 "MarkStacks$Memory" (by decide) (by decide) rfl ac_X2_9 dX2_init_7 (fun δ1 => ?_)
  refine tc_putr 2 0 cf_X2_init_11 ir_2_0 (fun _ => rfl) (fun _ => rfl) dX2_init_10 (fun δ2 => ?_)
  refine tc_iconst (v := 0) dX2_init_13 (by decide +kernel) ?_
  refine tc_istore_n (lv' := [(0, .ref l0), (1, .int 0)]) [1, 0] dX2_init_14 (by decide) rfl ?_
  exact t_X2_init_15 G d hd 64 δ2 l0 0
abbrev mX0_init : MM := (RX0, cX0_init, 2, none, yX0_init, [])
theorem ob_X0 : Cond.methodLink RX0 3 Lib.objectInit ∈ lw_tbl := List.mem_of_getElem? (i := 492) (by decide +kernel)
theorem cf_X0_init_9 : CdF mX0_init 9 0 0 := ⟨(RX0, TX0, 12), rfl, by decide, List.mem_of_getElem? (i := 495) (by decide +kernel), Or.inr ⟨rfl, rfl, rfl⟩⟩
theorem ir_0_0 : ms_isr 0 0 = true := by decide +kernel
theorem nw_X0_15 : Cond.classLink RX0 15 RX5 ∈ lw_tbl := List.mem_of_getElem? (i := 493) (by decide +kernel)
theorem lk_X0_17 : Cond.methodLink RX0 17 yX5_init ∈ lw_tbl ∨ ∃ host, Cond.methodLinkNest RX0 17 yX5_init host ∈ lw_tbl := Or.inl (List.mem_of_getElem? (i := 494) (by decide +kernel))
theorem cf_X0_init_20 : CdF mX0_init 20 0 1 := ⟨(RX0, TX0, 12), rfl, by decide, List.mem_of_getElem? (i := 496) (by decide +kernel), Or.inr ⟨rfl, rfl, rfl⟩⟩
theorem ir_0_1 : ms_isr 0 1 = true := by decide +kernel
theorem cf_X0_init_24 : CdF mX0_init 24 0 2 := ⟨(RX0, TX0, 12), rfl, by decide, List.mem_of_getElem? (i := 498) (by decide +kernel), Or.inr ⟨rfl, rfl, rfl⟩⟩
theorem ir_0_2 : ms_isr 0 2 = true := by decide +kernel
theorem cf_X0_init_27 : CdF mX0_init 27 0 3 := ⟨(RX0, TX0, 12), rfl, by decide, List.mem_of_getElem? (i := 500) (by decide +kernel), Or.inr ⟨rfl, rfl, rfl⟩⟩
theorem ir_0_3 : ms_isr 0 3 = true := by decide +kernel
theorem cf_X0_init_30 : CdF mX0_init 30 0 4 := ⟨(RX0, TX0, 12), rfl, by decide, List.mem_of_getElem? (i := 502) (by decide +kernel), Or.inr ⟨rfl, rfl, rfl⟩⟩
theorem ir_0_4 : ms_isr 0 4 = true := by decide +kernel
theorem cf_X0_init_33 : CdF mX0_init 33 0 5 := ⟨(RX0, TX0, 12), rfl, by decide, List.mem_of_getElem? (i := 504) (by decide +kernel), Or.inr ⟨rfl, rfl, rfl⟩⟩
theorem ir_0_5 : ms_isr 0 5 = true := by decide +kernel
theorem dX0_init_0 : decode cX0_init 0 = .ok (.aload_n 0, 1) := by decide +kernel
theorem dX0_init_1 : decode cX0_init 1 = .ok (.invokespecial 3, 3) := by decide +kernel
theorem dX0_init_4 : decode cX0_init 4 = .ok (.aload_n 0, 1) := by decide +kernel
theorem dX0_init_5 : decode cX0_init 5 = .ok (.aload_n 1, 1) := by decide +kernel
theorem dX0_init_6 : decode cX0_init 6 = .ok (.putfield 9, 3) := by decide +kernel
theorem dX0_init_9 : decode cX0_init 9 = .ok (.aload_n 0, 1) := by decide +kernel
theorem dX0_init_10 : decode cX0_init 10 = .ok (.new 15, 3) := by decide +kernel
theorem dX0_init_13 : decode cX0_init 13 = .ok (.dup, 1) := by decide +kernel
theorem dX0_init_14 : decode cX0_init 14 = .ok (.bipush 66, 2) := by decide +kernel
theorem dX0_init_16 : decode cX0_init 16 = .ok (.invokespecial 17, 3) := by decide +kernel
theorem dX0_init_19 : decode cX0_init 19 = .ok (.putfield 20, 3) := by decide +kernel
theorem dX0_init_22 : decode cX0_init 22 = .ok (.aload_n 0, 1) := by decide +kernel
theorem dX0_init_23 : decode cX0_init 23 = .ok (.new 15, 3) := by decide +kernel
theorem dX0_init_26 : decode cX0_init 26 = .ok (.dup, 1) := by decide +kernel
theorem dX0_init_27 : decode cX0_init 27 = .ok (.bipush 66, 2) := by decide +kernel
theorem dX0_init_29 : decode cX0_init 29 = .ok (.invokespecial 17, 3) := by decide +kernel
theorem dX0_init_32 : decode cX0_init 32 = .ok (.putfield 24, 3) := by decide +kernel
theorem dX0_init_35 : decode cX0_init 35 = .ok (.aload_n 0, 1) := by decide +kernel
theorem dX0_init_36 : decode cX0_init 36 = .ok (.new 15, 3) := by decide +kernel
theorem dX0_init_39 : decode cX0_init 39 = .ok (.dup, 1) := by decide +kernel
theorem dX0_init_40 : decode cX0_init 40 = .ok (.bipush 66, 2) := by decide +kernel
theorem dX0_init_42 : decode cX0_init 42 = .ok (.invokespecial 17, 3) := by decide +kernel
theorem dX0_init_45 : decode cX0_init 45 = .ok (.putfield 27, 3) := by decide +kernel
theorem dX0_init_48 : decode cX0_init 48 = .ok (.aload_n 0, 1) := by decide +kernel
theorem dX0_init_49 : decode cX0_init 49 = .ok (.new 15, 3) := by decide +kernel
theorem dX0_init_52 : decode cX0_init 52 = .ok (.dup, 1) := by decide +kernel
theorem dX0_init_53 : decode cX0_init 53 = .ok (.bipush 66, 2) := by decide +kernel
theorem dX0_init_55 : decode cX0_init 55 = .ok (.invokespecial 17, 3) := by decide +kernel
theorem dX0_init_58 : decode cX0_init 58 = .ok (.putfield 30, 3) := by decide +kernel
theorem dX0_init_61 : decode cX0_init 61 = .ok (.aload_n 0, 1) := by decide +kernel
theorem dX0_init_62 : decode cX0_init 62 = .ok (.new 15, 3) := by decide +kernel
theorem dX0_init_65 : decode cX0_init 65 = .ok (.dup, 1) := by decide +kernel
theorem dX0_init_66 : decode cX0_init 66 = .ok (.bipush 66, 2) := by decide +kernel
theorem dX0_init_68 : decode cX0_init 68 = .ok (.invokespecial 17, 3) := by decide +kernel
theorem dX0_init_71 : decode cX0_init 71 = .ok (.putfield 33, 3) := by decide +kernel
theorem dX0_init_74 : decode cX0_init 74 = .ok (.return_, 1) := by decide +kernel
theorem fi_X0_init : CdYI mX0_init := ⟨List.mem_of_getElem? (i := 490) (by decide +kernel), List.mem_of_getElem? (i := 150) (by decide +kernel), List.mem_of_getElem? (i := 491) (by decide +kernel), by decide +kernel, by decide +kernel, by decide, rfl, rfl⟩
def f_X0_init_48 (δ : DSt) (l0 : Nat) (l1 : Nat) : Option DSt :=
  (cd_new δ 5).bind fun δ11 =>
  (f_X5_init δ11 δ.1 66).bind fun δ12 =>
  (cd_pr δ12 0 l0 4 δ.1).bind fun δ13 =>
  (cd_new δ13 5).bind fun δ14 =>
  (f_X5_init δ14 δ13.1 66).bind fun δ15 =>
  (cd_pr δ15 0 l0 5 δ13.1).bind fun δ16 =>
  some δ16
def f_X0_init (δ : DSt) (l0 : Nat) (l1 : Nat) : Option DSt :=
  (cd_pr δ 0 l0 0 l1).bind fun δ1 =>
  (cd_new δ1 5).bind fun δ2 =>
  (f_X5_init δ2 δ1.1 66).bind fun δ3 =>
  (cd_pr δ3 0 l0 1 δ1.1).bind fun δ4 =>
  (cd_new δ4 5).bind fun δ5 =>
  (f_X5_init δ5 δ4.1 66).bind fun δ6 =>
  (cd_pr δ6 0 l0 2 δ4.1).bind fun δ7 =>
  (cd_new δ7 5).bind fun δ8 =>
  (f_X5_init δ8 δ7.1 66).bind fun δ9 =>
  (cd_pr δ9 0 l0 3 δ7.1).bind fun δ10 =>
  f_X0_init_48 δ10 l0 l1
set_option maxRecDepth 100000 in
theorem t_X0_init_48 (G : MG) (d : Nat) (hd : 2 ≤ d) {c0 s0 : Nat} (δ : DSt) (l0 : Nat) (l1 : Nat) : TrC G mX0_init d c0 s0 74 [] 48 [(0, .ref l0), (1, .ref l1)] [] δ (f_X0_init_48 δ l0 l1) := by
  show TrC G mX0_init d c0 s0 74 [] 48 [(0, .ref l0), (1, .ref l1)] [] δ ((cd_new δ 5).bind fun δ11 => (f_X5_init δ11 δ.1 66).bind fun δ12 => (cd_pr δ12 0 l0 4 δ.1).bind fun δ13 => (cd_new δ13 5).bind fun δ14 => (f_X5_init δ14 δ13.1 66).bind fun δ15 => (cd_pr δ15 0 l0 5 δ13.1).bind fun δ16 => some δ16)
  refine tc_aload_n (i := 0) dX0_init_48 rfl ?_
  refine tc_new 5 (RX5, TX5, 2) rfl nw_X0_15 ni_5 nn_5 dX0_init_49 (fun δ11 => ?_)
  refine tc_dup dX0_init_52 rfl ?_
  refine tc_bipush (v := 66) dX0_init_53 (by decide +kernel) ?_
  refine tc_init (rest := [.ref δ.1, .ref l0]) (al := [.int 66]) (sp_X5_init G (d - 1) (by omega) δ11 δ.1 66) lk_X0_17 fi_X5_init dX0_init_55 (show _ = some 1 by decide +kernel) (by omega) (Nat.le_of_ble_eq_true rfl) (fun δ12 => ?_)
  refine tc_putr 0 4 cf_X0_init_30 ir_0_4 (fun _ => rfl) (fun _ => rfl) dX0_init_58 (fun δ13 => ?_)
  refine tc_aload_n (i := 0) dX0_init_61 rfl ?_
  refine tc_new 5 (RX5, TX5, 2) rfl nw_X0_15 ni_5 nn_5 dX0_init_62 (fun δ14 => ?_)
  refine tc_dup dX0_init_65 rfl ?_
  refine tc_bipush (v := 66) dX0_init_66 (by decide +kernel) ?_
  refine tc_init (rest := [.ref δ13.1, .ref l0]) (al := [.int 66]) (sp_X5_init G (d - 1) (by omega) δ14 δ13.1 66) lk_X0_17 fi_X5_init dX0_init_68 (show _ = some 1 by decide +kernel) (by omega) (Nat.le_of_ble_eq_true rfl) (fun δ15 => ?_)
  refine tc_putr 0 5 cf_X0_init_33 ir_0_5 (fun _ => rfl) (fun _ => rfl) dX0_init_71 (fun δ16 => ?_)
  refine tc_weak [] (lv' := []) rfl ?_
  exact tc_end
set_option maxRecDepth 100000 in
theorem sp_X0_init (G : MG) (d : Nat) (hd : 2 ≤ d) (δ : DSt) (l0 : Nat) (l1 : Nat) : CdSpec G mX0_init d [.ref l0, .ref l1] δ (f_X0_init δ l0 l1) := by
  refine tc_start (pc2 := 74) (lv2 := []) (by decide +kernel) rfl rfl rfl (Nat.le_of_ble_eq_true rfl) dX0_init_74 ?_
  show TrC G mX0_init d δ.1 (cd_z δ.1) 74 [] 0 [(0, .ref l0), (1, .ref l1)] [] δ ((cd_pr δ 0 l0 0 l1).bind fun δ1 => (cd_new δ1 5).bind fun δ2 => (f_X5_init δ2 δ1.1 66).bind fun δ3 => (cd_pr δ3 0 l0 1 δ1.1).bind fun δ4 => (cd_new δ4 5).bind fun δ5 => (f_X5_init δ5 δ4.1 66).bind fun δ6 => (cd_pr δ6 0 l0 2 δ4.1).bind fun δ7 => (cd_new δ7 5).bind fun δ8 => (f_X5_init δ8 δ7.1 66).bind fun δ9 => (cd_pr δ9 0 l0 3 δ7.1).bind fun δ10 => f_X0_init_48 δ10 l0 l1)
  refine tc_aload_n (i := 0) dX0_init_0 rfl ?_
  refine tc_obj ob_X0 oi_1 oi_2 (by omega) (Nat.le_of_ble_eq_true rfl) dX0_init_1 ?_
  refine tc_aload_n (i := 0) dX0_init_4 rfl ?_
  refine tc_aload_n (i := 1) dX0_init_5 rfl ?_
  refine tc_putr 0 0 cf_X0_init_9 ir_0_0 (fun _ => rfl) (fun _ => rfl) dX0_init_6 (fun δ1 => ?_)
  refine tc_aload_n (i := 0) dX0_init_9 rfl ?_
  refine tc_new 5 (RX5, TX5, 2) rfl nw_X0_15 ni_5 nn_5 dX0_init_10 (fun δ2 => ?_)
  refine tc_dup dX0_init_13 rfl ?_
  refine tc_bipush (v := 66) dX0_init_14 (by decide +kernel) ?_
  refine tc_init (rest := [.ref δ1.1, .ref l0]) (al := [.int 66]) (sp_X5_init G (d - 1) (by omega) δ2 δ1.1 66) lk_X0_17 fi_X5_init dX0_init_16 (show _ = some 1 by decide +kernel) (by omega) (Nat.le_of_ble_eq_true rfl) (fun δ3 => ?_)
  refine tc_putr 0 1 cf_X0_init_20 ir_0_1 (fun _ => rfl) (fun _ => rfl) dX0_init_19 (fun δ4 => ?_)
  refine tc_aload_n (i := 0) dX0_init_22 rfl ?_
  refine tc_new 5 (RX5, TX5, 2) rfl nw_X0_15 ni_5 nn_5 dX0_init_23 (fun δ5 => ?_)
  refine tc_dup dX0_init_26 rfl ?_
  refine tc_bipush (v := 66) dX0_init_27 (by decide +kernel) ?_
  refine tc_init (rest := [.ref δ4.1, .ref l0]) (al := [.int 66]) (sp_X5_init G (d - 1) (by omega) δ5 δ4.1 66) lk_X0_17 fi_X5_init dX0_init_29 (show _ = some 1 by decide +kernel) (by omega) (Nat.le_of_ble_eq_true rfl) (fun δ6 => ?_)
  refine tc_putr 0 2 cf_X0_init_24 ir_0_2 (fun _ => rfl) (fun _ => rfl) dX0_init_32 (fun δ7 => ?_)
  refine tc_aload_n (i := 0) dX0_init_35 rfl ?_
  refine tc_new 5 (RX5, TX5, 2) rfl nw_X0_15 ni_5 nn_5 dX0_init_36 (fun δ8 => ?_)
  refine tc_dup dX0_init_39 rfl ?_
  refine tc_bipush (v := 66) dX0_init_40 (by decide +kernel) ?_
  refine tc_init (rest := [.ref δ7.1, .ref l0]) (al := [.int 66]) (sp_X5_init G (d - 1) (by omega) δ8 δ7.1 66) lk_X0_17 fi_X5_init dX0_init_42 (show _ = some 1 by decide +kernel) (by omega) (Nat.le_of_ble_eq_true rfl) (fun δ9 => ?_)
  refine tc_putr 0 3 cf_X0_init_27 ir_0_3 (fun _ => rfl) (fun _ => rfl) dX0_init_45 (fun δ10 => ?_)
  exact t_X0_init_48 G d hd δ10 l0 l1
abbrev mX1_init : MM := (RX1, cX1_init, 2, none, yX1_init, [])
theorem ob_X1 : Cond.methodLink RX1 3 Lib.objectInit ∈ lw_tbl := List.mem_of_getElem? (i := 455) (by decide +kernel)
theorem cf_X1_init_9 : CdF mX1_init 9 1 0 := ⟨(RX1, TX1, 7), rfl, by decide, List.mem_of_getElem? (i := 458) (by decide +kernel), Or.inr ⟨rfl, rfl, rfl⟩⟩
theorem ir_1_0 : ms_isr 1 0 = true := by decide +kernel
theorem nw_X1_15 : Cond.classLink RX1 15 RX5 ∈ lw_tbl := List.mem_of_getElem? (i := 456) (by decide +kernel)
theorem lk_X1_17 : Cond.methodLink RX1 17 yX5_init ∈ lw_tbl ∨ ∃ host, Cond.methodLinkNest RX1 17 yX5_init host ∈ lw_tbl := Or.inl (List.mem_of_getElem? (i := 457) (by decide +kernel))
theorem cf_X1_init_20 : CdF mX1_init 20 1 1 := ⟨(RX1, TX1, 7), rfl, by decide, List.mem_of_getElem? (i := 459) (by decide +kernel), Or.inr ⟨rfl, rfl, rfl⟩⟩
theorem ir_1_1 : ms_isr 1 1 = true := by decide +kernel
theorem cf_X1_init_24 : CdF mX1_init 24 1 2 := ⟨(RX1, TX1, 7), rfl, by decide, List.mem_of_getElem? (i := 460) (by decide +kernel), Or.inr ⟨rfl, rfl, rfl⟩⟩
theorem ir_1_2 : ms_isr 1 2 = true := by decide +kernel
theorem cf_X1_init_27 : CdF mX1_init 27 1 3 := ⟨(RX1, TX1, 7), rfl, by decide, List.mem_of_getElem? (i := 463) (by decide +kernel), Or.inr ⟨rfl, rfl, rfl⟩⟩
theorem ir_1_3 : ms_isr 1 3 = true := by decide +kernel
theorem cf_X1_init_30 : CdF mX1_init 30 1 4 := ⟨(RX1, TX1, 7), rfl, by decide, List.mem_of_getElem? (i := 465) (by decide +kernel), Or.inr ⟨rfl, rfl, rfl⟩⟩
theorem ir_1_4 : ms_isr 1 4 = true := by decide +kernel
theorem cf_X1_init_33 : CdF mX1_init 33 1 5 := ⟨(RX1, TX1, 7), rfl, by decide, List.mem_of_getElem? (i := 467) (by decide +kernel), Or.inr ⟨rfl, rfl, rfl⟩⟩
theorem ir_1_5 : ms_isr 1 5 = true := by decide +kernel
theorem cf_X1_init_36 : CdF mX1_init 36 1 6 := ⟨(RX1, TX1, 7), rfl, by decide, List.mem_of_getElem? (i := 470) (by decide +kernel), Or.inr ⟨rfl, rfl, rfl⟩⟩
theorem ir_1_6 : ms_isr 1 6 = true := by decide +kernel
theorem dX1_init_0 : decode cX1_init 0 = .ok (.aload_n 0, 1) := by decide +kernel
theorem dX1_init_1 : decode cX1_init 1 = .ok (.invokespecial 3, 3) := by decide +kernel
theorem dX1_init_4 : decode cX1_init 4 = .ok (.aload_n 0, 1) := by decide +kernel
theorem dX1_init_5 : decode cX1_init 5 = .ok (.aload_n 1, 1) := by decide +kernel
theorem dX1_init_6 : decode cX1_init 6 = .ok (.putfield 9, 3) := by decide +kernel
theorem dX1_init_9 : decode cX1_init 9 = .ok (.aload_n 0, 1) := by decide +kernel
theorem dX1_init_10 : decode cX1_init 10 = .ok (.new 15, 3) := by decide +kernel
theorem dX1_init_13 : decode cX1_init 13 = .ok (.dup, 1) := by decide +kernel
theorem dX1_init_14 : decode cX1_init 14 = .ok (.sipush 360, 3) := by decide +kernel
theorem dX1_init_17 : decode cX1_init 17 = .ok (.invokespecial 17, 3) := by decide +kernel
theorem dX1_init_20 : decode cX1_init 20 = .ok (.putfield 20, 3) := by decide +kernel
theorem dX1_init_23 : decode cX1_init 23 = .ok (.aload_n 0, 1) := by decide +kernel
theorem dX1_init_24 : decode cX1_init 24 = .ok (.new 15, 3) := by decide +kernel
theorem dX1_init_27 : decode cX1_init 27 = .ok (.dup, 1) := by decide +kernel
theorem dX1_init_28 : decode cX1_init 28 = .ok (.sipush 360, 3) := by decide +kernel
theorem dX1_init_31 : decode cX1_init 31 = .ok (.invokespecial 17, 3) := by decide +kernel
theorem dX1_init_34 : decode cX1_init 34 = .ok (.putfield 24, 3) := by decide +kernel
theorem dX1_init_37 : decode cX1_init 37 = .ok (.aload_n 0, 1) := by decide +kernel
theorem dX1_init_38 : decode cX1_init 38 = .ok (.new 15, 3) := by decide +kernel
theorem dX1_init_41 : decode cX1_init 41 = .ok (.dup, 1) := by decide +kernel
theorem dX1_init_42 : decode cX1_init 42 = .ok (.sipush 360, 3) := by decide +kernel
theorem dX1_init_45 : decode cX1_init 45 = .ok (.invokespecial 17, 3) := by decide +kernel
theorem dX1_init_48 : decode cX1_init 48 = .ok (.putfield 27, 3) := by decide +kernel
theorem dX1_init_51 : decode cX1_init 51 = .ok (.aload_n 0, 1) := by decide +kernel
theorem dX1_init_52 : decode cX1_init 52 = .ok (.new 15, 3) := by decide +kernel
theorem dX1_init_55 : decode cX1_init 55 = .ok (.dup, 1) := by decide +kernel
theorem dX1_init_56 : decode cX1_init 56 = .ok (.bipush 60, 2) := by decide +kernel
theorem dX1_init_58 : decode cX1_init 58 = .ok (.invokespecial 17, 3) := by decide +kernel
theorem dX1_init_61 : decode cX1_init 61 = .ok (.putfield 30, 3) := by decide +kernel
theorem dX1_init_64 : decode cX1_init 64 = .ok (.aload_n 0, 1) := by decide +kernel
theorem dX1_init_65 : decode cX1_init 65 = .ok (.new 15, 3) := by decide +kernel
theorem dX1_init_68 : decode cX1_init 68 = .ok (.dup, 1) := by decide +kernel
theorem dX1_init_69 : decode cX1_init 69 = .ok (.bipush 60, 2) := by decide +kernel
theorem dX1_init_71 : decode cX1_init 71 = .ok (.invokespecial 17, 3) := by decide +kernel
theorem dX1_init_74 : decode cX1_init 74 = .ok (.putfield 33, 3) := by decide +kernel
theorem dX1_init_77 : decode cX1_init 77 = .ok (.aload_n 0, 1) := by decide +kernel
theorem dX1_init_78 : decode cX1_init 78 = .ok (.new 15, 3) := by decide +kernel
theorem dX1_init_81 : decode cX1_init 81 = .ok (.dup, 1) := by decide +kernel
theorem dX1_init_82 : decode cX1_init 82 = .ok (.bipush 60, 2) := by decide +kernel
theorem dX1_init_84 : decode cX1_init 84 = .ok (.invokespecial 17, 3) := by decide +kernel
theorem dX1_init_87 : decode cX1_init 87 = .ok (.putfield 36, 3) := by decide +kernel
theorem dX1_init_90 : decode cX1_init 90 = .ok (.return_, 1) := by decide +kernel
theorem fi_X1_init : CdYI mX1_init := ⟨List.mem_of_getElem? (i := 453) (by decide +kernel), List.mem_of_getElem? (i := 149) (by decide +kernel), List.mem_of_getElem? (i := 454) (by decide +kernel), by decide +kernel, by decide +kernel, by decide, rfl, rfl⟩
def f_X1_init_51 (δ : DSt) (l0 : Nat) (l1 : Nat) : Option DSt :=
  (cd_new δ 5).bind fun δ11 =>
  (f_X5_init δ11 δ.1 60).bind fun δ12 =>
  (cd_pr δ12 1 l0 4 δ.1).bind fun δ13 =>
  (cd_new δ13 5).bind fun δ14 =>
  (f_X5_init δ14 δ13.1 60).bind fun δ15 =>
  (cd_pr δ15 1 l0 5 δ13.1).bind fun δ16 =>
  (cd_new δ16 5).bind fun δ17 =>
  (f_X5_init δ17 δ16.1 60).bind fun δ18 =>
  (cd_pr δ18 1 l0 6 δ16.1).bind fun δ19 =>
  some δ19
def f_X1_init (δ : DSt) (l0 : Nat) (l1 : Nat) : Option DSt :=
  (cd_pr δ 1 l0 0 l1).bind fun δ1 =>
  (cd_new δ1 5).bind fun δ2 =>
  (f_X5_init δ2 δ1.1 360).bind fun δ3 =>
  (cd_pr δ3 1 l0 1 δ1.1).bind fun δ4 =>
  (cd_new δ4 5).bind fun δ5 =>
  (f_X5_init δ5 δ4.1 360).bind fun δ6 =>
  (cd_pr δ6 1 l0 2 δ4.1).bind fun δ7 =>
  (cd_new δ7 5).bind fun δ8 =>
  (f_X5_init δ8 δ7.1 360).bind fun δ9 =>
  (cd_pr δ9 1 l0 3 δ7.1).bind fun δ10 =>
  f_X1_init_51 δ10 l0 l1
set_option maxRecDepth 100000 in
theorem t_X1_init_51 (G : MG) (d : Nat) (hd : 2 ≤ d) {c0 s0 : Nat} (δ : DSt) (l0 : Nat) (l1 : Nat) : TrC G mX1_init d c0 s0 90 [] 51 [(0, .ref l0), (1, .ref l1)] [] δ (f_X1_init_51 δ l0 l1) := by
  show TrC G mX1_init d c0 s0 90 [] 51 [(0, .ref l0), (1, .ref l1)] [] δ ((cd_new δ 5).bind fun δ11 => (f_X5_init δ11 δ.1 60).bind fun δ12 => (cd_pr δ12 1 l0 4 δ.1).bind fun δ13 => (cd_new δ13 5).bind fun δ14 => (f_X5_init δ14 δ13.1 60).bind fun δ15 => (cd_pr δ15 1 l0 5 δ13.1).bind fun δ16 => (cd_new δ16 5).bind fun δ17 => (f_X5_init δ17 δ16.1 60).bind fun δ18 => (cd_pr δ18 1 l0 6 δ16.1).bind fun δ19 => some δ19)
  refine tc_aload_n (i := 0) dX1_init_51 rfl ?_
  refine tc_new 5 (RX5, TX5, 2) rfl nw_X1_15 ni_5 nn_5 dX1_init_52 (fun δ11 => ?_)
  refine tc_dup dX1_init_55 rfl ?_
  refine tc_bipush (v := 60) dX1_init_56 (by decide +kernel) ?_
  refine tc_init (rest := [.ref δ.1, .ref l0]) (al := [.int 60]) (sp_X5_init G (d - 1) (by omega) δ11 δ.1 60) lk_X1_17 fi_X5_init dX1_init_58 (show _ = some 1 by decide +kernel) (by omega) (Nat.le_of_ble_eq_true rfl) (fun δ12 => ?_)
  refine tc_putr 1 4 cf_X1_init_30 ir_1_4 (fun _ => rfl) (fun _ => rfl) dX1_init_61 (fun δ13 => ?_)
  refine tc_aload_n (i := 0) dX1_init_64 rfl ?_
  refine tc_new 5 (RX5, TX5, 2) rfl nw_X1_15 ni_5 nn_5 dX1_init_65 (fun δ14 => ?_)
  refine tc_dup dX1_init_68 rfl ?_
  refine tc_bipush (v := 60) dX1_init_69 (by decide +kernel) ?_
  refine tc_init (rest := [.ref δ13.1, .ref l0]) (al := [.int 60]) (sp_X5_init G (d - 1) (by omega) δ14 δ13.1 60) lk_X1_17 fi_X5_init dX1_init_71 (show _ = some 1 by decide +kernel) (by omega) (Nat.le_of_ble_eq_true rfl) (fun δ15 => ?_)
  refine tc_putr 1 5 cf_X1_init_33 ir_1_5 (fun _ => rfl) (fun _ => rfl) dX1_init_74 (fun δ16 => ?_)
  refine tc_aload_n (i := 0) dX1_init_77 rfl ?_
  refine tc_new 5 (RX5, TX5, 2) rfl nw_X1_15 ni_5 nn_5 dX1_init_78 (fun δ17 => ?_)
  refine tc_dup dX1_init_81 rfl ?_
  refine tc_bipush (v := 60) dX1_init_82 (by decide +kernel) ?_
  refine tc_init (rest := [.ref δ16.1, .ref l0]) (al := [.int 60]) (sp_X5_init G (d - 1) (by omega) δ17 δ16.1 60) lk_X1_17 fi_X5_init dX1_init_84 (show _ = some 1 by decide +kernel) (by omega) (Nat.le_of_ble_eq_true rfl) (fun δ18 => ?_)
  refine tc_putr 1 6 cf_X1_init_36 ir_1_6 (fun _ => rfl) (fun _ => rfl) dX1_init_87 (fun δ19 => ?_)
  refine tc_weak [] (lv' := []) rfl ?_
  exact tc_end
set_option maxRecDepth 100000 in
theorem sp_X1_init (G : MG) (d : Nat) (hd : 2 ≤ d) (δ : DSt) (l0 : Nat) (l1 : Nat) : CdSpec G mX1_init d [.ref l0, .ref l1] δ (f_X1_init δ l0 l1) := by
  refine tc_start (pc2 := 90) (lv2 := []) (by decide +kernel) rfl rfl rfl (Nat.le_of_ble_eq_true rfl) dX1_init_90 ?_
  show TrC G mX1_init d δ.1 (cd_z δ.1) 90 [] 0 [(0, .ref l0), (1, .ref l1)] [] δ ((cd_pr δ 1 l0 0 l1).bind fun δ1 => (cd_new δ1 5).bind fun δ2 => (f_X5_init δ2 δ1.1 360).bind fun δ3 => (cd_pr δ3 1 l0 1 δ1.1).bind fun δ4 => (cd_new δ4 5).bind fun δ5 => (f_X5_init δ5 δ4.1 360).bind fun δ6 => (cd_pr δ6 1 l0 2 δ4.1).bind fun δ7 => (cd_new δ7 5).bind fun δ8 => (f_X5_init δ8 δ7.1 360).bind fun δ9 => (cd_pr δ9 1 l0 3 δ7.1).bind fun δ10 => f_X1_init_51 δ10 l0 l1)
  refine tc_aload_n (i := 0) dX1_init_0 rfl ?_
  refine tc_obj ob_X1 oi_1 oi_2 (by omega) (Nat.le_of_ble_eq_true rfl) dX1_init_1 ?_
  refine tc_aload_n (i := 0) dX1_init_4 rfl ?_
  refine tc_aload_n (i := 1) dX1_init_5 rfl ?_
  refine tc_putr 1 0 cf_X1_init_9 ir_1_0 (fun _ => rfl) (fun _ => rfl) dX1_init_6 (fun δ1 => ?_)
  refine tc_aload_n (i := 0) dX1_init_9 rfl ?_
  refine tc_new 5 (RX5, TX5, 2) rfl nw_X1_15 ni_5 nn_5 dX1_init_10 (fun δ2 => ?_)
  refine tc_dup dX1_init_13 rfl ?_
  refine tc_sipush (v := 360) dX1_init_14 (by decide +kernel) ?_
  refine tc_init (rest := [.ref δ1.1, .ref l0]) (al := [.int 360]) (sp_X5_init G (d - 1) (by omega) δ2 δ1.1 360) lk_X1_17 fi_X5_init dX1_init_17 (show _ = some 1 by decide +kernel) (by omega) (Nat.le_of_ble_eq_true rfl) (fun δ3 => ?_)
  refine tc_putr 1 1 cf_X1_init_20 ir_1_1 (fun _ => rfl) (fun _ => rfl) dX1_init_20 (fun δ4 => ?_)
  refine tc_aload_n (i := 0) dX1_init_23 rfl ?_
  refine tc_new 5 (RX5, TX5, 2) rfl nw_X1_15 ni_5 nn_5 dX1_init_24 (fun δ5 => ?_)
  refine tc_dup dX1_init_27 rfl ?_
  refine tc_sipush (v := 360) dX1_init_28 (by decide +kernel) ?_
  refine tc_init (rest := [.ref δ4.1, .ref l0]) (al := [.int 360]) (sp_X5_init G (d - 1) (by omega) δ5 δ4.1 360) lk_X1_17 fi_X5_init dX1_init_31 (show _ = some 1 by decide +kernel) (by omega) (Nat.le_of_ble_eq_true rfl) (fun δ6 => ?_)
  refine tc_putr 1 2 cf_X1_init_24 ir_1_2 (fun _ => rfl) (fun _ => rfl) dX1_init_34 (fun δ7 => ?_)
  refine tc_aload_n (i := 0) dX1_init_37 rfl ?_
  refine tc_new 5 (RX5, TX5, 2) rfl nw_X1_15 ni_5 nn_5 dX1_init_38 (fun δ8 => ?_)
  refine tc_dup dX1_init_41 rfl ?_
  refine tc_sipush (v := 360) dX1_init_42 (by decide +kernel) ?_
  refine tc_init (rest := [.ref δ7.1, .ref l0]) (al := [.int 360]) (sp_X5_init G (d - 1) (by omega) δ8 δ7.1 360) lk_X1_17 fi_X5_init dX1_init_45 (show _ = some 1 by decide +kernel) (by omega) (Nat.le_of_ble_eq_true rfl) (fun δ9 => ?_)
  refine tc_putr 1 3 cf_X1_init_27 ir_1_3 (fun _ => rfl) (fun _ => rfl) dX1_init_48 (fun δ10 => ?_)
  exact t_X1_init_51 G d hd δ10 l0 l1
abbrev mX4_init : MM := (RX4, cX4_init, 3, none, yX4_init, [])
theorem ob_X4 : Cond.methodLink RX4 3 Lib.objectInit ∈ lw_tbl := List.mem_of_getElem? (i := 387) (by decide +kernel)
theorem cf_X4_init_9 : CdF mX4_init 9 4 0 := ⟨(RX4, TX4, 6), rfl, by decide, List.mem_of_getElem? (i := 390) (by decide +kernel), Or.inr ⟨rfl, rfl, rfl⟩⟩
theorem ir_4_0 : ms_isr 4 0 = true := by decide +kernel
theorem cf_X4_init_15 : CdF mX4_init 15 4 1 := ⟨(RX4, TX4, 6), rfl, by decide, List.mem_of_getElem? (i := 391) (by decide +kernel), Or.inr ⟨rfl, rfl, rfl⟩⟩
theorem ir_4_1 : ms_isr 4 1 = true := by decide +kernel
theorem nw_X4_19 : Cond.classLink RX4 19 RX5 ∈ lw_tbl := List.mem_of_getElem? (i := 388) (by decide +kernel)
theorem lk_X4_21 : Cond.methodLink RX4 21 yX5_init ∈ lw_tbl ∨ ∃ host, Cond.methodLinkNest RX4 21 yX5_init host ∈ lw_tbl := Or.inl (List.mem_of_getElem? (i := 389) (by decide +kernel))
theorem cf_X4_init_24 : CdF mX4_init 24 4 2 := ⟨(RX4, TX4, 6), rfl, by decide, List.mem_of_getElem? (i := 392) (by decide +kernel), Or.inr ⟨rfl, rfl, rfl⟩⟩
theorem ir_4_2 : ms_isr 4 2 = true := by decide +kernel
theorem cf_X4_init_28 : CdF mX4_init 28 4 3 := ⟨(RX4, TX4, 6), rfl, by decide, List.mem_of_getElem? (i := 393) (by decide +kernel), Or.inr ⟨rfl, rfl, rfl⟩⟩
theorem ir_4_3 : ms_isr 4 3 = true := by decide +kernel
theorem cf_X4_init_31 : CdF mX4_init 31 4 4 := ⟨(RX4, TX4, 6), rfl, by decide, List.mem_of_getElem? (i := 394) (by decide +kernel), Or.inr ⟨rfl, rfl, rfl⟩⟩
theorem ir_4_4 : ms_isr 4 4 = true := by decide +kernel
theorem cf_X4_init_34 : CdF mX4_init 34 4 5 := ⟨(RX4, TX4, 6), rfl, by decide, List.mem_of_getElem? (i := 395) (by decide +kernel), Or.inr ⟨rfl, rfl, rfl⟩⟩
theorem ir_4_5 : ms_isr 4 5 = true := by decide +kernel
theorem dX4_init_0 : decode cX4_init 0 = .ok (.aload_n 0, 1) := by decide +kernel
theorem dX4_init_1 : decode cX4_init 1 = .ok (.invokespecial 3, 3) := by decide +kernel
theorem dX4_init_4 : decode cX4_init 4 = .ok (.aload_n 0, 1) := by decide +kernel
theorem dX4_init_5 : decode cX4_init 5 = .ok (.aload_n 1, 1) := by decide +kernel
theorem dX4_init_6 : decode cX4_init 6 = .ok (.putfield 9, 3) := by decide +kernel
theorem dX4_init_9 : decode cX4_init 9 = .ok (.aload_n 0, 1) := by decide +kernel
theorem dX4_init_10 : decode cX4_init 10 = .ok (.aload_n 2, 1) := by decide +kernel
theorem dX4_init_11 : decode cX4_init 11 = .ok (.putfield 15, 3) := by decide +kernel
theorem dX4_init_14 : decode cX4_init 14 = .ok (.aload_n 0, 1) := by decide +kernel
theorem dX4_init_15 : decode cX4_init 15 = .ok (.new 19, 3) := by decide +kernel
theorem dX4_init_18 : decode cX4_init 18 = .ok (.dup, 1) := by decide +kernel
theorem dX4_init_19 : decode cX4_init 19 = .ok (.bipush 60, 2) := by decide +kernel
theorem dX4_init_21 : decode cX4_init 21 = .ok (.invokespecial 21, 3) := by decide +kernel
theorem dX4_init_24 : decode cX4_init 24 = .ok (.putfield 24, 3) := by decide +kernel
theorem dX4_init_27 : decode cX4_init 27 = .ok (.aload_n 0, 1) := by decide +kernel
theorem dX4_init_28 : decode cX4_init 28 = .ok (.new 19, 3) := by decide +kernel
theorem dX4_init_31 : decode cX4_init 31 = .ok (.dup, 1) := by decide +kernel
theorem dX4_init_32 : decode cX4_init 32 = .ok (.bipush 60, 2) := by decide +kernel
theorem dX4_init_34 : decode cX4_init 34 = .ok (.invokespecial 21, 3) := by decide +kernel
theorem dX4_init_37 : decode cX4_init 37 = .ok (.putfield 28, 3) := by decide +kernel
theorem dX4_init_40 : decode cX4_init 40 = .ok (.aload_n 0, 1) := by decide +kernel
theorem dX4_init_41 : decode cX4_init 41 = .ok (.new 19, 3) := by decide +kernel
theorem dX4_init_44 : decode cX4_init 44 = .ok (.dup, 1) := by decide +kernel
theorem dX4_init_45 : decode cX4_init 45 = .ok (.bipush 60, 2) := by decide +kernel
theorem dX4_init_47 : decode cX4_init 47 = .ok (.invokespecial 21, 3) := by decide +kernel
theorem dX4_init_50 : decode cX4_init 50 = .ok (.putfield 31, 3) := by decide +kernel
theorem dX4_init_53 : decode cX4_init 53 = .ok (.aload_n 0, 1) := by decide +kernel
theorem dX4_init_54 : decode cX4_init 54 = .ok (.new 19, 3) := by decide +kernel
theorem dX4_init_57 : decode cX4_init 57 = .ok (.dup, 1) := by decide +kernel
theorem dX4_init_58 : decode cX4_init 58 = .ok (.bipush 60, 2) := by decide +kernel
theorem dX4_init_60 : decode cX4_init 60 = .ok (.invokespecial 21, 3) := by decide +kernel
theorem dX4_init_63 : decode cX4_init 63 = .ok (.putfield 34, 3) := by decide +kernel
theorem dX4_init_66 : decode cX4_init 66 = .ok (.return_, 1) := by decide +kernel
theorem fi_X4_init : CdYI mX4_init := ⟨List.mem_of_getElem? (i := 385) (by decide +kernel), List.mem_of_getElem? (i := 146) (by decide +kernel), List.mem_of_getElem? (i := 386) (by decide +kernel), by decide +kernel, by decide +kernel, by decide, rfl, rfl⟩
def f_X4_init_53 (δ : DSt) (l0 : Nat) (l1 : Nat) (l2 : Nat) : Option DSt :=
  (cd_new δ 5).bind fun δ12 =>
  (f_X5_init δ12 δ.1 60).bind fun δ13 =>
  (cd_pr δ13 4 l0 5 δ.1).bind fun δ14 =>
  some δ14
def f_X4_init (δ : DSt) (l0 : Nat) (l1 : Nat) (l2 : Nat) : Option DSt :=
  (cd_pr δ 4 l0 0 l1).bind fun δ1 =>
  (cd_pr δ1 4 l0 1 l2).bind fun δ2 =>
  (cd_new δ2 5).bind fun δ3 =>
  (f_X5_init δ3 δ2.1 60).bind fun δ4 =>
  (cd_pr δ4 4 l0 2 δ2.1).bind fun δ5 =>
  (cd_new δ5 5).bind fun δ6 =>
  (f_X5_init δ6 δ5.1 60).bind fun δ7 =>
  (cd_pr δ7 4 l0 3 δ5.1).bind fun δ8 =>
  (cd_new δ8 5).bind fun δ9 =>
  (f_X5_init δ9 δ8.1 60).bind fun δ10 =>
  (cd_pr δ10 4 l0 4 δ8.1).bind fun δ11 =>
  f_X4_init_53 δ11 l0 l1 l2
set_option maxRecDepth 100000 in
theorem t_X4_init_53 (G : MG) (d : Nat) (hd : 2 ≤ d) {c0 s0 : Nat} (δ : DSt) (l0 : Nat) (l1 : Nat) (l2 : Nat) : TrC G mX4_init d c0 s0 66 [] 53 [(0, .ref l0), (1, .ref l1), (2, .ref l2)] [] δ (f_X4_init_53 δ l0 l1 l2) := by
  show TrC G mX4_init d c0 s0 66 [] 53 [(0, .ref l0), (1, .ref l1), (2, .ref l2)] [] δ ((cd_new δ 5).bind fun δ12 => (f_X5_init δ12 δ.1 60).bind fun δ13 => (cd_pr δ13 4 l0 5 δ.1).bind fun δ14 => some δ14)
  refine tc_aload_n (i := 0) dX4_init_53 rfl ?_
  refine tc_new 5 (RX5, TX5, 2) rfl nw_X4_19 ni_5 nn_5 dX4_init_54 (fun δ12 => ?_)
  refine tc_dup dX4_init_57 rfl ?_
  refine tc_bipush (v := 60) dX4_init_58 (by decide +kernel) ?_
  refine tc_init (rest := [.ref δ.1, .ref l0]) (al := [.int 60]) (sp_X5_init G (d - 1) (by omega) δ12 δ.1 60) lk_X4_21 fi_X5_init dX4_init_60 (show _ = some 1 by decide +kernel) (by omega) (Nat.le_of_ble_eq_true rfl) (fun δ13 => ?_)
  refine tc_putr 4 5 cf_X4_init_34 ir_4_5 (fun _ => rfl) (fun _ => rfl) dX4_init_63 (fun δ14 => ?_)
  refine tc_weak [] (lv' := []) rfl ?_
  exact tc_end
set_option maxRecDepth 100000 in
theorem sp_X4_init (G : MG) (d : Nat) (hd : 2 ≤ d) (δ : DSt) (l0 : Nat) (l1 : Nat) (l2 : Nat) : CdSpec G mX4_init d [.ref l0, .ref l1, .ref l2] δ (f_X4_init δ l0 l1 l2) := by
  refine tc_start (pc2 := 66) (lv2 := []) (by decide +kernel) rfl rfl rfl (Nat.le_of_ble_eq_true rfl) dX4_init_66 ?_
  show TrC G mX4_init d δ.1 (cd_z δ.1) 66 [] 0 [(0, .ref l0), (1, .ref l1), (2, .ref l2)] [] δ ((cd_pr δ 4 l0 0 l1).bind fun δ1 => (cd_pr δ1 4 l0 1 l2).bind fun δ2 => (cd_new δ2 5).bind fun δ3 => (f_X5_init δ3 δ2.1 60).bind fun δ4 => (cd_pr δ4 4 l0 2 δ2.1).bind fun δ5 => (cd_new δ5 5).bind fun δ6 => (f_X5_init δ6 δ5.1 60).bind fun δ7 => (cd_pr δ7 4 l0 3 δ5.1).bind fun δ8 => (cd_new δ8 5).bind fun δ9 => (f_X5_init δ9 δ8.1 60).bind fun δ10 => (cd_pr δ10 4 l0 4 δ8.1).bind fun δ11 => f_X4_init_53 δ11 l0 l1 l2)
  refine tc_aload_n (i := 0) dX4_init_0 rfl ?_
  refine tc_obj ob_X4 oi_1 oi_2 (by omega) (Nat.le_of_ble_eq_true rfl) dX4_init_1 ?_
  refine tc_aload_n (i := 0) dX4_init_4 rfl ?_
  refine tc_aload_n (i := 1) dX4_init_5 rfl ?_
  refine tc_putr 4 0 cf_X4_init_9 ir_4_0 (fun _ => rfl) (fun _ => rfl) dX4_init_6 (fun δ1 => ?_)
  refine tc_aload_n (i := 0) dX4_init_9 rfl ?_
  refine tc_aload_n (i := 2) dX4_init_10 rfl ?_
  refine tc_putr 4 1 cf_X4_init_15 ir_4_1 (fun _ => rfl) (fun _ => rfl) dX4_init_11 (fun δ2 => ?_)
  refine tc_aload_n (i := 0) dX4_init_14 rfl ?_
  refine tc_new 5 (RX5, TX5, 2) rfl nw_X4_19 ni_5 nn_5 dX4_init_15 (fun δ3 => ?_)
  refine tc_dup dX4_init_18 rfl ?_
  refine tc_bipush (v := 60) dX4_init_19 (by decide +kernel) ?_
  refine tc_init (rest := [.ref δ2.1, .ref l0]) (al := [.int 60]) (sp_X5_init G (d - 1) (by omega) δ3 δ2.1 60) lk_X4_21 fi_X5_init dX4_init_21 (show _ = some 1 by decide +kernel) (by omega) (Nat.le_of_ble_eq_true rfl) (fun δ4 => ?_)
  refine tc_putr 4 2 cf_X4_init_24 ir_4_2 (fun _ => rfl) (fun _ => rfl) dX4_init_24 (fun δ5 => ?_)
  refine tc_aload_n (i := 0) dX4_init_27 rfl ?_
  refine tc_new 5 (RX5, TX5, 2) rfl nw_X4_19 ni_5 nn_5 dX4_init_28 (fun δ6 => ?_)
  refine tc_dup dX4_init_31 rfl ?_
  refine tc_bipush (v := 60) dX4_init_32 (by decide +kernel) ?_
  refine tc_init (rest := [.ref δ5.1, .ref l0]) (al := [.int 60]) (sp_X5_init G (d - 1) (by omega) δ6 δ5.1 60) lk_X4_21 fi_X5_init dX4_init_34 (show _ = some 1 by decide +kernel) (by omega) (Nat.le_of_ble_eq_true rfl) (fun δ7 => ?_)
  refine tc_putr 4 3 cf_X4_init_28 ir_4_3 (fun _ => rfl) (fun _ => rfl) dX4_init_37 (fun δ8 => ?_)
  refine tc_aload_n (i := 0) dX4_init_40 rfl ?_
  refine tc_new 5 (RX5, TX5, 2) rfl nw_X4_19 ni_5 nn_5 dX4_init_41 (fun δ9 => ?_)
  refine tc_dup dX4_init_44 rfl ?_
  refine tc_bipush (v := 60) dX4_init_45 (by decide +kernel) ?_
  refine tc_init (rest := [.ref δ8.1, .ref l0]) (al := [.int 60]) (sp_X5_init G (d - 1) (by omega) δ9 δ8.1 60) lk_X4_21 fi_X5_init dX4_init_47 (show _ = some 1 by decide +kernel) (by omega) (Nat.le_of_ble_eq_true rfl) (fun δ10 => ?_)
  refine tc_putr 4 4 cf_X4_init_31 ir_4_4 (fun _ => rfl) (fun _ => rfl) dX4_init_50 (fun δ11 => ?_)
  exact t_X4_init_53 G d hd δ11 l0 l1 l2
abbrev mX8_init : MM := (RX8, cX8_init, 2, none, yX8_init, [])
theorem ob_X8 : Cond.methodLink RX8 3 Lib.objectInit ∈ lw_tbl := List.mem_of_getElem? (i := 371) (by decide +kernel)
theorem cf_X8_init_9 : CdF mX8_init 9 8 0 := ⟨(RX8, TX8, 2), rfl, by decide, List.mem_of_getElem? (i := 374) (by decide +kernel), Or.inr ⟨rfl, rfl, rfl⟩⟩
theorem ir_8_0 : ms_isr 8 0 = true := by decide +kernel
theorem nw_X8_15 : Cond.classLink RX8 15 RX6 ∈ lw_tbl := List.mem_of_getElem? (i := 372) (by decide +kernel)
theorem ni_6 : Cond.instantiable RX6 7 ∈ lw_tbl := List.mem_of_getElem? (i := 215) (by decide +kernel)
theorem nn_6 : Cond.initialized RX6 ∈ lw_tbl := List.mem_of_getElem? (i := 141) (by decide +kernel)
theorem lk_X8_17 : Cond.methodLink RX8 17 yX6_init ∈ lw_tbl ∨ ∃ host, Cond.methodLinkNest RX8 17 yX6_init host ∈ lw_tbl := Or.inl (List.mem_of_getElem? (i := 373) (by decide +kernel))
theorem cf_X8_init_18 : CdF mX8_init 18 8 1 := ⟨(RX8, TX8, 2), rfl, by decide, List.mem_of_getElem? (i := 375) (by decide +kernel), Or.inr ⟨rfl, rfl, rfl⟩⟩
theorem ir_8_1 : ms_isr 8 1 = true := by decide +kernel
theorem dX8_init_0 : decode cX8_init 0 = .ok (.aload_n 0, 1) := by decide +kernel
theorem dX8_init_1 : decode cX8_init 1 = .ok (.invokespecial 3, 3) := by decide +kernel
theorem dX8_init_4 : decode cX8_init 4 = .ok (.aload_n 0, 1) := by decide +kernel
theorem dX8_init_5 : decode cX8_init 5 = .ok (.aload_n 1, 1) := by decide +kernel
theorem dX8_init_6 : decode cX8_init 6 = .ok (.putfield 9, 3) := by decide +kernel
theorem dX8_init_9 : decode cX8_init 9 = .ok (.aload_n 0, 1) := by decide +kernel
theorem dX8_init_10 : decode cX8_init 10 = .ok (.new 15, 3) := by decide +kernel
theorem dX8_init_13 : decode cX8_init 13 = .ok (.dup, 1) := by decide +kernel
theorem dX8_init_14 : decode cX8_init 14 = .ok (.invokespecial 17, 3) := by decide +kernel
theorem dX8_init_17 : decode cX8_init 17 = .ok (.putfield 18, 3) := by decide +kernel
theorem dX8_init_20 : decode cX8_init 20 = .ok (.return_, 1) := by decide +kernel
theorem fi_X8_init : CdYI mX8_init := ⟨List.mem_of_getElem? (i := 369) (by decide +kernel), List.mem_of_getElem? (i := 145) (by decide +kernel), List.mem_of_getElem? (i := 370) (by decide +kernel), by decide +kernel, by decide +kernel, by decide, rfl, rfl⟩
def f_X8_init (δ : DSt) (l0 : Nat) (l1 : Nat) : Option DSt :=
  (cd_pr δ 8 l0 0 l1).bind fun δ1 =>
  (cd_new δ1 6).bind fun δ2 =>
  (f_X6_init δ2 δ1.1).bind fun δ3 =>
  (cd_pr δ3 8 l0 1 δ1.1).bind fun δ4 =>
  some δ4
set_option maxRecDepth 100000 in
theorem sp_X8_init (G : MG) (d : Nat) (hd : 4 ≤ d) (δ : DSt) (l0 : Nat) (l1 : Nat) : CdSpec G mX8_init d [.ref l0, .ref l1] δ (f_X8_init δ l0 l1) := by
  refine tc_start (pc2 := 20) (lv2 := []) (by decide +kernel) rfl rfl rfl (Nat.le_of_ble_eq_true rfl) dX8_init_20 ?_
  show TrC G mX8_init d δ.1 (cd_z δ.1) 20 [] 0 [(0, .ref l0), (1, .ref l1)] [] δ ((cd_pr δ 8 l0 0 l1).bind fun δ1 => (cd_new δ1 6).bind fun δ2 => (f_X6_init δ2 δ1.1).bind fun δ3 => (cd_pr δ3 8 l0 1 δ1.1).bind fun δ4 => some δ4)
  refine tc_aload_n (i := 0) dX8_init_0 rfl ?_
  refine tc_obj ob_X8 oi_1 oi_2 (by omega) (Nat.le_of_ble_eq_true rfl) dX8_init_1 ?_
  refine tc_aload_n (i := 0) dX8_init_4 rfl ?_
  refine tc_aload_n (i := 1) dX8_init_5 rfl ?_
  refine tc_putr 8 0 cf_X8_init_9 ir_8_0 (fun _ => rfl) (fun _ => rfl) dX8_init_6 (fun δ1 => ?_)
  refine tc_aload_n (i := 0) dX8_init_9 rfl ?_
  refine tc_new 6 (RX6, TX6, 7) rfl nw_X8_15 ni_6 nn_6 dX8_init_10 (fun δ2 => ?_)
  refine tc_dup dX8_init_13 rfl ?_
  refine tc_init (rest := [.ref δ1.1, .ref l0]) (al := []) (sp_X6_init G (d - 1) (by omega) δ2 δ1.1) lk_X8_17 fi_X6_init dX8_init_14 (show _ = some 0 by decide +kernel) (by omega) (Nat.le_of_ble_eq_true rfl) (fun δ3 => ?_)
  refine tc_putr 8 1 cf_X8_init_18 ir_8_1 (fun _ => rfl) (fun _ => rfl) dX8_init_17 (fun δ4 => ?_)
  refine tc_weak [] (lv' := []) rfl ?_
  exact tc_end
abbrev mX9_init : MM := (RX9, cX9_init, 1, none, yX9_init, [])
theorem ob_X9 : Cond.methodLink RX9 3 Lib.objectInit ∈ lw_tbl := List.mem_of_getElem? (i := 178) (by decide +kernel)
theorem hdf_1 {G : MG} : ∀ (δ : DSt) (a k : Nat), cd_v δ.2.2 a k = 0 → cd_s δ a k = false → defaultValue (newarray.typeOf .byte) = cd_av G δ a 1 k := fun δ a k h _ => by show Value.int 0 = Value.int (cd_v δ.2.2 a k); rw [h]
theorem am_1 : Cond.arrayClass (newarray.typeOf .byte) ∈ lw_tbl := List.mem_of_getElem? (i := 213) (by decide +kernel)
theorem cf_X9_init_9 : CdF mX9_init 9 9 0 := ⟨(RX9, TX9, 9), rfl, by decide, List.mem_of_getElem? (i := 179) (by decide +kernel), Or.inr ⟨rfl, rfl, rfl⟩⟩
theorem ir_9_0 : ms_isr 9 0 = true := by decide +kernel
theorem cf_X9_init_15 : CdF mX9_init 15 9 1 := ⟨(RX9, TX9, 9), rfl, by decide, List.mem_of_getElem? (i := 180) (by decide +kernel), Or.inl rfl⟩
theorem ii_9_1 : ms_isr 9 1 = false := by decide +kernel
theorem cf_X9_init_19 : CdF mX9_init 19 9 7 := ⟨(RX9, TX9, 9), rfl, by decide, List.mem_of_getElem? (i := 189) (by decide +kernel), Or.inl rfl⟩
theorem ii_9_7 : ms_isr 9 7 = false := by decide +kernel
theorem cf_X9_init_22 : CdF mX9_init 22 9 8 := ⟨(RX9, TX9, 9), rfl, by decide, List.mem_of_getElem? (i := 192) (by decide +kernel), Or.inl rfl⟩
theorem ii_9_8 : ms_isr 9 8 = false := by decide +kernel
theorem dX9_init_0 : decode cX9_init 0 = .ok (.aload_n 0, 1) := by decide +kernel
theorem dX9_init_1 : decode cX9_init 1 = .ok (.invokespecial 3, 3) := by decide +kernel
theorem dX9_init_4 : decode cX9_init 4 = .ok (.aload_n 0, 1) := by decide +kernel
theorem dX9_init_5 : decode cX9_init 5 = .ok (.sipush 900, 3) := by decide +kernel
theorem dX9_init_8 : decode cX9_init 8 = .ok (.newarray .byte, 2) := by decide +kernel
theorem dX9_init_10 : decode cX9_init 10 = .ok (.putfield 9, 3) := by decide +kernel
theorem dX9_init_13 : decode cX9_init 13 = .ok (.aload_n 0, 1) := by decide +kernel
theorem dX9_init_14 : decode cX9_init 14 = .ok (.iconst 0, 1) := by decide +kernel
theorem dX9_init_15 : decode cX9_init 15 = .ok (.putfield 15, 3) := by decide +kernel
theorem dX9_init_18 : decode cX9_init 18 = .ok (.aload_n 0, 1) := by decide +kernel
theorem dX9_init_19 : decode cX9_init 19 = .ok (.iconst 0, 1) := by decide +kernel
theorem dX9_init_20 : decode cX9_init 20 = .ok (.putfield 19, 3) := by decide +kernel
theorem dX9_init_23 : decode cX9_init 23 = .ok (.aload_n 0, 1) := by decide +kernel
theorem dX9_init_24 : decode cX9_init 24 = .ok (.iconst (-1), 1) := by decide +kernel
theorem dX9_init_25 : decode cX9_init 25 = .ok (.putfield 22, 3) := by decide +kernel
theorem dX9_init_28 : decode cX9_init 28 = .ok (.return_, 1) := by decide +kernel
theorem fi_X9_init : CdYI mX9_init := ⟨List.mem_of_getElem? (i := 176) (by decide +kernel), List.mem_of_getElem? (i := 140) (by decide +kernel), List.mem_of_getElem? (i := 177) (by decide +kernel), by decide +kernel, by decide +kernel, by decide, rfl, rfl⟩
def f_X9_init (δ : DSt) (l0 : Nat) : Option DSt :=
  (cd_arr δ 1 900).bind fun δ1 =>
  (cd_pr δ1 9 l0 0 δ.1).bind fun δ2 =>
  (cd_pi δ2 9 l0 1 0).bind fun δ3 =>
  (cd_pi δ3 9 l0 7 0).bind fun δ4 =>
  (cd_pi δ4 9 l0 8 (-1)).bind fun δ5 =>
  some δ5
set_option maxRecDepth 100000 in
theorem sp_X9_init (G : MG) (d : Nat) (hd : 1 ≤ d) (δ : DSt) (l0 : Nat) : CdSpec G mX9_init d [.ref l0] δ (f_X9_init δ l0) := by
  refine tc_start (pc2 := 28) (lv2 := []) (by decide +kernel) rfl rfl rfl (Nat.le_of_ble_eq_true rfl) dX9_init_28 ?_
  show TrC G mX9_init d δ.1 (cd_z δ.1) 28 [] 0 [(0, .ref l0)] [] δ ((cd_arr δ 1 900).bind fun δ1 => (cd_pr δ1 9 l0 0 δ.1).bind fun δ2 => (cd_pi δ2 9 l0 1 0).bind fun δ3 => (cd_pi δ3 9 l0 7 0).bind fun δ4 => (cd_pi δ4 9 l0 8 (-1)).bind fun δ5 => some δ5)
  refine tc_aload_n (i := 0) dX9_init_0 rfl ?_
  refine tc_obj ob_X9 oi_1 oi_2 (by omega) (Nat.le_of_ble_eq_true rfl) dX9_init_1 ?_
  refine tc_aload_n (i := 0) dX9_init_4 rfl ?_
  refine tc_sipush (v := 900) dX9_init_5 (by decide +kernel) ?_
  refine tc_arr (atype := .byte) 1 (fun _ _ h => h) (by decide) hdf_1 (by decide) am_1 dX9_init_8 (fun δ1 => ?_)
  refine tc_putr 9 0 cf_X9_init_9 ir_9_0 (fun _ => rfl) (fun _ => rfl) dX9_init_10 (fun δ2 => ?_)
  refine tc_aload_n (i := 0) dX9_init_13 rfl ?_
  refine tc_iconst (v := 0) dX9_init_14 (by decide +kernel) ?_
  refine tc_puti 9 1 cf_X9_init_15 ii_9_1 (by decide +kernel) (by decide +kernel) dX9_init_15 (fun δ3 => ?_)
  refine tc_aload_n (i := 0) dX9_init_18 rfl ?_
  refine tc_iconst (v := 0) dX9_init_19 (by decide +kernel) ?_
  refine tc_puti 9 7 cf_X9_init_19 ii_9_7 (by decide +kernel) (by decide +kernel) dX9_init_20 (fun δ4 => ?_)
  refine tc_aload_n (i := 0) dX9_init_23 rfl ?_
  refine tc_iconst (v := (-1)) dX9_init_24 (by decide +kernel) ?_
  refine tc_puti 9 8 cf_X9_init_22 ii_9_8 (by decide +kernel) (by decide +kernel) dX9_init_25 (fun δ5 => ?_)
  refine tc_weak [] (lv' := []) rfl ?_
  exact tc_end
